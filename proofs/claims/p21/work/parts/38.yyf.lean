noncomputable section
/-! THE ORDER: how many, the class's findOrder, the reference's rounds -/
theorem eo_bc : ∀ m : Nat, m < 256 → eq_bc (m : Int) = (eo_cn m 8 : Int) := by decide +kernel
theorem eo_cn_ge {m bn : Nat} (hm : m < 2 ^ bn) (k : Nat) (h : bn ≤ k) : eo_cn m k = eo_cn m bn := by
  have g := eo_cn_gap (m := m) (x := bn) (k - bn) (fun j h1 _ => Nat.testBit_lt_two_pow (Nat.lt_of_lt_of_le hm (Nat.pow_le_pow_right (by decide) h1)))
  have e : bn + (k - bn) = k := by omega
  rw [e] at g
  exact g
theorem ew_on4 {m : Nat} (hm : m < 256) : ∀ (k n j : Nat) (w w1 : px_W) (v : Option Value), j + k = 30 → ec_E hb_X n 200 4 [(0, .inl (m : Int)), (1, .inl (eo_cn m j : Int)), (2, .inl (j : Int))] [] w (v, w1) → w = w1 ∧ ec_W hb_A w1 ∧ v = ec_R (eo_cn m 30 : Int) := by
  intro k
  induction k with
  | zero =>
    intro n j w w1 v hj h
    have ej : j = 30 := by omega
    rw [ej] at h
    obtain ⟨_, hr, hW⟩ := eg200_4_0 h (Int.le_refl _)
    injection hr with e1 e2
    rw [e2]
    exact ⟨rfl, hW, e1⟩
  | succ k ih =>
    intro n j w w1 v hj h
    have t30 : ec_tw 30 = 30 := rfl
    have l := eg200_4_1 h
    rw [ec_bit (by omega) (by omega), ec_twn (n := j) (by omega), t30] at l
    have h2 := (l (by omega)).2
    have e : (eo_cn m j : Int) + (if Nat.testBit m j = true then 1 else 0) = (eo_cn m (j + 1) : Int) := by
      show _ = ((eo_cn m j + (if Nat.testBit m j = true then 1 else 0) : Nat) : Int)
      by_cases q : Nat.testBit m j = true
      · rw [if_pos q, if_pos q]
        omega
      · rw [if_neg q, if_neg q]
        omega
    rw [e] at h2
    exact ih n (j + 1) w w1 v (by omega) h2
theorem ew_ones {n m : Nat} {w w1 : px_W} {v : Option Value} (hm : m < 256) (h : ec_E hb_X n 200 0 [(0, .inl (m : Int))] [] w (v, w1)) : w = w1 ∧ ec_W hb_A w1 ∧ v = ec_R (eo_cn m 30 : Int) := ew_on4 hm 30 n 0 w w1 v (by omega) (eg200_0_0 h).2
theorem eo_V_in {E : Nat → Nat → Int} {p Se : Nat → Int} {bn gn : Nat} (h8 : bn ≤ 8) (h10 : gn ≤ 10) (hp : ∀ g, g < gn → 0 ≤ p g ∧ p g ≤ 50) (hS : ∀ b, b < bn → 0 ≤ Se b ∧ Se b ≤ 65) (L : Nat → Int) : 0 ≤ eo_V E p Se bn gn L ∧ eo_V E p Se bn gn L ≤ 1020 := by
  have ss := eq_ss_in (Se := Se) (x := 2 ^ bn - 1) bn hS
  have lo := eq_mn_ge (f := eq_C Se p (fun g => eq_M (E g) L bn) bn gn) (a := ef_ss Se bn (2 ^ bn - 1)) (z := 0) (2 ^ bn) ss.1 (fun x _ => (eq_C_in h8 h10 hS hp).1)
  have hi := (eq_mn_le (f := eq_C Se p (fun g => eq_M (E g) L bn) bn gn) (a := ef_ss Se bn (2 ^ bn - 1)) (2 ^ bn)).1
  unfold eo_V
  omega
section EO4
variable {gn bn N : Nat} {E : Nat → Nat → Int} {p Se T : Nat → Int} {now lab : Int}
theorem eo_T_in (hN : N ≤ 6) (hnow : 0 ≤ now ∧ now ≤ 999) (hlab : 1 ≤ lab ∧ lab ≤ 30) (hT : ∀ i, T i = now + (i : Int) * lab) (i : Nat) (hi : i ≤ N) : 0 ≤ T i ∧ T i ≤ 2000 := by
  rw [hT i]
  have h1 : 0 ≤ (i : Int) * lab := Int.mul_nonneg (by omega) (by omega)
  have h2 : (i : Int) * lab ≤ 6 * 30 := Int.mul_le_mul (by omega) (by omega) (by omega) (by omega)
  omega
theorem ew_fo26 {m : Nat} {Lo0 : Nat → Int} (h8 : bn ≤ 8) (hm : m < 2 ^ bn) (hTN : T N = now + (N : Int) * lab) (hTi : -2147483648 ≤ T N ∧ T N ≤ 2147483647) : ∀ (k n j : Nat) (w : px_W) (r : Option Value × px_W), j + k = bn → ec_W hb_A w → ec_fd w 126 6 = (bn : Int) → ec_fd w 126 14 = (N : Int) → (∀ i, i < bn → ef_a w 132 i = if i < j ∧ Nat.testBit m i = true then T N else Lo0 i) → ec_E hb_X n 106 26 [(0, .inr (.inl 190)), (1, .inl (m : Int)), (2, .inl now), (3, .inl lab), (4, .inl (j : Int))] [] w r → ∃ w' : px_W, ec_W hb_A w' ∧ ef_s [132] w w' ∧ (∀ i, i < bn → ef_a w' 132 i = if Nat.testBit m i = true then T N else Lo0 i) ∧ ec_E hb_X n 106 26 [(0, .inr (.inl 190)), (1, .inl (m : Int)), (2, .inl now), (3, .inl lab), (4, .inl (bn : Int))] [] w' r := by
  have p8 := eq_pw h8
  intro k
  induction k with
  | zero =>
    intro n j w r hj hW h6 h14 hL h
    have ej : j = bn := by omega
    rw [ej] at h hL
    refine ⟨w, hW, ef_s_refl, fun i hi => ?_, h⟩
    rw [hL i hi]
    by_cases q : Nat.testBit m i = true
    · rw [if_pos ⟨hi, q⟩, if_pos q]
    · rw [if_neg (fun x => q x.2), if_neg q]
  | succ k ih =>
    intro n j w r hj hW h6 h14 hL h
    have tj : ec_tw (j : Int) = j := ec_twn (by omega)
    have t1 : ec_tw 1 = 1 := rfl
    have l1 := eg106_126_26_1 h
    have l2 := eg106_126_26_2 h
    rw [tj, h6, ec_twn (n := bn) (by omega), ec_bitT (by omega) (by omega), t1] at l1 l2
    by_cases q : Nat.testBit m j = true
    · have h2 := (l2 (by omega) (by rw [if_pos q])).2
      rw [h14, ← hTN] at h2
      obtain ⟨w', W', s', e', h'⟩ := ih n (j + 1) _ r (by omega) (ec_W_wr hW) ((ec_fd_wr_o (by decide)).trans h6) ((ec_fd_wr_o (by decide)).trans h14) (fun i hi => by
        rw [ef_a_wr (n := 8) hW rfl (by omega) (by omega), ec_tw_id hTi.1 hTi.2]
        unfold ef_u
        rw [Int.toNat_natCast]
        by_cases c : i = j
        · rw [if_pos c, if_pos ⟨by omega, by rw [c]; exact q⟩]
        · rw [if_neg c, hL i hi]
          by_cases t : Nat.testBit m i = true
          · by_cases d : i < j
            · rw [if_pos ⟨d, t⟩, if_pos ⟨by omega, t⟩]
            · rw [if_neg (fun x => d x.1), if_neg (fun x => d (by have := x.1; omega))]
          · rw [if_neg (fun x => t x.2), if_neg (fun x => t x.2)]) h2
      exact ⟨w', W', ef_s_trans (ef_s_wr List.mem_cons_self) s', e', h'⟩
    · refine ih n (j + 1) w r (by omega) hW h6 h14 (fun i hi => ?_) (l1 (by omega) (by rw [if_neg q]; decide)).2
      rw [hL i hi]
      by_cases t : Nat.testBit m i = true
      · have hne : i ≠ j := fun e => q (by rw [← e]; exact t)
        by_cases d : i < j
        · rw [if_pos ⟨d, t⟩, if_pos ⟨by omega, t⟩]
        · rw [if_neg (fun x => d x.1), if_neg (fun x => d (by have := x.1; omega))]
      · rw [if_neg (fun x => t x.2), if_neg (fun x => t x.2)]
theorem ew_foA {m n : Nat} {Lo0 : Nat → Int} {w : px_W} {r : Option Value × px_W} (h8 : bn ≤ 8) (h10 : gn ≤ 10) (hN : N ≤ 6) (hN1 : 1 ≤ N) (hp : ∀ g, g < gn → 0 ≤ p g ∧ p g ≤ 50) (hS : ∀ b, b < bn → 0 ≤ Se b ∧ Se b ≤ 65) (hnow : 0 ≤ now ∧ now ≤ 999) (hlab : 1 ≤ lab ∧ lab ≤ 30) (hT : ∀ i, T i = now + (i : Int) * lab) (hm : m < 2 ^ bn) (hc : eo_cn m bn = N) (h5 : ec_fd w 126 5 = (gn : Int)) (h6 : ec_fd w 126 6 = (bn : Int)) (e133 : ∀ g b, g < gn → b < bn → ef_a w 133 (g * 8 + b) = E g b) (e130 : ∀ g, g < gn → ef_a w 130 g = p g) (e134 : ∀ y, y < 2 ^ bn → ef_a w 134 y = ef_ss Se bn y) (e132 : ∀ i, i < bn → ef_a w 132 i = Lo0 i) (h : ec_E hb_X n 106 0 [(0, .inr (.inl 190)), (1, .inl (m : Int)), (2, .inl now), (3, .inl lab)] [] w r) : ∃ w' : px_W, r = (none, w') ∧ ec_W hb_A w' ∧ ef_s eq_S6 w w' ∧ ∃ pk q : Nat → Int, ec_fd w' 126 3 = (eo_tr (eo_V E p Se bn gn) T N bn N (fun i => if Nat.testBit m i = true then T N else Lo0 i) m pk (-1, q)).1 ∧ ∀ i, i < N → ef_a w' 129 i = (eo_tr (eo_V E p Se bn gn) T N bn N (fun i => if Nat.testBit m i = true then T N else Lo0 i) m pk (-1, q)).2 i := by
  have p8 := eq_pw h8
  have TN := eo_T_in hN hnow hlab hT N (Nat.le_refl _)
  obtain ⟨_, v1, w1, a1, a2⟩ := eg106_126_0_0 h
  obtain ⟨i1, W1, e1⟩ := ew_bc a1
  subst i1
  have a3 := (eg106_126_5_0 (a2 _ e1 W1)).2
  have eN : eq_bc (m : Int) = (N : Int) := by rw [eo_bc m (by omega), eo_cn_ge hm 8 h8, hc]
  rw [eN] at a3
  have Wa : ec_W hb_A (ec_pf w 126 14 (N : Int)) := ec_W_pf (k := 126) (f := 14) rfl rfl W1
  have Wb : ec_W hb_A (ec_pf (ec_pf w 126 14 (N : Int)) 126 15 now) := ec_W_pf (k := 126) (f := 15) rfl rfl Wa
  have Wc : ec_W hb_A (ec_pf (ec_pf (ec_pf w 126 14 (N : Int)) 126 15 now) 126 16 lab) := ec_W_pf (k := 126) (f := 16) rfl rfl Wb
  have Wd : ec_W hb_A (ec_pf (ec_pf (ec_pf (ec_pf w 126 14 (N : Int)) 126 15 now) 126 16 lab) 126 3 (-1)) := ec_W_pf (k := 126) (f := 3) rfl rfl Wc
  have F : ∀ g, ec_fd (ec_pf (ec_pf (ec_pf (ec_pf w 126 14 (N : Int)) 126 15 now) 126 16 lab) 126 3 (-1)) 126 g = if g = 3 then ec_tw (-1) else if g = 16 then ec_tw lab else if g = 15 then ec_tw now else if g = 14 then ec_tw (N : Int) else ec_fd w 126 g := by
    intro g
    rw [ec_fd_pf (k := 126) (f := 3) Wc rfl (by decide), ec_fd_pf (k := 126) (f := 16) Wb rfl (by decide), ec_fd_pf (k := 126) (f := 15) Wa rfl (by decide), ec_fd_pf (k := 126) (f := 14) W1 rfl (by decide)]
  have Sd : ef_s [126] w (ec_pf (ec_pf (ec_pf (ec_pf w 126 14 (N : Int)) 126 15 now) 126 16 lab) 126 3 (-1)) := ef_s_trans (ef_s_trans (ef_s_trans (ef_s_pf (by decide)) (ef_s_pf (by decide))) (ef_s_pf (by decide))) (ef_s_pf (by decide))
  have F5 : ec_fd (ec_pf (ec_pf (ec_pf (ec_pf w 126 14 (N : Int)) 126 15 now) 126 16 lab) 126 3 (-1)) 126 5 = (gn : Int) := by
    rw [F 5, if_neg (by decide), if_neg (by decide), if_neg (by decide), if_neg (by decide)]
    exact h5
  have F6 : ec_fd (ec_pf (ec_pf (ec_pf (ec_pf w 126 14 (N : Int)) 126 15 now) 126 16 lab) 126 3 (-1)) 126 6 = (bn : Int) := by
    rw [F 6, if_neg (by decide), if_neg (by decide), if_neg (by decide), if_neg (by decide)]
    exact h6
  have F14 : ec_fd (ec_pf (ec_pf (ec_pf (ec_pf w 126 14 (N : Int)) 126 15 now) 126 16 lab) 126 3 (-1)) 126 14 = (N : Int) := by
    rw [F 14, if_neg (by decide), if_neg (by decide), if_neg (by decide), if_pos rfl]
    exact ec_twn (by omega)
  have F15 : ec_fd (ec_pf (ec_pf (ec_pf (ec_pf w 126 14 (N : Int)) 126 15 now) 126 16 lab) 126 3 (-1)) 126 15 = now := by
    rw [F 15, if_neg (by decide), if_neg (by decide), if_pos rfl]
    exact ec_tw_id (by omega) (by omega)
  have F16 : ec_fd (ec_pf (ec_pf (ec_pf (ec_pf w 126 14 (N : Int)) 126 15 now) 126 16 lab) 126 3 (-1)) 126 16 = lab := by
    rw [F 16, if_neg (by decide), if_pos rfl]
    exact ec_tw_id (by omega) (by omega)
  have F3 : ec_fd (ec_pf (ec_pf (ec_pf (ec_pf w 126 14 (N : Int)) 126 15 now) 126 16 lab) 126 3 (-1)) 126 3 = -1 := by
    rw [F 3, if_pos rfl]
    rfl
  obtain ⟨y, Wy, s', e', h'⟩ := ew_fo26 (T := T) (N := N) (Lo0 := Lo0) h8 hm (hT N) ⟨by omega, by omega⟩ bn n 0 _ r (by omega) Wd F6 F14 (fun i hi => by rw [ef_s_a Sd (by decide), e132 i hi, if_neg (fun x => absurd x.1 (Nat.not_lt_zero _))]) a3
  have G : ∀ g, ec_fd y 126 g = ec_fd (ec_pf (ec_pf (ec_pf (ec_pf w 126 14 (N : Int)) 126 15 now) 126 16 lab) 126 3 (-1)) 126 g := fun g => ef_s_f s' (by decide) g
  have S2 : ef_s [126, 132] w y := ef_s_trans (ef_s_mono Sd (by decide)) (ef_s_mono s' (by decide))
  have St : eo_St gn bn N E p Se now lab y := by
    refine ⟨⟨(G 5).trans F5, (G 6).trans F6, (G 14).trans F14, (G 15).trans F15, (G 16).trans F16⟩, ?_, ?_, ?_⟩
    · rw [ef_s_a S2 (by decide)]
      exact e133
    · rw [ef_s_a S2 (by decide)]
      exact e130
    · rw [ef_s_a S2 (by decide)]
      exact e134
  obtain ⟨_, v2, w2, b1, b2⟩ := eg106_126_26_0 h' (by rw [G 6, F6]; exact Int.le_refl _)
  have Dy : eo_Dy bn N 0 (fun i => if Nat.testBit m i = true then T N else Lo0 i) (ef_a y 136) (-1, ef_a y 129) y := ⟨e', fun i hi => absurd hi (Nat.not_lt_zero _), (G 3).trans F3, fun i _ => rfl⟩
  obtain ⟨w', e2, W2, S3, _, D2⟩ := ew_pick h8 h10 hN hp hS hnow hlab hT (N - 1) n 0 m _ _ _ y (v2, w2) (by omega) hm (by omega) St Dy (fun j hj hb => if_pos hb) b1
  have eN1 : N - 1 + 1 = N := by omega
  rw [eN1] at D2
  injection e2 with e2 i2
  subst i2
  obtain ⟨_, hr, _⟩ := eg106_126_72_0 (b2 e2 W2)
  exact ⟨w2, hr, W2, ef_s_trans (ef_s_mono S2 (by decide)) S3, _, _, D2.2.2.1, D2.2.2.2⟩
/-! the reference -/
def eo_SB : List Nat := [159, 160, 161, 162, 163, 165, 166, 167]
theorem eo_ls0 {m : Nat} (hm : m < 2 ^ bn) (hc : eo_cn m bn = N) : (∀ a, a < N → eo_nt m a bn < bn) ∧ (∀ a a', a < a' → a' < N → eo_nt m a bn < eo_nt m a' bn) ∧ eo_ls N bn (fun a => eo_nt m a bn) 0 m := by
  have key : ∀ a, a < N → ∃ j, Nat.testBit m j = true ∧ j < bn ∧ eo_cn m j = a ∧ eo_nt m a bn = j := by
    intro a ha
    obtain ⟨j, j1, j2, j3⟩ := eo_ex (m := m) (s := a) bn (by rw [hc]; exact ha)
    exact ⟨j, j1, j2, j3, eo_nt_eq j1 j3 bn j2⟩
  refine ⟨fun a ha => ?_, fun a a' h1 h2 => ?_, fun a ha => ?_, fun j hj => ?_⟩
  · obtain ⟨j, _, j2, _, j4⟩ := key a ha
    rw [j4]
    exact j2
  · obtain ⟨j, j1, j2, j3, j4⟩ := key a (by omega)
    obtain ⟨i, i1, i2, i3, i4⟩ := key a' h2
    rw [j4, i4]
    by_cases q : j < i
    · exact q
    · have h3 := eo_cn_mono (m := m) (j - i) i
      have e : i + (j - i) = j := by omega
      rw [e] at h3
      omega
  · obtain ⟨j, j1, j2, j3, j4⟩ := key a ha
    show Nat.testBit m (eo_nt m a bn) = !(Nat.testBit 0 a)
    rw [j4, j1, Nat.zero_testBit]
    rfl
  · have hl : j < bn := by
      by_cases q : j < bn
      · exact q
      · have h1 := Nat.ge_two_pow_of_testBit hj
        have h2 : 2 ^ bn ≤ 2 ^ j := Nat.pow_le_pow_right (by decide) (by omega)
        omega
    exact ⟨eo_cn m j, by rw [← hc]; exact eo_cn_lt hj hl, eo_nt_eq hj rfl bn hl⟩
theorem ew_or57 {m : Nat} {x2 x3 : Int} (h8 : bn ≤ 8) (hm : m < 2 ^ bn) (hc : eo_cn m bn = N) (hN : N ≤ 6) : ∀ (k n j : Nat) (w : px_W) (z : Option Value × px_W), j + k = bn → ec_W hb_A w → ef_a w 152 5 = (bn : Int) → (∀ a, a < eo_cn m j → ef_a w 165 a = (eo_nt m a bn : Int)) → ec_E hb_X n 226 57 [(0, .inr (.inl 215)), (1, .inl (m : Int)), (2, .inl x2), (3, .inl x3), (4, .inl (N : Int)), (5, .inl (eo_cn m j : Int)), (6, .inl (eo_f (eo_cn m j) : Int)), (7, .inl (j : Int))] [] w z → ∃ w' : px_W, ec_W hb_A w' ∧ ef_s [165] w w' ∧ (∀ a, a < N → ef_a w' 165 a = (eo_nt m a bn : Int)) ∧ ec_E hb_X n 226 109 [(0, .inr (.inl 215)), (1, .inl (m : Int)), (2, .inl x2), (3, .inl x3), (4, .inl (N : Int)), (5, .inl (N : Int)), (6, .inl (eo_f N : Int)), (7, .inl (-1)), (8, .inl 0)] [] w' z := by
  have p8 := eq_pw h8
  intro k
  induction k with
  | zero =>
    intro n j w z hj hW hb5 hL h
    have ej : j = bn := by omega
    rw [ej, hc] at h hL
    have e5 : ec_rd w 152 (ec_tw 5) = (bn : Int) := hb5
    have l := eg226_151_57_0 h
    rw [e5] at l
    exact ⟨w, hW, ef_s_refl, hL, (l (Int.le_refl _)).2⟩
  | succ k ih =>
    intro n j w z hj hW hb5 hL h
    have tj : ec_tw (j : Int) = j := ec_twn (by omega)
    have t1 : ec_tw 1 = 1 := rfl
    have e5 : ec_rd w 152 (ec_tw 5) = (bn : Int) := hb5
    have l1 := eg226_151_57_1 h
    have l2 := eg226_151_57_2 h
    rw [e5, tj, ec_twn (n := bn) (by omega), ec_bitT (by omega) (by omega), t1] at l1 l2
    by_cases q : Nat.testBit m j = true
    · have cs : eo_cn m (j + 1) = eo_cn m j + 1 := by
        show eo_cn m j + (if Nat.testBit m j = true then 1 else 0) = _
        rw [if_pos q]
      have lt : eo_cn m j < N := by
        rw [← hc]
        exact eo_cn_lt q (by omega)
      have h3 := (eg226_151_97_0 (l2 (by omega) (by rw [if_pos q])).2).2
      have e1 : (eo_cn m j : Int) + 1 = (eo_cn m (j + 1) : Int) := by omega
      have e2 : (eo_f (eo_cn m j) : Int) * ((eo_cn m j : Int) + 1) = (eo_f (eo_cn m (j + 1)) : Int) := by
        rw [cs]
        show _ = (((eo_cn m j + 1) * eo_f (eo_cn m j) : Nat) : Int)
        rw [Int.natCast_mul, Int.mul_comm, Int.natCast_add]
        rfl
      rw [e2, e1, ec_twn (n := eo_cn m j) (by omega)] at h3
      obtain ⟨w', W', s', e', h'⟩ := ih n (j + 1) _ z (by omega) (ec_W_wr hW) (by rw [ef_a_wr_o (by decide)]; exact hb5) (fun a ha => by
        rw [ef_a_wr (n := 6) hW rfl (by omega) (by omega), tj]
        unfold ef_u
        rw [Int.toNat_natCast]
        by_cases c : a = eo_cn m j
        · rw [if_pos c, c, eo_nt_eq q rfl bn (by omega)]
        · rw [if_neg c]
          exact hL a (by omega)) h3
      exact ⟨w', W', ef_s_trans (ef_s_wr List.mem_cons_self) s', e', h'⟩
    · have cs : eo_cn m (j + 1) = eo_cn m j := by
        show eo_cn m j + (if Nat.testBit m j = true then 1 else 0) = _
        rw [if_neg q]
        rfl
      have h3 := (eg226_151_97_0 (l1 (by omega) (by rw [if_neg q]; decide)).2).2
      rw [← cs] at h3
      exact ih n (j + 1) w z (by omega) hW hb5 (fun a ha => hL a (by omega)) h3
theorem ew_or131 {m : Nat} {x3 x5 x6 x7 x8 : Int} {P : Nat → Int} (hN : N ≤ 6) (hnow : 0 ≤ now ∧ now ≤ 999) (hlab : 1 ≤ lab ∧ lab ≤ 30) (hT : ∀ i, T i = now + (i : Int) * lab) : ∀ (c n i : Nat) (L : Nat → Int) (w : px_W) (z : Option Value × px_W), i + c = N → ec_W hb_A w → ef_a w 152 0 = now → (∀ q, q < N → ef_a w 166 q = P q) → (∀ b, b < bn → ef_a w 160 b = L b ∧ L b ≤ 99999) → ec_E hb_X n 226 131 [(0, .inr (.inl 215)), (1, .inl (m : Int)), (2, .inl lab), (3, .inl x3), (4, .inl (N : Int)), (5, .inl x5), (6, .inl x6), (7, .inl x7), (8, .inl x8), (9, .inl (i : Int))] [] w z → ∃ w' : px_W, ec_W hb_A w' ∧ ef_s [160] w w' ∧ (∀ b, b < bn → ef_a w' 160 b = eo_rw P T c i L b ∧ eo_rw P T c i L b ≤ 99999) ∧ ec_E hb_X n 226 131 [(0, .inr (.inl 215)), (1, .inl (m : Int)), (2, .inl lab), (3, .inl x3), (4, .inl (N : Int)), (5, .inl x5), (6, .inl x6), (7, .inl x7), (8, .inl x8), (9, .inl (N : Int))] [] w' z := by
  intro c
  induction c with
  | zero =>
    intro n i L w z hi hW h0 hP hL h
    have ei : i = N := by omega
    rw [ei] at h
    exact ⟨w, hW, ef_s_refl, hL, h⟩
  | succ c ih =>
    intro n i L w z hi hW h0 hP hL h
    have ti : ec_tw (i : Int) = i := ec_twn (by omega)
    have ep : ec_rd w 166 (i : Int) = P i := hP i (by omega)
    have tP : ec_tw (P i) = P i := by
      rw [← ep]
      exact ec_tw_rd _ _ _
    have e0 : ec_rd w 152 (ec_tw 0) = now := h0
    have eT : now + lab * ((i : Int) + 1) = T (i + 1) := by
      rw [hT (i + 1), Int.mul_comm]
      rfl
    have Ti := eo_T_in hN hnow hlab hT (i + 1) (by omega)
    have l := eg226_151_131_1 h
    rw [ti, ec_twn (n := N) (by omega), ep, tP, e0, eT] at l
    obtain ⟨⟨_, g1, g2⟩, h2⟩ := l (by omega)
    obtain ⟨w', W', s', e', h'⟩ := ih n (i + 1) (ef_u L (P i).toNat (T (i + 1))) _ z (by omega) (ec_W_wr hW) (by rw [ef_a_wr_o (by decide)]; exact h0) (fun q hq => by rw [ef_a_wr_o (by decide)]; exact hP q hq) (fun b hb => by
      rw [ef_a_wr (n := 8) hW rfl g1 g2, ec_tw_id (a := T (i + 1)) (by omega) (by omega)]
      unfold ef_u
      by_cases q : b = (P i).toNat
      · rw [if_pos q, if_pos q]
        exact ⟨rfl, by omega⟩
      · rw [if_neg q, if_neg q]
        exact hL b hb) h2
    exact ⟨w', W', ef_s_trans (ef_s_wr List.mem_cons_self) s', e', h'⟩
theorem ew_or182 {x1 x2 x3 x5 x6 x8 v b : Int} (hN : N ≤ 6) (hv : -2147483648 ≤ v ∧ v ≤ 2147483647) (hb : -2147483648 ≤ b ∧ b ≤ 2147483647) (hlt : b < v) : ∀ (c n i : Nat) (w : px_W) (z : Option Value × px_W), i + c = N → ec_W hb_A w → ec_E hb_X n 226 182 [(0, .inr (.inl 215)), (1, .inl x1), (2, .inl x2), (3, .inl x3), (4, .inl (N : Int)), (5, .inl x5), (6, .inl x6), (7, .inl b), (8, .inl x8), (9, .inl v), (10, .inl (i : Int))] [] w z → ∃ w' : px_W, ec_W hb_A w' ∧ ef_s [167] w w' ∧ (∀ q, q < N → ef_a w' 167 q = if i ≤ q then ef_a w 166 q else ef_a w 167 q) ∧ ec_E hb_X n 226 216 [(0, .inr (.inl 215)), (1, .inl x1), (2, .inl x2), (3, .inl x3), (4, .inl (N : Int)), (5, .inl x5), (6, .inl x6), (7, .inl b), (8, .inl x8), (9, .inl v)] [] w' z := by
  intro c
  induction c with
  | zero =>
    intro n i w z hi hW h
    have ei : i = N := by omega
    rw [ei] at h
    exact ⟨w, hW, ef_s_refl, fun q hq => by rw [if_neg (by omega)], (eg226_151_182_0 h (Int.le_refl _)).2⟩
  | succ c ih =>
    intro n i w z hi hW h
    have ti : ec_tw (i : Int) = i := ec_twn (by omega)
    have l := eg226_151_182_2 h
    rw [ti, ec_twn (n := N) (by omega), ec_tw_id hb.1 hb.2, ec_tw_id hv.1 hv.2, ef_rd w 166 i] at l
    obtain ⟨w', W', s', e', h'⟩ := ih n (i + 1) _ z (by omega) (ec_W_wr hW) (l (by omega) hlt).2
    refine ⟨w', W', ef_s_trans (ef_s_wr List.mem_cons_self) s', fun q hq => ?_, h'⟩
    rw [e' q hq, ef_a_wr (n := 6) hW rfl (by omega) (by omega), ef_a_wr_o (by decide), ef_tw]
    unfold ef_u
    rw [Int.toNat_natCast]
    by_cases c1 : i + 1 ≤ q
    · rw [if_pos c1, if_pos (by omega)]
    · rw [if_neg c1]
      by_cases c2 : q = i
      · rw [if_pos c2, if_pos (by omega), c2]
      · rw [if_neg c2, if_neg (by omega)]
theorem eo_fo_rg {V : (Nat → Int) → Int} {Lo pk : Nat → Int} {m : Nat} {b : eo_B} (hV : ∀ L, 0 ≤ V L ∧ V L ≤ 1020) (hb : b.1 = -1) : ∀ c, -1 ≤ (eo_fo (eo_F V T N bn N Lo pk m) 0 c b).1 ∧ (eo_fo (eo_F V T N bn N Lo pk m) 0 c b).1 ≤ 1020
  | 0 => by
    show -1 ≤ b.1 ∧ b.1 ≤ 1020
    omega
  | c + 1 => by
    have ih := eo_fo_rg (Lo := Lo) (pk := pk) (m := m) hV hb c
    have v := hV (eo_LP T N bn N Lo pk m (0 + c)).1
    show -1 ≤ (eo_up (eo_fo (eo_F V T N bn N Lo pk m) 0 c b) (V (eo_LP T N bn N Lo pk m (0 + c)).1) (eo_LP T N bn N Lo pk m (0 + c)).2).1 ∧ (eo_up (eo_fo (eo_F V T N bn N Lo pk m) 0 c b) (V (eo_LP T N bn N Lo pk m (0 + c)).1) (eo_LP T N bn N Lo pk m (0 + c)).2).1 ≤ 1020
    unfold eo_up
    split
    · show -1 ≤ V (eo_LP T N bn N Lo pk m (0 + c)).1 ∧ V (eo_LP T N bn N Lo pk m (0 + c)).1 ≤ 1020
      omega
    · exact ih
theorem ew_or109 {V : (Nat → Int) → Int} {D Lo pk : Nat → Int} {m : Nat} {x3 : Int} {b0 : eo_B} (h8 : bn ≤ 8) (hN : N ≤ 6) (h1 : 1 ≤ N) (hm : m < 2 ^ bn) (hc : eo_cn m bn = N) (hnow : 0 ≤ now ∧ now ≤ 999) (hlab : 1 ≤ lab ∧ lab ≤ 30) (hT : ∀ i, T i = now + (i : Int) * lab) (hV : ∀ L, 0 ≤ V L ∧ V L ≤ 1020) (hb0 : b0.1 = -1) (hD5 : D 5 = (bn : Int)) (hD0 : D 0 = now) (hLo : ∀ b, b < bn → D (216 + 4 * b + 2) = Lo b ∧ Lo b ≤ 99999) (r3 : -2147483648 ≤ x3 ∧ x3 ≤ 2147483647) (hval : ∀ (n : Nat) (y : px_W) (v : Option Value) (y2 : px_W) (L : Nat → Int), ef_a y 152 = D → (∀ b, b < bn → ef_a y 160 b = L b ∧ L b ≤ 99999) → ec_E hb_X n 215 0 [(0, .inr (.inl 215))] [] y (v, y2) → v = none ∧ ec_W hb_A y2 ∧ ef_s ef_S5 y y2 ∧ ∀ (n : Nat) (v' : Option Value) (y3 : px_W), ec_E hb_X n 217 0 [(0, .inr (.inl 215))] [] y2 (v', y3) → v' = ec_R (V L) ∧ y2 = y3 ∧ ec_W hb_A y3) : ∀ (c n k : Nat) (w : px_W) (z : Option Value × px_W), k + c = eo_f N → ec_W hb_A w → ef_a w 152 = D → (∀ a, a < N → ef_a w 165 a = (eo_nt m a bn : Int)) → (∀ i, i < N → ef_a w 167 i = (eo_fo (eo_F V T N bn N Lo pk m) 0 k b0).2 i) → ec_E hb_X n 226 109 [(0, .inr (.inl 215)), (1, .inl (m : Int)), (2, .inl lab), (3, .inl x3), (4, .inl (N : Int)), (5, .inl (N : Int)), (6, .inl (eo_f N : Int)), (7, .inl (eo_fo (eo_F V T N bn N Lo pk m) 0 k b0).1), (8, .inl (k : Int))] [] w z → ∃ w' : px_W, z = (ec_R (if x3 < 0 then (eo_fo (eo_F V T N bn N Lo pk m) 0 (eo_f N) b0).1 else if x3 < (N : Int) then (eo_fo (eo_F V T N bn N Lo pk m) 0 (eo_f N) b0).2 x3.toNat else -3), w') ∧ ec_W hb_A w' ∧ ef_s eo_SB w w' := by
  have f6 := eo_f_6 hN
  have t0 : ec_tw 0 = 0 := rfl
  have tx : ec_tw x3 = x3 := ec_tw_id r3.1 r3.2
  have tN : ec_tw (N : Int) = N := ec_twn (by omega)
  obtain ⟨ls1, ls2, ls3⟩ := eo_ls0 hm hc
  intro c
  induction c with
  | zero =>
    intro n k w z hk hW e152 e165 e167 h
    have ek : k = eo_f N := by omega
    rw [ek] at h e167
    have l0 := eg226_151_109_0 h (Int.le_refl _)
    have l1 := eg226_151_109_1 h (Int.le_refl _)
    have l2 := eg226_151_109_2 h (Int.le_refl _)
    rw [tx, t0, tN] at l0 l1
    rw [tx, t0] at l2
    by_cases c1 : x3 < 0
    · rw [if_pos c1]
      exact ⟨w, (l2 c1).2.1, hW, ef_s_refl⟩
    · rw [if_neg c1]
      by_cases c2 : x3 < (N : Int)
      · rw [if_pos c2]
        have hz := (l1 (by omega) c2).2.1
        have ex : x3 = ((x3.toNat : Nat) : Int) := by omega
        have er : ec_rd w 167 x3 = ef_a w 167 x3.toNat := by
          rw [← ef_rd, ← ex]
        rw [er, e167 x3.toNat (by omega)] at hz
        exact ⟨w, hz, hW, ef_s_refl⟩
      · rw [if_neg c2]
        exact ⟨w, (l0 (by omega) (by omega)).2.1, hW, ef_s_refl⟩
  | succ c ih =>
    intro n k w z hk hW e152 e165 e167 h
    have bin := eo_fo_rg (T := T) (N := N) (bn := bn) (Lo := Lo) (pk := pk) (m := m) hV hb0 k
    have vin := hV (eo_LP T N bn N Lo pk m k).1
    have l := eg226_151_109_3 h
    rw [ec_twn (n := k) (by omega), ec_twn (n := eo_f N) (by omega)] at l
    obtain ⟨_, v1, w1, a1, a2⟩ := l (by omega)
    obtain ⟨w1', e1, W1, s1, q1⟩ := ew_foB (T := T) (Lo := Lo) (pk := pk) hN h1 h8 ls1 ls2 hm ls3 hc (by omega : k < eo_f N) e165 a1
    injection e1 with e1 i1
    subst i1
    obtain ⟨_, v2, w2, a3, a4⟩ := eg226_151_124_0 (a2 e1 W1)
    have d1 : ef_a w1 152 = D := (ef_s_a s1 (by decide)).trans e152
    obtain ⟨w2', e2, W2, s2, q2⟩ := ew_layB (bn := bn) h8 (by rw [d1]; exact hD5) a3
    injection e2 with e2 i2
    subst i2
    have d2 : ef_a w2 152 = D := (ef_s_a s2 (by decide)).trans d1
    have p2 : ∀ q, q < N → ef_a w2 166 q = (eo_LP T N bn N Lo pk m k).2 q := by
      rw [ef_s_a s2 (by decide)]
      exact q1
    obtain ⟨w3, W3, s3, q3, h3⟩ := ew_or131 (bn := bn) (P := (eo_LP T N bn N Lo pk m k).2) hN hnow hlab hT N n 0 Lo w2 z (by omega) W2 (by rw [d2]; exact hD0) p2 (fun b hb => ⟨by rw [q2 b hb, d1]; exact (hLo b hb).1, (hLo b hb).2⟩) (eg226_151_128_0 (a4 e2 W2)).2
    have eLP := eo_LP_rw (T := T) (bn := bn) N Lo pk m k (Nat.le_refl N)
    rw [Nat.sub_self] at eLP
    rw [← eLP] at q3
    obtain ⟨_, v4, w4, a5, a6⟩ := eg226_151_131_0 h3 (Int.le_refl _)
    have d3 : ef_a w3 152 = D := (ef_s_a s3 (by decide)).trans d2
    obtain ⟨e4, W4, s4, nx⟩ := hval n w3 v4 w4 _ d3 q3 a5
    obtain ⟨_, v5, w5, a7, a8⟩ := eg226_151_173_0 (a6 e4 W4)
    obtain ⟨e5, i5, W5⟩ := nx n v5 w5 a7
    subst i5
    have h182 := (eg226_151_177_0 (a8 _ e5 W5)).2
    have S14 : ef_s eo_SB w w4 := ef_s_trans (ef_s_trans (ef_s_trans (ef_s_mono s1 (by decide)) (ef_s_mono s2 (by decide))) (ef_s_mono s3 (by decide))) (ef_s_mono s4 (by decide))
    have d4 : ef_a w4 152 = D := (ef_s_a s4 (by decide)).trans d3
    have f4 : ef_a w4 165 = ef_a w 165 := (ef_s_a s4 (by decide)).trans ((ef_s_a s3 (by decide)).trans ((ef_s_a s2 (by decide)).trans (ef_s_a s1 (by decide))))
    have g4 : ef_a w4 167 = ef_a w 167 := (ef_s_a s4 (by decide)).trans ((ef_s_a s3 (by decide)).trans ((ef_s_a s2 (by decide)).trans (ef_s_a s1 (by decide))))
    have p4 : ∀ q, q < N → ef_a w4 166 q = (eo_LP T N bn N Lo pk m k).2 q := by
      rw [ef_s_a s4 (by decide), ef_s_a s3 (by decide)]
      exact p2
    have es : eo_fo (eo_F V T N bn N Lo pk m) 0 (k + 1) b0 = eo_up (eo_fo (eo_F V T N bn N Lo pk m) 0 k b0) (V (eo_LP T N bn N Lo pk m k).1) (eo_LP T N bn N Lo pk m k).2 := by
      show eo_up (eo_fo (eo_F V T N bn N Lo pk m) 0 k b0) (V (eo_LP T N bn N Lo pk m (0 + k)).1) (eo_LP T N bn N Lo pk m (0 + k)).2 = _
      rw [Nat.zero_add]
    by_cases c1 : (eo_fo (eo_F V T N bn N Lo pk m) 0 k b0).1 < V (eo_LP T N bn N Lo pk m k).1
    · have es2 : eo_fo (eo_F V T N bn N Lo pk m) 0 (k + 1) b0 = (V (eo_LP T N bn N Lo pk m k).1, (eo_LP T N bn N Lo pk m k).2) := by
        rw [es]
        unfold eo_up
        rw [if_pos c1]
      obtain ⟨w6, W6, s6, q6, h6⟩ := ew_or182 hN ⟨by omega, by omega⟩ ⟨by omega, by omega⟩ c1 N n 0 w4 z (by omega) W5 h182
      have l6 := eg226_151_216_1 h6
      rw [ec_tw_id (a := (eo_fo (eo_F V T N bn N Lo pk m) 0 k b0).1) (by omega) (by omega), ec_tw_id (a := V (eo_LP T N bn N Lo pk m k).1) (by omega) (by omega)] at l6
      have h109 := (eg226_151_230_0 (l6 c1).2).2
      obtain ⟨w', hz, W', S'⟩ := ih n (k + 1) w6 z (by omega) W6 ((ef_s_a s6 (by decide)).trans d4) (fun a ha => by rw [ef_s_a s6 (by decide), f4]; exact e165 a ha) (fun i hi => by rw [es2, q6 i hi, if_pos (Nat.zero_le _)]; exact p4 i hi) (by rw [es2]; exact h109)
      exact ⟨w', hz, W', ef_s_trans S14 (ef_s_trans (ef_s_mono s6 (by decide)) S')⟩
    · have es2 : eo_fo (eo_F V T N bn N Lo pk m) 0 (k + 1) b0 = eo_fo (eo_F V T N bn N Lo pk m) 0 k b0 := by
        rw [es]
        unfold eo_up
        rw [if_neg c1]
      have l5 := eg226_151_182_1 h182
      have e0 : ec_tw (0 : Int) = 0 := rfl
      rw [tN, e0, ec_tw_id (a := (eo_fo (eo_F V T N bn N Lo pk m) 0 k b0).1) (by omega) (by omega), ec_tw_id (a := V (eo_LP T N bn N Lo pk m k).1) (by omega) (by omega)] at l5
      have l6 := eg226_151_216_0 (l5 (by omega) (by omega)).2
      rw [ec_tw_id (a := (eo_fo (eo_F V T N bn N Lo pk m) 0 k b0).1) (by omega) (by omega), ec_tw_id (a := V (eo_LP T N bn N Lo pk m k).1) (by omega) (by omega)] at l6
      have h109 := (eg226_151_230_0 (l6 (by omega)).2).2
      obtain ⟨w', hz, W', S'⟩ := ih n (k + 1) w4 z (by omega) W5 d4 (fun a ha => by rw [f4]; exact e165 a ha) (fun i hi => by rw [es2, g4]; exact e167 i hi) (by rw [es2]; exact h109)
      exact ⟨w', hz, W', ef_s_trans S14 S'⟩
end EO4

end
