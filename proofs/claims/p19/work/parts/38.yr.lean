noncomputable section
/-! load, as a whole -/
section EW4
variable {c gn bn : Nat} {A B Pl Bp : Nat → Nat} {Mi Ti To : Nat → Int}
theorem ew_load {n : Nat} {w : px_W} {r : Option Value × px_W} (hD : ef_D c A B Mi Ti) (hA : ef_DA w c A B Mi Ti) (hG : ef_G gn Pl To) (hGA : ef_GA w gn Pl To) (hbn : bn ≤ 8) (hb : ec_fd w 15 10 = (bn : Int)) (hB : ∀ b, b < bn → ef_a w 25 b = (Bp b : Int) ∧ Bp b < 8) (hS : ∀ j, j < bn → 0 ≤ ef_a w 24 j ∧ ef_a w 24 j ≤ 65) (h0 : ef_a w 134 0 = 0) (h : ec_E hb_X n 98 0 [(0, .inr (.inl 190)), (1, .inr (.inl 79))] [] w r) : ∃ w' : px_W, r = (none, w') ∧ ec_W hb_A w' ∧ ef_s ef_S8 w w' ∧ (ec_fd w' 126 5 = (gn : Int) ∧ ec_fd w' 126 6 = (bn : Int)) ∧ (∀ f, f ≠ 5 → f ≠ 6 → ec_fd w' 126 f = ec_fd w 126 f) ∧ (ef_a w' 130 = ef_a w 20 ∧ ef_a w' 131 = ef_a w 24 ∧ ef_a w' 132 = ef_a w 26) ∧ (∀ g b, g < gn → b < bn → ef_a w' 133 (g * 8 + b) = ef_er (ef_rf A B Mi Ti c Pl To) (ef_a w 27) (ef_a w 21) Bp g b) ∧ (∀ y, y < 2 ^ bn → ef_a w' 134 y = ef_ss (ef_a w 24) bn y) ∧ ∀ g, g < gn → ef_a w' 128 g = ef_cb (ef_er (ef_rf A B Mi Ti c Pl To) (ef_a w 27) (ef_a w 21) Bp g) (ef_a w 26) bn 0 0 := by
  have W0 := h.1
  obtain ⟨_, v1, y1, a1, b1⟩ := eg98_126_0_0 h
  have s0 : ef_s [126] w (ec_pf (ec_pf w 126 5 (ec_fd w 15 5)) 126 6 (ec_fd (ec_pf w 126 5 (ec_fd w 15 5)) 15 10)) := ef_s_trans (ef_s_pf List.mem_cons_self) (ef_s_pf List.mem_cons_self)
  have W1 : ec_W hb_A (ec_pf w 126 5 (ec_fd w 15 5)) := ec_W_pf (k := 126) (f := 5) rfl rfl W0
  have f0 : ∀ f, ec_fd (ec_pf (ec_pf w 126 5 (ec_fd w 15 5)) 126 6 (ec_fd (ec_pf w 126 5 (ec_fd w 15 5)) 15 10)) 126 f = if f = 6 then (bn : Int) else if f = 5 then (gn : Int) else ec_fd w 126 f := by
    intro f
    rw [ec_fd_pf (k := 126) (f := 6) W1 rfl (by decide), ec_tw_fd, ec_fd_pf_o (by decide), hb, ec_fd_pf (k := 126) (f := 5) W0 rfl (by decide), ec_tw_fd, hGA.1]
  obtain ⟨z1, e1, X1, q1, p1⟩ := ew_cp20_130 a1
  injection e1 with e1 i1
  subst i1
  obtain ⟨_, v2, y2, a2, b2⟩ := eg98_126_27_0 (b1 e1 X1)
  obtain ⟨z2, e2, X2, q2, p2⟩ := ew_cp24_131 a2
  injection e2 with e2 i2
  subst i2
  obtain ⟨_, v3, y3, a3, b3⟩ := eg98_126_38_0 (b2 e2 X2)
  obtain ⟨z3, e3, X3, q3, p3⟩ := ew_cp26_132 a3
  injection e3 with e3 i3
  subst i3
  have h4 := (eg98_126_49_0 (b3 e3 X3)).2
  have s1 : ef_s ef_S8 w y1 := ef_s_trans (ef_s_mono s0 (by decide)) (ef_s_mono q1 (by decide))
  have s2 : ef_s ef_S8 w y2 := ef_s_trans s1 (ef_s_mono q2 (by decide))
  have s3 : ef_s ef_S8 w y3 := ef_s_trans s2 (ef_s_mono q3 (by decide))
  have f3 : ∀ f, ec_fd y3 126 f = if f = 6 then (bn : Int) else if f = 5 then (gn : Int) else ec_fd w 126 f := fun f => ((ef_s_f q3 (by decide) f).trans ((ef_s_f q2 (by decide) f).trans (ef_s_f q1 (by decide) f))).trans (f0 f)
  have r130 : ef_a y3 130 = ef_a w 20 := (ef_s_a q3 (by decide)).trans ((ef_s_a q2 (by decide)).trans (p1.trans (ef_s_a s0 (by decide))))
  have r131 : ef_a y3 131 = ef_a w 24 := (ef_s_a q3 (by decide)).trans (p2.trans (ef_s_a s1 (by decide)))
  have r132 : ef_a y3 132 = ef_a w 26 := p3.trans (ef_s_a s2 (by decide))
  obtain ⟨w5, h5, s5, _, f5⟩ := ew_erg hD hA hG hGA hbn hB gn n 0 y3 r s3 (by rw [f3, if_neg (by decide), if_pos rfl]) (by rw [f3, if_pos rfl]) (by omega) h4
  have r131' : ef_a w5 131 = ef_a w 24 := (ef_s_a s5 (by decide)).trans r131
  have e134 : ef_a w5 134 = ef_a w 134 := (ef_s_a s5 (by decide)).trans ((ef_s_a q3 (by decide)).trans ((ef_s_a q2 (by decide)).trans ((ef_s_a q1 (by decide)).trans (ef_s_a s0 (by decide)))))
  have f5' : ∀ f, ec_fd w5 126 f = if f = 6 then (bn : Int) else if f = 5 then (gn : Int) else ec_fd w 126 f := fun f => (ef_s_f s5 (by decide) f).trans (f3 f)
  obtain ⟨w6, w7, v, s6, f6, a7, b7⟩ := ew_ssb hbn bn n 0 w5 r (by omega) (by rw [f5', if_pos rfl]) (fun y hy => by
    have : y = 0 := by
      have : (2 : Nat) ^ 0 = 1 := rfl
      omega
    rw [this, e134, h0]
    rfl) (by rw [r131']; exact hS) h5
  have f6' : ∀ f, ec_fd w6 126 f = if f = 6 then (bn : Int) else if f = 5 then (gn : Int) else ec_fd w 126 f := fun f => (ef_s_f s6 (by decide) f).trans (f5' f)
  have h8 := (eg99_126_0_0 a7).2
  obtain ⟨w8, e8, W8, s8, f8⟩ := ew_fb2 hG.1 hbn gn n 0 w6 _ (by omega) (by rw [f6', if_neg (by decide), if_pos rfl]) (by rw [f6', if_pos rfl]) h8
  injection e8 with e8 i8
  subst i8
  have hr := b7 e8 W8
  have r133 : ef_a w6 133 = ef_a w5 133 := ef_s_a s6 (by decide)
  have r132' : ef_a w6 132 = ef_a w 26 := (ef_s_a s6 (by decide)).trans ((ef_s_a s5 (by decide)).trans r132)
  refine ⟨w7, hr, W8, ef_s_trans s3 (ef_s_trans (ef_s_mono s5 (by decide)) (ef_s_trans (ef_s_mono s6 (by decide)) (ef_s_mono s8 (by decide)))), ⟨?_, ?_⟩, fun f n5 n6 => ?_, ⟨?_, ?_, ?_⟩, fun g b hg hb' => ?_, fun y hy => ?_, fun g hg => ?_⟩
  · rw [ef_s_f s8 (by decide), f6', if_neg (by decide), if_pos rfl]
  · rw [ef_s_f s8 (by decide), f6', if_pos rfl]
  · rw [ef_s_f s8 (by decide), f6', if_neg n6, if_neg n5]
  · exact (ef_s_a s8 (by decide)).trans ((ef_s_a s6 (by decide)).trans ((ef_s_a s5 (by decide)).trans r130))
  · exact (ef_s_a s8 (by decide)).trans ((ef_s_a s6 (by decide)).trans r131')
  · exact (ef_s_a s8 (by decide)).trans r132'
  · rw [ef_s_a s8 (by decide), r133]
    exact f5 g b (Nat.zero_le _) hg hb'
  · rw [ef_s_a s8 (by decide), f6 y hy, r131']
  · rw [f8 g, if_pos ⟨Nat.zero_le _, hg⟩, r132', r133]
    exact ef_cb_cg bn 0 0 (fun j _ hj => by rw [f5 g j (Nat.zero_le _) hg (by omega)])
theorem ew_loadf {n : Nat} {w : px_W} {r : Option Value × px_W} (hD : ef_D c A B Mi Ti) (hA : ef_DA w c A B Mi Ti) (hG : ef_G gn Pl To) (hGA : ef_GA w gn Pl To) (hbn : bn ≤ 8) (hb : ec_fd w 15 10 = (bn : Int)) (hB : ∀ b, b < bn → ef_a w 25 b = (Bp b : Int) ∧ Bp b < 8) (h : ec_E hb_X n 98 0 [(0, .inr (.inl 190)), (1, .inr (.inl 79))] [] w r) : ∃ w' : px_W, r = (none, w') ∧ ec_W hb_A w' ∧ ef_s ef_S8 w w' ∧ (ec_fd w' 126 5 = (gn : Int) ∧ ec_fd w' 126 6 = (bn : Int)) ∧ (∀ f, f ≠ 5 → f ≠ 6 → ec_fd w' 126 f = ec_fd w 126 f) ∧ (ef_a w' 130 = ef_a w 20 ∧ ef_a w' 131 = ef_a w 24 ∧ ef_a w' 132 = ef_a w 26) ∧ (∀ g b, g < gn → b < bn → ef_a w' 133 (g * 8 + b) = ef_er (ef_rf A B Mi Ti c Pl To) (ef_a w 27) (ef_a w 21) Bp g b) ∧ ∀ g, g < gn → ef_a w' 128 g = ef_cb (ef_er (ef_rf A B Mi Ti c Pl To) (ef_a w 27) (ef_a w 21) Bp g) (ef_a w 26) bn 0 0 := by
  have W0 := h.1
  obtain ⟨_, v1, y1, a1, b1⟩ := eg98_126_0_0 h
  have s0 : ef_s [126] w (ec_pf (ec_pf w 126 5 (ec_fd w 15 5)) 126 6 (ec_fd (ec_pf w 126 5 (ec_fd w 15 5)) 15 10)) := ef_s_trans (ef_s_pf List.mem_cons_self) (ef_s_pf List.mem_cons_self)
  have W1 : ec_W hb_A (ec_pf w 126 5 (ec_fd w 15 5)) := ec_W_pf (k := 126) (f := 5) rfl rfl W0
  have f0 : ∀ f, ec_fd (ec_pf (ec_pf w 126 5 (ec_fd w 15 5)) 126 6 (ec_fd (ec_pf w 126 5 (ec_fd w 15 5)) 15 10)) 126 f = if f = 6 then (bn : Int) else if f = 5 then (gn : Int) else ec_fd w 126 f := by
    intro f
    rw [ec_fd_pf (k := 126) (f := 6) W1 rfl (by decide), ec_tw_fd, ec_fd_pf_o (by decide), hb, ec_fd_pf (k := 126) (f := 5) W0 rfl (by decide), ec_tw_fd, hGA.1]
  obtain ⟨z1, e1, X1, q1, p1⟩ := ew_cp20_130 a1
  injection e1 with e1 i1
  subst i1
  obtain ⟨_, v2, y2, a2, b2⟩ := eg98_126_27_0 (b1 e1 X1)
  obtain ⟨z2, e2, X2, q2, p2⟩ := ew_cp24_131 a2
  injection e2 with e2 i2
  subst i2
  obtain ⟨_, v3, y3, a3, b3⟩ := eg98_126_38_0 (b2 e2 X2)
  obtain ⟨z3, e3, X3, q3, p3⟩ := ew_cp26_132 a3
  injection e3 with e3 i3
  subst i3
  have h4 := (eg98_126_49_0 (b3 e3 X3)).2
  have s1 : ef_s ef_S8 w y1 := ef_s_trans (ef_s_mono s0 (by decide)) (ef_s_mono q1 (by decide))
  have s2 : ef_s ef_S8 w y2 := ef_s_trans s1 (ef_s_mono q2 (by decide))
  have s3 : ef_s ef_S8 w y3 := ef_s_trans s2 (ef_s_mono q3 (by decide))
  have f3 : ∀ f, ec_fd y3 126 f = if f = 6 then (bn : Int) else if f = 5 then (gn : Int) else ec_fd w 126 f := fun f => ((ef_s_f q3 (by decide) f).trans ((ef_s_f q2 (by decide) f).trans (ef_s_f q1 (by decide) f))).trans (f0 f)
  have r130 : ef_a y3 130 = ef_a w 20 := (ef_s_a q3 (by decide)).trans ((ef_s_a q2 (by decide)).trans (p1.trans (ef_s_a s0 (by decide))))
  have r131 : ef_a y3 131 = ef_a w 24 := (ef_s_a q3 (by decide)).trans (p2.trans (ef_s_a s1 (by decide)))
  have r132 : ef_a y3 132 = ef_a w 26 := p3.trans (ef_s_a s2 (by decide))
  obtain ⟨w5, h5, s5, _, f5⟩ := ew_erg hD hA hG hGA hbn hB gn n 0 y3 r s3 (by rw [f3, if_neg (by decide), if_pos rfl]) (by rw [f3, if_pos rfl]) (by omega) h4
  have r131' : ef_a w5 131 = ef_a w 24 := (ef_s_a s5 (by decide)).trans r131
  have f5' : ∀ f, ec_fd w5 126 f = if f = 6 then (bn : Int) else if f = 5 then (gn : Int) else ec_fd w 126 f := fun f => (ef_s_f s5 (by decide) f).trans (f3 f)
  obtain ⟨w6, w7, v, s6, a7, b7⟩ := ew_ssfb hbn bn n 0 w5 r (by omega) (by rw [f5', if_pos rfl]) h5
  have f6' : ∀ f, ec_fd w6 126 f = if f = 6 then (bn : Int) else if f = 5 then (gn : Int) else ec_fd w 126 f := fun f => (ef_s_f s6 (by decide) f).trans (f5' f)
  have h8 := (eg99_126_0_0 a7).2
  obtain ⟨w8, e8, W8, s8, f8⟩ := ew_fb2 hG.1 hbn gn n 0 w6 _ (by omega) (by rw [f6', if_neg (by decide), if_pos rfl]) (by rw [f6', if_pos rfl]) h8
  injection e8 with e8 i8
  subst i8
  have hr := b7 e8 W8
  have r133 : ef_a w6 133 = ef_a w5 133 := ef_s_a s6 (by decide)
  have r132' : ef_a w6 132 = ef_a w 26 := (ef_s_a s6 (by decide)).trans ((ef_s_a s5 (by decide)).trans r132)
  refine ⟨w7, hr, W8, ef_s_trans s3 (ef_s_trans (ef_s_mono s5 (by decide)) (ef_s_trans (ef_s_mono s6 (by decide)) (ef_s_mono s8 (by decide)))), ⟨?_, ?_⟩, fun f n5 n6 => ?_, ⟨?_, ?_, ?_⟩, fun g b hg hb' => ?_, fun g hg => ?_⟩
  · rw [ef_s_f s8 (by decide), f6', if_neg (by decide), if_pos rfl]
  · rw [ef_s_f s8 (by decide), f6', if_pos rfl]
  · rw [ef_s_f s8 (by decide), f6', if_neg n6, if_neg n5]
  · exact (ef_s_a s8 (by decide)).trans ((ef_s_a s6 (by decide)).trans ((ef_s_a s5 (by decide)).trans r130))
  · exact (ef_s_a s8 (by decide)).trans ((ef_s_a s6 (by decide)).trans r131')
  · exact (ef_s_a s8 (by decide)).trans r132'
  · rw [ef_s_a s8 (by decide), r133]
    exact f5 g b (Nat.zero_le _) hg hb'
  · rw [f8 g, if_pos ⟨Nat.zero_le _, hg⟩, r132', r133]
    exact ef_cb_cg bn 0 0 (fun j _ hj => by rw [f5 g j (Nat.zero_le _) hg (by omega)])
/-! the reference -/
theorem ew_layB {n : Nat} {w : px_W} {r : Option Value × px_W} (hbn : bn ≤ 8) (hb : ef_a w 152 5 = (bn : Int)) (h : ec_E hb_X n 214 0 [(0, .inr (.inl 215))] [] w r) : ∃ w' : px_W, r = (none, w') ∧ ec_W hb_A w' ∧ ef_s [160] w w' ∧ ∀ b, b < bn → ef_a w' 160 b = ef_a w 152 (216 + 4 * b + 2) := by
  have lp : ∀ (k n b : Nat) (w : px_W) (r : Option Value × px_W), b + k = bn → ef_a w 152 5 = (bn : Int) → ec_E hb_X n 214 2 [(0, .inr (.inl 215)), (1, .inl (b : Int))] [] w r → ∃ w' : px_W, r = (none, w') ∧ ec_W hb_A w' ∧ ef_s [160] w w' ∧ ∀ p, ef_a w' 160 p = if b ≤ p ∧ p < bn then ef_a w 152 (216 + 4 * p + 2) else ef_a w 160 p := by
    intro k
    induction k with
    | zero =>
      intro n b w r hbk hb h
      have hbb : b = bn := by omega
      subst hbb
      have k0 := eg214_151_2_0 h
      have e5 : ec_tw 5 = ((5 : Nat) : Int) := rfl
      rw [e5, ef_rd, ef_tw, hb, ec_twn (by omega)] at k0
      obtain ⟨_, hr, hW⟩ := k0 (Int.le_refl _)
      exact ⟨w, hr, hW, ef_s_refl, fun p => by rw [if_neg (by omega)]⟩
    | succ k ih =>
      intro n b w r hbk hb h
      have k1 := eg214_151_2_1 h
      have e5 : ec_tw 5 = ((5 : Nat) : Int) := rfl
      have p2 : ec_tw (216 + 4 * (b : Int) + 2) = ((216 + 4 * b + 2 : Nat) : Int) := by rw [ec_tw_id (by omega) (by omega)]; omega
      rw [e5, ef_rd, ef_tw, hb, ec_twn (n := b) (by omega), p2, ef_rd] at k1
      obtain ⟨_, h2⟩ := k1 (by omega)
      obtain ⟨w', hr, hW, s2, f2⟩ := ih n (b + 1) _ r (by omega) (by rw [ef_a_wr_o (by decide)]; exact hb) h2
      refine ⟨w', hr, hW, ef_s_trans (ef_s_wr List.mem_cons_self) s2, fun p => ?_⟩
      rw [f2 p, ef_a_wr_o (by decide), ef_a_wr (n := 8) h.1 rfl (by omega) (by omega), ef_tw]
      unfold ef_u
      by_cases q1 : b + 1 ≤ p ∧ p < bn
      · rw [if_pos q1, if_pos (by omega)]
      · rw [if_neg q1]
        by_cases q2 : p = b
        · rw [if_pos (by omega), if_pos (by omega), q2]
        · rw [if_neg (by omega), if_neg (by omega)]
  obtain ⟨w', hr, hW, s1, f1⟩ := lp bn n 0 w r (by omega) hb (eg214_151_0_0 h).2
  exact ⟨w', hr, hW, s1, fun b hb' => by rw [f1 b, if_pos ⟨Nat.zero_le _, hb'⟩]⟩
def ef_S5 : List Nat := [159, 161, 162, 163]
/-- the boats of one group -/
theorem ew_fc44 {g : Nat} {w0 : px_W} {RF : Nat → Nat → Int} {Lo : Nat → Int} (hg : g < 10) (hbn : bn ≤ 8) (hB : ∀ b, b < bn → ef_a w0 152 (216 + 4 * b + 1) = (Bp b : Int) ∧ Bp b < 8) (hL : ∀ b, b < bn → ef_a w0 160 b = Lo b ∧ Lo b ≤ 99999) (hK : ef_a w0 152 (176 + 4 * g + 1) ≤ 2) : ∀ (k n b : Nat) (w : px_W) (r : Option Value × px_W), ef_s ef_S5 w0 w → ef_a w 159 = RF g → ef_a w0 152 5 = (bn : Int) → b + k = bn → ec_E hb_X n 215 44 [(0, .inr (.inl 215)), (1, .inl (g : Int)), (2, .inl (b : Int))] [] w r → ∃ w' : px_W, ec_E hb_X n 215 2 [(0, .inr (.inl 215)), (1, .inl ((g : Int) + 1))] [] w' r ∧ ef_s [161] w w' ∧ ∀ p, ef_a w' 161 p = if p = g then ef_cb (ef_er RF (fun b => ef_a w0 152 (216 + 4 * b + 3)) (fun g => ef_a w0 152 (176 + 4 * g + 1)) Bp g) Lo k b (ef_a w 161 g) else ef_a w 161 p := by
  intro k
  induction k with
  | zero =>
    intro n b w r hs h159 hb hbk h
    have hbb : b = bn := by omega
    subst hbb
    have k0 := eg215_151_44_0 h
    have e5 : ec_tw 5 = ((5 : Nat) : Int) := rfl
    rw [e5, ef_rd, ef_tw, ef_s_a hs (by decide), hb, ec_twn (by omega)] at k0
    exact ⟨w, (k0 (Int.le_refl _)).2, ef_s_refl, fun p => by
      by_cases q : p = g
      · rw [if_pos q, q]
        rfl
      · rw [if_neg q]⟩
  | succ k ih =>
    intro n b w r hs h159 hb hbk h
    have eb : ec_tw (b : Int) = b := ec_twn (by omega)
    have eg : ec_tw (g : Int) = g := ec_twn (by omega)
    have e5 : ec_tw 5 = ((5 : Nat) : Int) := rfl
    have t1 : ec_tw 1 = 1 := rfl
    have t2 : ec_tw 2 = 2 := rfl
    have p1 : ec_tw (216 + 4 * (b : Int) + 1) = ((216 + 4 * b + 1 : Nat) : Int) := by rw [ec_tw_id (by omega) (by omega)]; omega
    have p3 : ec_tw (216 + 4 * (b : Int) + 3) = ((216 + 4 * b + 3 : Nat) : Int) := by rw [ec_tw_id (by omega) (by omega)]; omega
    have pg : ec_tw (176 + 4 * (g : Int) + 1) = ((176 + 4 * g + 1 : Nat) : Int) := by rw [ec_tw_id (by omega) (by omega)]; omega
    have e152 : ef_a w 152 = ef_a w0 152 := ef_s_a hs (by decide)
    have e160 : ef_a w 160 = ef_a w0 160 := ef_s_a hs (by decide)
    obtain ⟨b1, b2⟩ := hB b (by omega)
    obtain ⟨l1, l2⟩ := hL b (by omega)
    have j1 := eg215_151_44_1 h
    have j2 := eg215_151_44_2 h
    have j3 := eg215_151_44_3 h
    rw [eb, e5, p3, ef_rd, ef_rd, ef_tw, ef_tw, e152, hb, t1] at j1 j2 j3
    rw [pg, ef_rd, ef_tw, e152, t2] at j2 j3
    have k0 := fun x3 => @eg215_151_96_0 n w r g b x3
    have k1 := fun x3 => @eg215_151_96_1 n w r g b x3
    have k2 := fun x3 => @eg215_151_96_2 n w r g b x3
    have fin : ∀ z : Int, z = (if ef_er RF (fun b => ef_a w0 152 (216 + 4 * b + 3)) (fun g => ef_a w0 152 (176 + 4 * g + 1)) Bp g b ≤ Lo b then ec_or (ef_a w 161 g) (ec_shl 1 (b : Int)) else ef_a w 161 g) → ec_E hb_X n 215 44 [(0, .inr (.inl 215)), (1, .inl (g : Int)), (2, .inl ((b : Int) + 1))] [] (ec_wr w 161 (g : Int) z) r → ∃ w' : px_W, ec_E hb_X n 215 2 [(0, .inr (.inl 215)), (1, .inl ((g : Int) + 1))] [] w' r ∧ ef_s [161] w w' ∧ ∀ p, ef_a w' 161 p = if p = g then ef_cb (ef_er RF (fun b => ef_a w0 152 (216 + 4 * b + 3)) (fun g => ef_a w0 152 (176 + 4 * g + 1)) Bp g) Lo (k + 1) b (ef_a w 161 g) else ef_a w 161 p := by
      intro z hz h1
      have zr : -2147483648 ≤ z ∧ z ≤ 2147483647 := by
        rw [hz]
        split
        · exact ec_or_in _ _
        · exact ef_in w 161 g
      have hw : ∀ p, ef_a (ec_wr w 161 (g : Int) z) 161 p = if p = g then z else ef_a w 161 p := by
        intro p
        rw [ef_a_wr (n := 10) h.1 rfl (by omega) (by omega), ec_tw_id zr.1 zr.2]
        unfold ef_u
        rw [Int.toNat_natCast]
      obtain ⟨w', h2, s2, f2⟩ := ih n (b + 1) _ r (ef_s_trans hs (ef_s_wr (by decide))) (by rw [ef_a_wr_o (by decide)]; exact h159) hb (by omega) h1
      refine ⟨w', h2, ef_s_trans (ef_s_wr List.mem_cons_self) s2, fun p => ?_⟩
      rw [f2 p, hw g, if_pos rfl, hw p]
      by_cases q : p = g
      · rw [if_pos q, if_pos q, hz]
        rfl
      · rw [if_neg q, if_neg q, if_neg q]
    have lets1 : ∀ h4 : ec_E hb_X n 215 96 [(0, .inr (.inl 215)), (1, .inl (g : Int)), (2, .inl (b : Int)), (3, .inl 1)] [] w r, (ef_a w0 152 (216 + 4 * b + 3) = 1 ∨ ef_a w0 152 (176 + 4 * g + 1) ≠ 2) → ∃ w' : px_W, ec_E hb_X n 215 2 [(0, .inr (.inl 215)), (1, .inl ((g : Int) + 1))] [] w' r ∧ ef_s [161] w w' ∧ ∀ p, ef_a w' 161 p = if p = g then ef_cb (ef_er RF (fun b => ef_a w0 152 (216 + 4 * b + 3)) (fun g => ef_a w0 152 (176 + 4 * g + 1)) Bp g) Lo (k + 1) b (ef_a w 161 g) else ef_a w 161 p := by
      intro h4 hlet
      have m1 := k1 1 h4 (by decide)
      have m2 := k2 1 h4 (by decide)
      rw [eb, eg, p1, ef_rd, ef_rd, ef_rd, ef_tw, e160, e152, l1, b1, ec_twn (n := Bp b) (by omega), ef_rd, ef_tw, h159] at m1
      rw [eb, eg, p1, ef_rd, ef_rd, ef_rd, ef_tw, ef_tw, e160, e152, l1, b1, ef_rd, ef_tw, h159] at m2
      have he : ef_er RF (fun b => ef_a w0 152 (216 + 4 * b + 3)) (fun g => ef_a w0 152 (176 + 4 * g + 1)) Bp g b = RF g (Bp b) := by
        unfold ef_er
        rw [if_pos hlet]
      by_cases q : RF g (Bp b) ≤ Lo b
      · exact fin _ (by rw [he, if_pos q]) (m2 q).2
      · have h5 := (m1 (by omega)).2
        rw [ec_or_0, ef_tw] at h5
        exact fin _ (by rw [he, if_neg q]) h5
    by_cases c1 : ef_a w0 152 (216 + 4 * b + 3) = 1
    · exact lets1 (j1 (by omega) c1).2 (.inl c1)
    · by_cases c2 : 2 ≤ ef_a w0 152 (176 + 4 * g + 1)
      · by_cases c3 : ef_a w0 152 (176 + 4 * g + 1) = 2
        · have h4 := (j2 (by omega) c1 c2).2
          have h5 := (k0 0 h4 rfl).2
          rw [eg, ef_rd, ec_or_0, ef_tw] at h5
          refine fin _ ?_ h5
          have he : ef_er RF (fun b => ef_a w0 152 (216 + 4 * b + 3)) (fun g => ef_a w0 152 (176 + 4 * g + 1)) Bp g b = 1000000 := by
            unfold ef_er
            rw [if_neg (fun e => e.elim c1 (fun e2 => e2 c3))]
          rw [he, if_neg (by omega)]
        · omega
      · exact lets1 (j3 (by omega) c1 (by omega)).2 (.inr (by omega))
/-- all groups -/
theorem ew_fc2 {w0 : px_W} {Lo : Nat → Int} (hD : ef_D c A B Mi Ti) (hDB : ef_DB w0 c A B Mi Ti) (hG : ef_G gn Pl To) (hGB : ef_GB w0 gn Pl To) (hbn : bn ≤ 8) (hb : ef_a w0 152 5 = (bn : Int)) (hB : ∀ b, b < bn → ef_a w0 152 (216 + 4 * b + 1) = (Bp b : Int) ∧ Bp b < 8) (hL : ∀ b, b < bn → ef_a w0 160 b = Lo b ∧ Lo b ≤ 99999) (hK : ∀ g, g < gn → ef_a w0 152 (176 + 4 * g + 1) ≤ 2) : ∀ (k n g : Nat) (w : px_W) (r : Option Value × px_W), ef_s ef_S5 w0 w → g + k = gn → ec_E hb_X n 215 2 [(0, .inr (.inl 215)), (1, .inl (g : Int))] [] w r → ∃ w' : px_W, ec_E hb_X n 215 158 [(0, .inr (.inl 215)), (1, .inl 0)] [] w' r ∧ ef_s [159, 161, 162] w w' ∧ (∀ p, p < g → ef_a w' 161 p = ef_a w 161 p ∧ ef_a w' 162 p = ef_a w 162 p) ∧ ∀ p, g ≤ p → p < gn → ef_a w' 161 p = ef_cb (ef_er (ef_rf A B Mi Ti c Pl To) (fun b => ef_a w0 152 (216 + 4 * b + 3)) (fun g => ef_a w0 152 (176 + 4 * g + 1)) Bp p) Lo bn 0 0 ∧ ef_a w' 162 p = ef_a w0 152 (176 + 4 * p) := by
  intro k
  induction k with
  | zero =>
    intro n g w r hs hgk h
    have hg : g = gn := by omega
    subst hg
    have g10 := hG.1
    have k0 := eg215_151_2_0 h
    have e4 : ec_tw 4 = ((4 : Nat) : Int) := rfl
    rw [e4, ef_rd, ef_tw, ef_s_a hs (by decide), hGB.1, ec_twn (by omega)] at k0
    exact ⟨w, (k0 (Int.le_refl _)).2, ef_s_refl, fun _ _ => ⟨rfl, rfl⟩, fun p h1 h2 => by omega⟩
  | succ k ih =>
    intro n g w r hs hgk h
    have g10 := hG.1
    have eg : ec_tw (g : Int) = g := ec_twn (by omega)
    have e4 : ec_tw 4 = ((4 : Nat) : Int) := rfl
    have k1 := eg215_151_2_1 h
    rw [eg, e4, ef_rd, ef_tw, ef_s_a hs (by decide), hGB.1] at k1
    obtain ⟨_, v, w1, a1, a2⟩ := k1 (by omega)
    have q0 := hG.2 g (by omega)
    have q1 := hGB.2 g (by omega)
    obtain ⟨w1', e1, W1, s1, f1⟩ := ew_findReach hD (ef_DB_s hDB hs (by decide)) (by omega) (by rw [ef_s_a hs (by decide)]; exact q1.1) q0.1 (by rw [ef_s_a hs (by decide)]; exact q1.2) q0.2.1 q0.2.2 a1
    injection e1 with e1 e1'
    subst e1'
    have hs1 : ef_s ef_S5 w0 w1 := ef_s_trans hs (ef_s_mono s1 (by decide))
    have pg : ec_tw (176 + 4 * (g : Int)) = ((176 + 4 * g : Nat) : Int) := by rw [ec_tw_id (by omega) (by omega)]; omega
    have h3 := (eg215_151_17_0 (a2 e1 W1)).2
    have e152 : ∀ z, ef_a (ec_wr w1 161 (g : Int) z) 152 = ef_a w0 152 := fun z => (ef_a_wr_o (by decide)).trans (ef_s_a hs1 (by decide))
    rw [eg, pg, ef_rd, e152] at h3
    have W2 : ec_W hb_A (ec_wr w1 161 (g : Int) 0) := ec_W_wr W1
    have tr := ef_in w0 152 (176 + 4 * g)
    have hs2 : ef_s [161, 162] w1 (ec_wr (ec_wr w1 161 (g : Int) 0) 162 (g : Int) (ef_a w0 152 (176 + 4 * g))) := ef_s_trans (ef_s_wr (by decide)) (ef_s_wr (by decide))
    have v161 : ∀ p, ef_a (ec_wr (ec_wr w1 161 (g : Int) 0) 162 (g : Int) (ef_a w0 152 (176 + 4 * g))) 161 p = if p = g then 0 else ef_a w1 161 p := by
      intro p
      rw [ef_a_wr_o (by decide), ef_a_wr (n := 10) W1 rfl (by omega) (by omega)]
      unfold ef_u
      rw [Int.toNat_natCast]
      rfl
    have v162 : ∀ p, ef_a (ec_wr (ec_wr w1 161 (g : Int) 0) 162 (g : Int) (ef_a w0 152 (176 + 4 * g))) 162 p = if p = g then ef_a w0 152 (176 + 4 * g) else ef_a w1 162 p := by
      intro p
      rw [ef_a_wr (n := 10) W2 rfl (by omega) (by omega), ec_tw_id tr.1 tr.2, ef_a_wr_o (by decide)]
      unfold ef_u
      rw [Int.toNat_natCast]
    obtain ⟨w2, h4, s4, f4⟩ := ew_fc44 (RF := ef_rf A B Mi Ti c Pl To) (Lo := Lo) (w0 := w0) (by omega) hbn hB hL (hK g (by omega)) bn n 0 _ r (ef_s_trans hs1 (ef_s_mono hs2 (by decide))) (by rw [ef_s_a hs2 (by decide)]; exact f1) hb (by omega) h3
    obtain ⟨w', h5, s5, f5, f6⟩ := ih n (g + 1) w2 r (ef_s_trans (ef_s_trans hs1 (ef_s_mono hs2 (by decide))) (ef_s_mono s4 (by decide))) (by omega) h4
    refine ⟨w', h5, ef_s_trans (ef_s_trans (ef_s_mono s1 (by decide)) (ef_s_mono hs2 (by decide))) (ef_s_trans (ef_s_mono s4 (by decide)) s5), fun p hp => ?_, fun p h1 h2 => ?_⟩
    · obtain ⟨m1, m2⟩ := f5 p (by omega)
      rw [m1, m2, f4 p, if_neg (by omega), v161, if_neg (by omega), congrFun (ef_s_a s4 (by decide)) p, v162, if_neg (by omega), congrFun (ef_s_a s1 (by decide)) p, congrFun (ef_s_a s1 (by decide)) p]
      exact ⟨rfl, rfl⟩
    · by_cases q : p = g
      · subst q
        obtain ⟨m1, m2⟩ := f5 p (by omega)
        rw [m1, m2, f4 p, if_pos rfl, v161, if_pos rfl, congrFun (ef_s_a s4 (by decide)) p, v162, if_pos rfl]
        exact ⟨rfl, rfl⟩
      · exact f6 p (by omega) h2
theorem ew_fc158 {w0 : px_W} (hbn : bn ≤ 8) (hb : ef_a w0 152 5 = (bn : Int)) : ∀ (k n b : Nat) (w : px_W) (r : Option Value × px_W), ef_s ef_S5 w0 w → b + k = bn → ec_E hb_X n 215 158 [(0, .inr (.inl 215)), (1, .inl (b : Int))] [] w r → ∃ w' : px_W, r = (none, w') ∧ ec_W hb_A w' ∧ ef_s [163] w w' ∧ ∀ p, ef_a w' 163 p = if b ≤ p ∧ p < bn then ef_a w0 152 (216 + 4 * p) else ef_a w 163 p := by
  intro k
  induction k with
  | zero =>
    intro n b w r hs hbk h
    have hbb : b = bn := by omega
    subst hbb
    have k0 := eg215_151_158_0 h
    have e5 : ec_tw 5 = ((5 : Nat) : Int) := rfl
    rw [e5, ef_rd, ef_tw, ef_s_a hs (by decide), hb, ec_twn (by omega)] at k0
    obtain ⟨_, hr, hW⟩ := k0 (Int.le_refl _)
    exact ⟨w, hr, hW, ef_s_refl, fun p => by rw [if_neg (by omega)]⟩
  | succ k ih =>
    intro n b w r hs hbk h
    have k1 := eg215_151_158_1 h
    have e5 : ec_tw 5 = ((5 : Nat) : Int) := rfl
    have p2 : ec_tw (216 + 4 * (b : Int)) = ((216 + 4 * b : Nat) : Int) := by rw [ec_tw_id (by omega) (by omega)]; omega
    have e152 : ef_a w 152 = ef_a w0 152 := ef_s_a hs (by decide)
    rw [e5, ef_rd, ef_tw, e152, hb, ec_twn (n := b) (by omega), p2, ef_rd, e152] at k1
    obtain ⟨_, h2⟩ := k1 (by omega)
    obtain ⟨w', hr, hW, s2, f2⟩ := ih n (b + 1) _ r (ef_s_trans hs (ef_s_wr (by decide))) (by omega) h2
    refine ⟨w', hr, hW, ef_s_trans (ef_s_wr List.mem_cons_self) s2, fun p => ?_⟩
    rw [f2 p, ef_a_wr (n := 8) h.1 rfl (by omega) (by omega), ef_tw]
    unfold ef_u
    by_cases q1 : b + 1 ≤ p ∧ p < bn
    · rw [if_pos q1, if_pos (by omega)]
    · rw [if_neg q1]
      by_cases q2 : p = b
      · rw [if_pos (by omega), if_pos (by omega), q2]
      · rw [if_neg (by omega), if_neg (by omega)]
theorem ew_findCan {n : Nat} {w : px_W} {r : Option Value × px_W} {Lo : Nat → Int} (hD : ef_D c A B Mi Ti) (hDB : ef_DB w c A B Mi Ti) (hG : ef_G gn Pl To) (hGB : ef_GB w gn Pl To) (hbn : bn ≤ 8) (hb : ef_a w 152 5 = (bn : Int)) (hB : ∀ b, b < bn → ef_a w 152 (216 + 4 * b + 1) = (Bp b : Int) ∧ Bp b < 8) (hL : ∀ b, b < bn → ef_a w 160 b = Lo b ∧ Lo b ≤ 99999) (hK : ∀ g, g < gn → ef_a w 152 (176 + 4 * g + 1) ≤ 2) (h : ec_E hb_X n 215 0 [(0, .inr (.inl 215))] [] w r) : ∃ w' : px_W, r = (none, w') ∧ ec_W hb_A w' ∧ ef_s ef_S5 w w' ∧ (∀ g, g < gn → ef_a w' 161 g = ef_cb (ef_er (ef_rf A B Mi Ti c Pl To) (fun b => ef_a w 152 (216 + 4 * b + 3)) (fun g => ef_a w 152 (176 + 4 * g + 1)) Bp g) Lo bn 0 0 ∧ ef_a w' 162 g = ef_a w 152 (176 + 4 * g)) ∧ ∀ b, b < bn → ef_a w' 163 b = ef_a w 152 (216 + 4 * b) := by
  have h1 := (eg215_151_0_0 h).2
  obtain ⟨w1, h2, s1, _, f1⟩ := ew_fc2 hD hDB hG hGB hbn hb hB hL hK gn n 0 w r ef_s_refl (by omega) h1
  obtain ⟨w2, hr, hW, s2, f2⟩ := ew_fc158 (w0 := w) hbn hb bn n 0 w1 r (ef_s_mono s1 (by decide)) (by omega) h2
  refine ⟨w2, hr, hW, ef_s_trans (ef_s_mono s1 (by decide)) (ef_s_mono s2 (by decide)), fun g hg => ?_, fun b hb' => ?_⟩
  · rw [congrFun (ef_s_a s2 (by decide)) g, congrFun (ef_s_a s2 (by decide)) g]
    exact f1 g (Nat.zero_le _) hg
  · rw [f2 b, if_pos ⟨Nat.zero_le _, hb'⟩]
end EW4

end
