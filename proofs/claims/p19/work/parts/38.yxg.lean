noncomputable section
/-! SEAT, at the law's head -/
theorem ef_RC_s2 {S : List Nat} {w w' : px_W} (hs : ef_s S w w') (hS : ∀ k ∈ S, (k ≠ 0 ∧ k ≠ 152 ∧ k ≠ 153) ∧ (k < 15 ∨ 27 < k) ∧ (k < 73 ∨ 85 < k)) (h2 : ec_fd w' 151 2 = ec_fd w 151 2) (h : ef_RC w) : ef_RC w' := by
  have k1 : ec_fd w' 0 14 = ec_fd w 0 14 := ef_s_f hs (fun e => (hS 0 e).1.1 rfl) 14
  refine ⟨ef_cr_s hs (fun k hk e => by have := (hS _ e).2.1; omega) (fun e => (hS 152 e).1.2.1 rfl) h.1, ?_⟩
  rcases h.2 with ⟨a, b⟩ | ⟨a, b, c⟩
  · exact .inl ⟨k1.trans a, h2.trans b⟩
  · exact .inr ⟨k1.trans a, h2.trans b, ef_cr_s hs (fun k hk e => by have := (hS _ e).2.2; omega) (fun e => (hS 153 e).1.2.2 rfl) c⟩
/-- the ROWS are the same -/
def es_R (w : px_W) : Prop := ∃ k : Nat, k ≤ 80 ∧ ec_fd w 126 0 = (k : Int) ∧ ec_fd w 151 19 = (k : Int) ∧ ∀ i, i < 3 * k → ef_a w 127 i = ef_a w 164 i
theorem ew_seatG {xs : List Int32} {n : Nat} {w wA wB : px_W} {vA vB : Option Value} (hR : eq_RR w) (hA : ec_F (hb_XL xs) n 136 [.inr (.inl 64)] w (vA, wA)) (hB : ec_F (hb_XL xs) n 220 [.inr (.inl 215)] wA (vB, wB)) : vA = vB ∧ eq_RR wB ∧ es_R wB := by
  obtain ⟨c, gn, bn, A, B, Pl, Bp, Mi, Ti, To, ⟨hD, hDA, hDB⟩, ⟨hG, hGA, hGB⟩, ⟨hbn, hbA, hbB⟩, hb, hg⟩ := ef_data hR.1
  have g10 := hG.1
  have p8 := eq_pw hbn
  have hS : ∀ b, b < bn → 0 ≤ ef_a w 24 b ∧ ef_a w 24 b ≤ 65 := fun b hb' => ⟨by have := (hb b hb').2.2.2.2.1; omega, (hb b hb').2.2.2.2.2⟩
  have hP : ∀ g, g < gn → 0 ≤ ef_a w 20 g ∧ ef_a w 20 g ≤ 50 := fun g hg' => ⟨by have := (hg g hg').2.2.1; omega, (hg g hg').2.2.2⟩
  obtain ⟨M, hMd⟩ : ∃ M : Nat → Nat, M = fun g => eq_M (ef_er (ef_rf A B Mi Ti c Pl To) (ef_a w 27) (ef_a w 21) Bp g) (ef_a w 26) bn := ⟨_, rfl⟩
  have hMg : ∀ g, M g = eq_M (ef_er (ef_rf A B Mi Ti c Pl To) (ef_a w 27) (ef_a w 21) Bp g) (ef_a w 26) bn := fun g => by rw [hMd]
  have hM : ∀ g, M g < 2 ^ bn := fun g => by rw [hMg]; exact eq_M_lt
  have hM' : ∀ g, M g < 256 := fun g => Nat.lt_of_lt_of_le (hM g) p8
  obtain ⟨L, hL⟩ : ∃ L : Int, L = eq_mn (eq_C (ef_a w 24) (ef_a w 20) M bn gn) (ef_ss (ef_a w 24) bn (2 ^ bn - 1)) (2 ^ bn) := ⟨_, rfl⟩
  have mL : et_min (ef_a w 24) (ef_a w 20) M bn gn L := by
    rw [hL]
    exact et_mn hM
  have sL : eq_mn (eq_D (ef_a w 24) (ef_a w 20) M bn gn) 1000000 (2 ^ gn) = L := by
    rw [hL]
    exact (eq_same hbn g10 hS hP (fun g _ => hM g)).symm
  obtain ⟨S0, hS0⟩ : ∃ S0 : et_S, S0 = (ef_a w 20, ef_a w 24, L, 0, fun _ => 0) := ⟨_, rfl⟩
  have hI : et_I M bn gn S0 0 := by
    rw [hS0]
    exact ⟨⟨mL, fun i hi => absurd hi (Nat.not_lt_zero _)⟩, hP, hS, Nat.le_refl _⟩
  -- the class
  obtain ⟨_, v1, w1, a1, a2⟩ := eg136_0_0_0 (hb_FE hA)
  obtain ⟨w1', e1, W1, s1, ⟨f5, f6⟩, _, ⟨r130, r131, r132⟩, _, r134, r128⟩ := ew_load hD hDA hG hGA hbn hbA (fun b hb' => ⟨(hb b hb').1.1, (hb b hb').1.2.1⟩) hS hR.2 a1
  injection e1 with e1 i1
  subst i1
  have hMS : ew_MS gn bn M (ef_a w 20) (ef_a w 24) w1 := ⟨⟨g10, hbn⟩, f5, f6, fun g hg' => ⟨by rw [r128 g hg', ef_cb_M hbn, hMg], hM g⟩, fun g hg' => ⟨by rw [r130], hP g hg'⟩, r134, hS⟩
  obtain ⟨_, v2, w2, a3, a4⟩ := eg136_0_11_0 (a2 e1 W1)
  obtain ⟨_, v3, w3, a5, a6⟩ := eg101_126_0_0 a3
  obtain ⟨w3', e3, W3, s3, c3⟩ := ew_mostA hMS a5
  injection e3 with e3 i3
  subst i3
  have a7 := (eg101_126_4_0 (a6 _ e3 W3)).2
  rw [← hL] at a7
  have W4 : ec_W hb_A (ec_pf w3 126 0 0) := ec_W_pf (k := 126) (f := 0) rfl rfl W3
  have f4 : ∀ f, ec_fd (ec_pf w3 126 0 0) 126 f = if f = 0 then 0 else ec_fd w1 126 f := by
    intro f
    rw [ec_fd_pf (k := 126) (f := 0) W3 rfl (by decide), ef_s_f s3 (by decide)]
    rfl
  have s4 : ef_s [126] w3 (ec_pf w3 126 0 0) := ef_s_pf List.mem_cons_self
  have hA0 : et_A M bn gn S0 (ec_pf w3 126 0 0) := by
    rw [hS0]
    refine ⟨⟨?_, ?_, ?_⟩, fun g hg' => ?_, fun g hg' => ?_, fun b hb' => ?_, fun x hx => ?_, fun i hi => absurd hi (Nat.not_lt_zero _)⟩
    · rw [f4 5, if_neg (by decide)]
      exact f5
    · rw [f4 6, if_neg (by decide)]
      exact f6
    · rw [f4 0, if_pos rfl]
      rfl
    · rw [ef_s_a s4 (by decide), ef_s_a s3 (by decide), r128 g hg', ef_cb_M hbn, hMg]
    · rw [ef_s_a s4 (by decide), ef_s_a s3 (by decide), r130]
    · rw [ef_s_a s4 (by decide), ef_s_a s3 (by decide), r131]
    · rw [ef_s_a s4 (by decide), c3 x hx, et_C]
  have a7' : ec_E hb_X n 101 12 [(0, .inr (.inl 190)), (1, .inl (et_sg M bn gn 0 S0).2.2.1), (2, .inl ((0 : Nat) : Int))] [] (ec_pf w3 126 0 0) (v2, w2) := by
    have e : (et_sg M bn gn 0 S0).2.2.1 = L := by
      show S0.2.2.1 = L
      rw [hS0]
    rw [e]
    exact a7
  obtain ⟨w2', e2, W2, s2, f2, A2⟩ := ew_sa12 hM hbn g10 hI gn n 0 _ _ (by omega) W4 hA0 a7'
  injection e2 with e2 i2
  subst i2
  obtain ⟨_, hr, hW⟩ := eg136_0_18_0 (a4 _ e2 W2)
  injection hr with hr1 hr2
  have hr2 := hr2.symm
  subst hr2
  -- the reference
  have sA : ef_s (ef_S8 ++ [126, 127, 130, 131, 135]) w w2 := ef_s_trans (ef_s_mono s1 (by decide)) (ef_s_trans (ef_s_mono s3 (by decide)) (ef_s_trans (ef_s_mono s4 (by decide)) (ef_s_mono s2 (by decide))))
  have d1 : ef_a w2 152 = ef_a w 152 := ef_s_a sA (by decide)
  obtain ⟨_, u1, y1, m1, m2⟩ := eg220_151_0_0 (hb_FE hB)
  obtain ⟨y1', x1, X1, t1, g1⟩ := ew_layB (bn := bn) hbn (by rw [d1]; exact hbB) m1
  injection x1 with x1 k1
  subst k1
  obtain ⟨_, u2, y2, m3, m4⟩ := eg220_151_4_0 (m2 x1 X1)
  have d2 : ef_a y1 152 = ef_a w 152 := (ef_s_a t1 (by decide)).trans d1
  obtain ⟨y2', x2, X2, t2, g2, g2'⟩ := ew_findCan (bn := bn) (Bp := Bp) (Lo := ef_a w 26) hD (by unfold ef_DB; rw [d2]; exact hDB) hG (by unfold ef_GB; rw [d2]; exact hGB) hbn (by rw [d2]; exact hbB) (fun b hb' => by rw [d2]; exact ⟨(hb b hb').1.2.2, (hb b hb').1.2.1⟩) (fun b hb' => ⟨by rw [g1 b hb', d1]; exact (hb b hb').2.1.1.symm, Int.le_trans (hb b hb').2.1.2.2 (by decide)⟩) (fun g hg' => by rw [d2, ← (hg g hg').1.1]; exact (hg g hg').1.2.2) m3
  injection x2 with x2 k2
  subst k2
  have d3 : ef_a y2 152 = ef_a w 152 := (ef_s_a t2 (by decide)).trans d2
  have c161 : ∀ g, g < gn → ef_a y2 161 g = (M g : Int) := fun g hg' => by
    rw [(g2 g hg').1, d2, hMg, ← ef_cb_M hbn]
    symm
    refine ef_cb_cg bn 0 0 (fun j _ hj => ?_)
    have hj' := hb j (by omega)
    have hg'' := hg g hg'
    unfold ef_er
    rw [hj'.2.2.1.1, hg''.1.1]
  have c162 : ∀ g, g < gn → ef_a y2 162 g = ef_a w 20 g := fun g hg' => by
    rw [(g2 g hg').2, d2]
    exact (hg g hg').2.1.symm
  have c163 : ∀ b, b < bn → ef_a y2 163 b = ef_a w 24 b := fun b hb' => by
    rw [g2' b hb', d2]
    exact (hb b hb').2.2.2.1.symm
  have hMO : ew_MO gn bn M (ef_a w 20) (ef_a w 24) y2 := ⟨⟨g10, hbn⟩, by rw [d3]; exact hGB.1, by rw [d3]; exact hbB, fun g hg' => ⟨c161 g hg', hM g⟩, fun g hg' => ⟨c162 g hg', hP g hg'⟩, fun b hb' => ⟨c163 b hb', hS b hb'⟩⟩
  obtain ⟨_, u3, y3, m5, m6⟩ := eg220_151_8_0 (m4 x2 X2)
  obtain ⟨x3, X3⟩ := ew_mostB hMO m5
  rw [sL] at x3
  injection x3 with x3 k3
  have k3 := k3.symm
  subst k3
  have m7 := (eg220_151_12_0 (m6 _ x3 X3)).2
  have X4 : ec_W hb_A (ec_pf y2 151 19 0) := ec_W_pf (k := 151) (f := 19) rfl rfl X3
  have t4 : ef_s [151] y2 (ec_pf y2 151 19 0) := ef_s_pf List.mem_cons_self
  have h4 : ∀ f, ec_fd (ec_pf y2 151 19 0) 151 f = if f = 19 then 0 else ec_fd y2 151 f := by
    intro f
    rw [ec_fd_pf (k := 151) (f := 19) X3 rfl (by decide)]
    rfl
  have hB0 : et_B M bn gn S0 (0 * 8) (ec_pf y2 151 19 0) := by
    rw [hS0]
    refine ⟨⟨?_, ?_, ?_⟩, fun g hg' => ?_, fun g hg' => ?_, fun b hb' => ?_, fun i hi => absurd hi (Nat.not_lt_zero _)⟩
    · rw [ef_s_a t4 (by decide), d3]
      exact hGB.1
    · rw [ef_s_a t4 (by decide), d3]
      exact hbB
    · rw [h4 19, if_pos rfl]
      rfl
    · rw [ef_s_a t4 (by decide), c161 g hg', Nat.zero_mul, et_Mt_0 hM']
    · rw [ef_s_a t4 (by decide)]
      exact c162 g hg'
    · rw [ef_s_a t4 (by decide)]
      exact c163 b hb'
  have m7' : ec_E hb_X n 220 20 [(0, .inr (.inl 215)), (1, .inl (et_sg M bn gn 0 S0).2.2.1), (2, .inl ((0 : Nat) : Int))] [] (ec_pf y2 151 19 0) (vB, wB) := by
    have e : (et_sg M bn gn 0 S0).2.2.1 = L := by
      show S0.2.2.1 = L
      rw [hS0]
    rw [e]
    exact m7
  obtain ⟨wB', x5, X5, t5, h5, B5⟩ := ew_sb20 hM hbn g10 hI gn n 0 _ _ (by omega) X4 hB0 m7'
  injection x5 with x5 k5
  subst k5
  have hk : (et_sg M bn gn gn S0).2.2.2.1 ≤ 80 := by
    have := (et_I_sg hM hbn hI gn (Nat.le_refl _)).2.2.2
    omega
  have tB : ef_s [151, 159, 160, 161, 162, 163, 164] w2 wB := ef_s_trans (ef_s_mono t1 (by decide)) (ef_s_trans (ef_s_mono t2 (by decide)) (ef_s_trans (ef_s_mono t4 (by decide)) (ef_s_mono t5 (by decide))))
  have f2' : ec_fd wB 151 2 = ec_fd w2 151 2 := by
    rw [h5 2 (by decide), h4 2, if_neg (by decide), ef_s_f t2 (by decide), ef_s_f t1 (by decide)]
  refine ⟨?_, ⟨ef_RC_s2 tB (by decide) f2' (ef_RC_s sA (by decide) hR.1), ?_⟩, (et_sg M bn gn gn S0).2.2.2.1, hk, ?_, B5.1.2.2, fun i hi => ?_⟩
  · rw [hr1, x5]
  · rw [ef_s_a tB (by decide), ef_s_a s2 (by decide), ef_s_a s4 (by decide), ef_s_a s3 (by decide), r134 0 (Nat.two_pow_pos bn), ef_ss_0]
  · rw [ef_s_f tB (by decide)]
    exact A2.1.2.2
  · rw [B5.2.2.2.2 i hi, ef_s_a tB (by decide)]
    exact A2.2.2.2.2.2 i hi
theorem ew_seat2 {xs : List Int32} {n : Nat} {w wA wB : px_W} {vA vB : Option Value} (hR : eq_RR w) (hA : ec_F (hb_XL xs) n 136 [.inr (.inl 64)] w (vA, wA)) (hB : ec_F (hb_XL xs) n 220 [.inr (.inl 215)] wA (vB, wB)) : vA = vB ∧ eq_RR wB := ⟨(ew_seatG hR hA hB).1, (ew_seatG hR hA hB).2.1⟩

end
