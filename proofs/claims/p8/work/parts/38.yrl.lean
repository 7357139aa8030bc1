noncomputable section
/-! SINKS -/
theorem ew_cfw_117 {n : Nat} {w : px_W} {r : Option Value × px_W} (h : ec_E hb_X n 32 0 [(0, .inr (.inl 181)), (1, .inr (.inl 65))] [] w r) : ∃ w' : px_W, r = (none, w') ∧ eh_wd w' 117 := by
  obtain ⟨_, v1, y1, a1, b1⟩ := eg32_117_0_0 h
  obtain ⟨z1, e1, X1, _, _⟩ := ew_cp2_118 a1
  injection e1 with e1 i1
  subst i1
  have h1 := b1 e1 X1
  obtain ⟨_, v2, y2, a2, b2⟩ := eg32_117_27_0 h1
  obtain ⟨z2, e2, X2, _, _⟩ := ew_cp3_119 a2
  injection e2 with e2 i2
  subst i2
  have h2 := b2 e2 X2
  obtain ⟨_, v3, y3, a3, b3⟩ := eg32_117_38_0 h2
  obtain ⟨z3, e3, X3, _, _⟩ := ew_cp4_120 a3
  injection e3 with e3 i3
  subst i3
  have h3 := b3 e3 X3
  obtain ⟨_, v4, y4, a4, b4⟩ := eg32_117_49_0 h3
  obtain ⟨z4, e4, X4, _, _⟩ := ew_cp5_121 a4
  injection e4 with e4 i4
  subst i4
  have h4 := b4 e4 X4
  obtain ⟨_, v5, y5, a5, b5⟩ := eg32_117_60_0 h4
  obtain ⟨z5, e5, X5, _, _⟩ := ew_cp6_122 a5
  injection e5 with e5 i5
  subst i5
  have h5 := b5 e5 X5
  obtain ⟨_, v6, y6, a6, b6⟩ := eg32_117_71_0 h5
  obtain ⟨z6, e6, X6, _, _⟩ := ew_cp7_123 a6
  injection e6 with e6 i6
  subst i6
  have h6 := b6 e6 X6
  obtain ⟨_, v7, y7, a7, b7⟩ := eg32_117_82_0 h6
  obtain ⟨z7, e7, X7, Q, _⟩ := ew_weigh_117 a7
  obtain ⟨z, e, A8, A9⟩ := ew_wx_117 a7
  injection e7 with e7 i7
  subst i7
  injection e with e i
  subst i
  have h7 := b7 e7 X7
  obtain ⟨_, hr, hW⟩ := eg32_117_86_0 h7
  refine ⟨_, hr, ?_, ?_⟩
  · rw [A8]
    exact eh_al_cg (fun c _ => (congrFun (ef_s_a Q (by decide)) c).symm)
  · rw [A9]
    exact eh_tl_cg (fun c _ => (congrFun (ef_s_a Q (by decide)) c).symm)
/-- in which minute it sinks, from W in minute m on, k minutes more -/
def eh_sn (R H P S D : Nat → Int) : Nat → (Nat → Int) → Int → Int
  | 0, _, _ => -3
  | k + 1, W, m => if eh_ou (eh_al (eh_nx W R H P S D (eh_al W) (eh_tl W))) (eh_tl (eh_nx W R H P S D (eh_al W) (eh_tl W))) 0 = 100 ∨ eh_ou (eh_al (eh_nx W R H P S D (eh_al W) (eh_tl W))) (eh_tl (eh_nx W R H P S D (eh_al W) (eh_tl W))) 7 = 100 then m + 1 else eh_sn R H P S D k (eh_nx W R H P S D (eh_al W) (eh_tl W)) (m + 1)
theorem eh_nx_cg2 {W V R H P S D : Nat → Int} (h : ∀ c, c < 8 → W c = V c) : ∀ c, c < 8 → eh_nx W R H P S D (eh_al W) (eh_tl W) c = eh_nx V R H P S D (eh_al V) (eh_tl V) c := by
  rw [eh_al_cg h, eh_tl_cg h]
  exact eh_nx_cg h
theorem eh_sn_cg {R H P S D : Nat → Int} : ∀ (k : Nat) {W V : Nat → Int} {m : Int}, (∀ c, c < 8 → W c = V c) → eh_sn R H P S D k W m = eh_sn R H P S D k V m
  | 0, _, _, _, _ => rfl
  | k + 1, W, V, m, h => by
    have e := eh_nx_cg2 (R := R) (H := H) (P := P) (S := S) (D := D) h
    have ea := eh_al_cg e
    have et := eh_tl_cg e
    unfold eh_sn
    rw [ea, et, eh_sn_cg k (m := m + 1) e]
/-- WATER that stood still stands still for good -/
theorem eh_sn_fix {R H P S D W : Nat → Int} (h : ∀ c, c < 8 → eh_nx W R H P S D (eh_al W) (eh_tl W) c = W c) (hs : ¬ eh_sk (eh_al (eh_nx W R H P S D (eh_al W) (eh_tl W))) (eh_tl (eh_nx W R H P S D (eh_al W) (eh_tl W)))) : ∀ (k : Nat) (m : Int), eh_sn R H P S D k W m = -3
  | 0, _ => rfl
  | k + 1, m => by
    unfold eh_sk at hs
    unfold eh_sn
    rw [if_neg hs, eh_sn_cg k h]
    exact eh_sn_fix h hs k (m + 1)
theorem ew_snl {R H P S D : Nat → Int} {x1 x2 : Int} : ∀ (k n m : Nat) (w : px_W) (r : Option Value × px_W) (W : Nat → Int), m + k = 999 → eh_D W R H P → (∀ c, c < 8 → ef_a w 119 c = W c) → ef_a w 118 = R → ef_a w 120 = H → ef_a w 121 = P → ef_a w 122 = S → ef_a w 123 = D → eh_wd w 117 → ec_fd w 117 0 = (m : Int) → ec_fd w 117 1 = -3 → ec_E hb_X n 127 73 [(0, .inr (.inl 64)), (1, .inl x1), (2, .inl x2), (3, .inl 1), (4, .inl (m : Int))] [] w r → ∃ w' : px_W, r = (ec_R (eh_sn R H P S D k W (m : Int)), w') ∧ ec_W hb_A w' ∧ ef_s [117, 119, 124, 125] w w' := by
  intro k
  induction k with
  | zero =>
    intro n m w r W hk hD hw h1 h3 h4 h5 h6 hwd hn hs h
    have em : ec_tw (m : Int) = m := ec_twn (by omega)
    have t9 : ec_tw 999 = 999 := rfl
    obtain ⟨_, hr, hW⟩ := eg127_0_73_0 h (by rw [em, t9]; omega)
    rw [hs] at hr
    exact ⟨w, hr, hW, ef_s_refl⟩
  | succ k ih =>
    intro n m w r W hk hD hw h1 h3 h4 h5 h6 hwd hn hs h
    have em : ec_tw (m : Int) = m := ec_twn (by omega)
    have em1 : ec_tw ((m : Int) + 1) = ((m + 1 : Nat) : Int) := (ec_tw_id (by omega) (by omega)).trans (by omega)
    have t9 : ec_tw 999 = 999 := rfl
    have t3 : ec_tw (-3) = -3 := rfl
    have t0 : ec_tw 0 = 0 := rfl
    obtain ⟨_, v, w1, q1, q2⟩ := eg127_0_73_3 h (by rw [em, t9]; omega) (by decide) (by rw [hs])
    have hD' : eh_D (ef_a w 119) R H P := fun c hc => by
      rw [hw c hc]
      exact hD c hc
    obtain ⟨z, w', e, hW, hp⟩ := ew_pmA_117 (S := S) (D := D) hD' h1 rfl h3 h4 h5 h6 hwd.1 hwd.2 (by rw [hn]; omega) q1
    injection e with e e'
    subst e'
    unfold eh_pm_117 at hp
    obtain ⟨s, n1, hz, hp⟩ := hp
    have q3 := (eg127_0_104_0 (q2 z e hW)).2
    have en := eh_nx_cg2 (R := R) (H := H) (P := P) (S := S) (D := D) hw
    have na := eh_al_cg en
    have nt := eh_tl_cg en
    rcases hp with ⟨k1, _⟩ | ⟨_, k3, k4, k5, k7, k6⟩
    · exact absurd hs k1
    · rw [na, nt] at k6
      have fin : ∀ y : Int, ec_fd w1 117 1 = y → eh_sn R H P S D (k + 1) W (m : Int) = y → (999 ≤ m + 1 ∨ z = 0 ∨ y ≠ -3) → ∃ w' : px_W, r = (ec_R (eh_sn R H P S D (k + 1) W (m : Int)), w') ∧ ec_W hb_A w' ∧ ef_s [117, 119, 124, 125] w w' := by
        intro y hy hv hc
        rw [hv, ← hy]
        by_cases c1 : 999 ≤ m + 1
        · obtain ⟨_, hr, hW'⟩ := eg127_0_73_0 q3 (by rw [em1, t9]; omega)
          exact ⟨_, hr, hW', s⟩
        · by_cases c2 : z = 0
          · obtain ⟨_, hr, hW'⟩ := eg127_0_73_1 q3 (by rw [em1, t9]; omega) (by rw [c2])
            exact ⟨_, hr, hW', s⟩
          · have c3 : y ≠ -3 := by omega
            have z1 : z = 1 := by omega
            obtain ⟨_, hr, hW'⟩ := eg127_0_73_2 q3 (by rw [em1, t9]; omega) (by rw [z1]; decide) (by rw [ec_tw_fd, hy, t3]; exact c3)
            exact ⟨_, hr, hW', s⟩
      rcases k6 with ⟨g1, g2⟩ | ⟨g1, g2⟩
      · unfold eh_sk at g1
        refine fin ((m : Int) + 1) (by rw [g2, hn]) ?_ (.inr (.inr (by omega)))
        unfold eh_sn
        rw [if_pos g1]
      · by_cases c2 : z = 0
        · refine fin (-3) g2 ?_ (.inr (.inl c2))
          exact eh_sn_fix (fun c hc => (en c hc).symm.trans ((k7 c2 c hc).trans (hw c hc))) g1 (k + 1) (m : Int)
        · have z1 : z = 1 := by omega
          rw [z1] at q3
          obtain ⟨w2, e2, hW2, s2⟩ := ih n (m + 1) w1 r (eh_nx W R H P S D (eh_al W) (eh_tl W)) (by omega) (eh_nx_in hD) (fun c hc => (k3 c hc).trans (en c hc)) ((ef_s_a s (by decide)).trans h1) ((ef_s_a s (by decide)).trans h3) ((ef_s_a s (by decide)).trans h4) ((ef_s_a s (by decide)).trans h5) ((ef_s_a s (by decide)).trans h6) ⟨k4.trans (eh_al_cg (fun c hc => (k3 c hc).symm)), k5.trans (eh_tl_cg (fun c hc => (k3 c hc).symm))⟩ (n1.trans (by rw [hn]; omega)) g2 q3
          refine ⟨w2, ?_, hW2, ef_s_trans s s2⟩
          rw [e2]
          have e3 : eh_sn R H P S D (k + 1) W (m : Int) = eh_sn R H P S D k (eh_nx W R H P S D (eh_al W) (eh_tl W)) ((m + 1 : Nat) : Int) := by
            unfold eh_sk at g1
            conv => lhs; unfold eh_sn
            rw [if_neg g1]
            rfl
          rw [e3]
theorem ew_snBl {R H P S D : Nat → Int} {x1 x2 : Int} : ∀ (k n m : Nat) (w : px_W) (r : Option Value × px_W) (W : Nat → Int), m + k = 999 → eh_D W R H P → eh_B w W R H P S D → ec_E hb_X n 198 60 [(0, .inr (.inl 215)), (1, .inl x1), (2, .inl x2), (3, .inl ((m : Int) + 1))] [] w r → ∃ w' : px_W, r = (ec_R (eh_sn R H P S D k W (m : Int)), w') ∧ ec_W hb_A w' ∧ ef_s [151, 155, 158] w w' ∧ ∀ f, f ≠ 9 → f ≠ 10 → ec_fd w' 151 f = ec_fd w 151 f := by
  intro k
  induction k with
  | zero =>
    intro n m w r W hk hD hB h
    have em1 : ec_tw ((m : Int) + 1) = ((m + 1 : Nat) : Int) := (ec_tw_id (by omega) (by omega)).trans (by omega)
    have t9 : ec_tw 999 = 999 := rfl
    obtain ⟨_, hr, hW⟩ := eg198_151_60_0 h (by rw [em1, t9]; omega)
    exact ⟨w, hr, hW, ef_s_refl, fun _ _ _ => rfl⟩
  | succ k ih =>
    intro n m w r W hk hD hB h
    have em1 : ec_tw ((m : Int) + 1) = ((m + 1 : Nat) : Int) := (ec_tw_id (by omega) (by omega)).trans (by omega)
    have t9 : ec_tw 999 = 999 := rfl
    obtain ⟨_, v, w1, q1, q2⟩ := eg198_151_60_1 h (by rw [em1, t9]; omega)
    obtain ⟨z, w', e, hW, s, f, n3, p3⟩ := ew_paB hD hB q1
    injection e with e e'
    subst e'
    have q3 := q2 z e hW
    rcases p3 with ⟨g1, g2⟩ | ⟨g1, g2⟩
    · obtain ⟨_, hr, hW'⟩ := eg198_151_71_1 q3 (by rw [g2]; decide)
      refine ⟨_, ?_, hW', s, f⟩
      rw [hr]
      unfold eh_sk at g1
      unfold eh_sn
      rw [if_pos g1]
    · have q4 := (eg198_151_71_0 q3 (by rw [g2])).2
      have hB' : eh_B w1 (eh_nx W R H P S D (eh_al W) (eh_tl W)) R H P S D := by
        intro c hc
        obtain ⟨b1, b2, b3, b4, b5⟩ := hB c hc
        refine ⟨n3 c hc, (congrFun (ef_s_a s (by decide)) c).trans b2, (congrFun (ef_s_a s (by decide)) _).trans b3, (congrFun (ef_s_a s (by decide)) _).trans b4, fun h7 => ⟨(congrFun (ef_s_a s (by decide)) c).trans (b5 h7).1, (congrFun (ef_s_a s (by decide)) _).trans (b5 h7).2⟩⟩
      obtain ⟨w2, e2, hW2, s2, f2⟩ := ih n (m + 1) w1 r (eh_nx W R H P S D (eh_al W) (eh_tl W)) (by omega) (eh_nx_in hD) hB' q4
      refine ⟨w2, ?_, hW2, ef_s_trans s s2, fun g k1 k2 => (f2 g k1 k2).trans (f g k1 k2)⟩
      rw [e2]
      have e3 : eh_sn R H P S D (k + 1) W (m : Int) = eh_sn R H P S D k (eh_nx W R H P S D (eh_al W) (eh_tl W)) ((m + 1 : Nat) : Int) := by
        unfold eh_sk at g1
        conv => lhs; unfold eh_sn
        rw [if_neg g1]
        rfl
      rw [e3]
def eh_okn (x1 x2 : Int) : Prop := (-1 ≤ ec_tw x1 ∧ ec_tw x1 ≤ 6) ∧ (0 ≤ ec_tw x2 ∧ ec_tw x2 ≤ 100)
/-- the heights as if -/
def eh_hs (S : Nat → Int) (x1 x2 : Int) : Nat → Int := if 0 ≤ ec_tw x1 then ef_u S (ec_tw x1).toNat (ec_tw x2) else S
theorem ew_sinksA {n : Nat} {w : px_W} {r : Option Value × px_W} {x1 x2 : Int} (hD : eh_D (ef_a w 3) (ef_a w 2) (ef_a w 4) (ef_a w 5)) (hn : 0 ≤ ec_fd w 1 0 ∧ ec_fd w 1 0 ≤ 999) (h : ec_E hb_X n 127 0 [(0, .inr (.inl 64)), (1, .inl x1), (2, .inl x2)] [] w r) : ∃ (v : Int) (w' : px_W), r = (ec_R v, w') ∧ ef_s [117, 118, 119, 120, 121, 122, 123, 124, 125] w w' ∧ ((¬ eh_okn x1 x2 ∧ v = -1) ∨ (eh_okn x1 x2 ∧ ((ec_fd w 1 1 ≠ -3 ∧ v = -4) ∨ (ec_fd w 1 1 = -3 ∧ v = eh_sn (ef_a w 2) (ef_a w 4) (ef_a w 5) (eh_hs (ef_a w 6) x1 x2) (ef_a w 7) (999 - (ec_fd w 1 0).toNat) (ef_a w 3) (ec_fd w 1 0))))) := by
  have t0 : ec_tw 0 = 0 := rfl
  have t6 : ec_tw 6 = 6 := rfl
  have tm : ec_tw (-1) = -1 := rfl
  have t3 : ec_tw (-3) = -3 := rfl
  have t100 : ec_tw 100 = 100 := rfl
  obtain ⟨_, v, w1, q1, q2⟩ := eg127_0_0_0 h
  obtain ⟨e1, W1⟩ := ew_within q1
  injection e1 with e1 i1
  have i2 := i1.symm
  subst i2
  have q3 := q2 _ e1 W1
  rw [tm, t6] at q3
  by_cases g1 : -1 ≤ ec_tw x1 ∧ ec_tw x1 ≤ 6
  · rw [if_pos g1] at q3
    obtain ⟨_, v, w1, q4, q5⟩ := eg127_0_7_1 q3 (by decide)
    obtain ⟨e2, W2⟩ := ew_within q4
    injection e2 with e2 j1
    have j2 := j1.symm
    subst j2
    have q6 := q5 _ e2 W2
    rw [t0, t100] at q6
    by_cases g2 : 0 ≤ ec_tw x2 ∧ ec_tw x2 ≤ 100
    · rw [if_pos g2] at q6
      by_cases g3 : ec_fd w 1 1 = -3
      · obtain ⟨_, v, w1, q7, q8⟩ := eg127_0_17_0 q6 (by decide) (by rw [g3])
        obtain ⟨y, e3, W3, s3, r1, r2, r3, r4, r5, r6, f0, f1⟩ := ew_cf32_117 q7
        obtain ⟨y', e4, wd⟩ := ew_cfw_117 q7
        injection e3 with e3 k1
        subst k1
        injection e4 with e4 k2
        subst k2
        have q9 := q8 e3 W3
        have hk : ∃ w2 : px_W, ec_W hb_A w2 ∧ ef_s [122] w1 w2 ∧ ef_a w2 122 = eh_hs (ef_a w 6) x1 x2 ∧ ec_E hb_X n 127 62 [(0, .inr (.inl 64)), (1, .inl x1), (2, .inl x2)] [] w2 r := by
          by_cases g4 : 0 ≤ ec_tw x1
          · refine ⟨_, ec_W_wr W3, ef_s_wr (by decide), ?_, (eg127_0_48_1 q9 (by rw [t0]; exact g4)).2⟩
            rw [ef_a_wr (n := 7) W3 rfl g4 (by omega), r5]
            unfold eh_hs
            rw [if_pos g4]
          · refine ⟨w1, W3, ef_s_refl, ?_, (eg127_0_48_0 q9 (by rw [t0]; omega)).2⟩
            rw [r5]
            unfold eh_hs
            rw [if_neg g4]
        obtain ⟨w2, W4, s4, r7, q10⟩ := hk
        have q11 := (eg127_0_62_0 q10).2
        have n1 : ec_fd w2 1 0 = (((ec_fd w 1 0).toNat : Nat) : Int) := (ef_s_f s4 (by decide) 0).trans ((ef_s_f s3 (by decide) 0).trans (by omega))
        rw [n1] at q11
        obtain ⟨w3, e5, W5, s5⟩ := ew_snl (R := ef_a w 2) (H := ef_a w 4) (P := ef_a w 5) (S := eh_hs (ef_a w 6) x1 x2) (D := ef_a w 7) (999 - (ec_fd w 1 0).toNat) n (ec_fd w 1 0).toNat w2 r (ef_a w 3) (by omega) hD (fun c _ => (congrFun (ef_s_a s4 (by decide)) c).trans (congrFun r2 c)) ((ef_s_a s4 (by decide)).trans r1) ((ef_s_a s4 (by decide)).trans r3) ((ef_s_a s4 (by decide)).trans r4) r7 ((ef_s_a s4 (by decide)).trans r6) ⟨(ef_s_f s4 (by decide) 8).trans (wd.1.trans (eh_al_cg (fun c _ => (congrFun (ef_s_a s4 (by decide)) c).symm))), (ef_s_f s4 (by decide) 9).trans (wd.2.trans (eh_tl_cg (fun c _ => (congrFun (ef_s_a s4 (by decide)) c).symm)))⟩ ((ef_s_f s4 (by decide) 0).trans (f0.trans (by omega))) ((ef_s_f s4 (by decide) 1).trans (f1.trans g3)) q11
        have en : (((ec_fd w 1 0).toNat : Nat) : Int) = ec_fd w 1 0 := by omega
        rw [en] at e5
        exact ⟨_, _, e5, ef_s_trans (ef_s_mono s3 (by decide)) (ef_s_trans (ef_s_mono s4 (by decide)) (ef_s_mono s5 (by decide))), .inr ⟨⟨g1, g2⟩, .inr ⟨g3, rfl⟩⟩⟩
      · obtain ⟨_, hr, _⟩ := eg127_0_17_1 q6 (by decide) (by rw [ec_tw_fd, t3]; exact g3)
        exact ⟨_, _, hr, ef_s_refl, .inr ⟨⟨g1, g2⟩, .inl ⟨g3, rfl⟩⟩⟩
    · rw [if_neg g2] at q6
      obtain ⟨_, hr, _⟩ := eg127_0_17_2 q6 rfl
      exact ⟨_, _, hr, ef_s_refl, .inl ⟨fun e => g2 e.2, rfl⟩⟩
  · rw [if_neg g1] at q3
    obtain ⟨_, hr, _⟩ := eg127_0_7_0 q3 rfl
    exact ⟨_, _, hr, ef_s_refl, .inl ⟨fun e => g1 e.1, rfl⟩⟩
theorem ew_sinksB {R H P S D W : Nat → Int} {now sk : Int} {n : Nat} {w : px_W} {r : Option Value × px_W} {x1 x2 : Int} (hD : eh_D W R H P) (hC : eh_cb w R H P S D (W, now, sk)) (hn : 0 ≤ now ∧ now ≤ 999) (h : ec_E hb_X n 198 0 [(0, .inr (.inl 215)), (1, .inl x1), (2, .inl x2)] [] w r) : ∃ (v : Int) (w' : px_W), r = (ec_R v, w') ∧ ef_s [151, 155, 156, 157, 158] w w' ∧ (∀ f, f ≠ 9 → f ≠ 10 → ec_fd w' 151 f = ec_fd w 151 f) ∧ ((¬ eh_okn x1 x2 ∧ v = -1) ∨ (eh_okn x1 x2 ∧ ((sk ≠ -3 ∧ v = -4) ∨ (sk = -3 ∧ v = eh_sn R H P (eh_hs S x1 x2) D (999 - now.toNat) W now)))) := by
  have t0 : ec_tw 0 = 0 := rfl
  have tm : ec_tw (-1) = -1 := rfl
  have t100 : ec_tw 100 = 100 := rfl
  obtain ⟨c1, c2, c3⟩ := hC
  have c2' : ec_rd w 152 (ec_tw 0) = now := c2
  have d1 : ec_rd w 152 (ec_tw 1) = ef_a w 152 1 := rfl
  have go : ∀ z : Int, (ec_tw z ≠ ec_tw 0 ∧ eh_okn x1 x2) ∨ (ec_tw z = ec_tw 0 ∧ ¬ eh_okn x1 x2) → ec_E hb_X n 198 19 [(0, .inr (.inl 215)), (1, .inl x1), (2, .inl x2)] [.inl z] w r → ∃ (v : Int) (w' : px_W), r = (ec_R v, w') ∧ ef_s [151, 155, 156, 157, 158] w w' ∧ (∀ f, f ≠ 9 → f ≠ 10 → ec_fd w' 151 f = ec_fd w 151 f) ∧ ((¬ eh_okn x1 x2 ∧ v = -1) ∨ (eh_okn x1 x2 ∧ ((sk ≠ -3 ∧ v = -4) ∨ (sk = -3 ∧ v = eh_sn R H P (eh_hs S x1 x2) D (999 - now.toNat) W now)))) := by
    intro z hz q
    rcases hz with ⟨g, ok⟩ | ⟨g, ok⟩
    · rcases c3 with ⟨m1, m2⟩ | ⟨m1, m2⟩
      · have m3 : sk = -3 := m1
        obtain ⟨_, v, w1, q1, q2⟩ := eg198_151_19_0 q g (by rw [d1, ef_tw, m2, t0]; decide)
        obtain ⟨y, e1, W1, s1, f1⟩ := ew_loB q1
        injection e1 with e1 i1
        subst i1
        have q3 := q2 e1 W1
        have b1 : -1 ≤ ec_tw x1 ∧ ec_tw x1 ≤ 6 := ok.1
        have hk : ∃ w2 : px_W, ec_W hb_A w2 ∧ ef_s [157] w1 w2 ∧ (∀ c, c < 7 → ef_a w2 157 c = eh_hs S x1 x2 c) ∧ ec_E hb_X n 198 51 [(0, .inr (.inl 215)), (1, .inl x1), (2, .inl x2)] [] w2 r := by
          by_cases g4 : 0 ≤ ec_tw x1
          · refine ⟨_, ec_W_wr W1, ef_s_wr (by decide), fun c hc => ?_, (eg198_151_40_1 q3 (by rw [t0]; exact g4)).2⟩
            rw [ef_a_wr (n := 8) W1 rfl g4 (by omega)]
            unfold eh_hs
            rw [if_pos g4]
            unfold ef_u
            by_cases hc2 : c = (ec_tw x1).toNat
            · rw [if_pos hc2, if_pos hc2]
            · rw [if_neg hc2, if_neg hc2, (f1 c (by omega)).2.2]
              exact ((c1 c (by omega)).2.2.2.2 hc).1
          · refine ⟨w1, W1, ef_s_refl, fun c hc => ?_, (eg198_151_40_0 q3 (by rw [t0]; omega)).2⟩
            unfold eh_hs
            rw [if_neg g4, (f1 c (by omega)).2.2]
            exact ((c1 c (by omega)).2.2.2.2 hc).1
        obtain ⟨w2, W2, s2, r2, q4⟩ := hk
        have q5 := (eg198_151_51_0 q4).2
        have s12 : ef_s [155, 156, 157] w w2 := ef_s_trans s1 (ef_s_mono s2 (by decide))
        have n1 : ec_rd w2 152 (ec_tw 0) = ((now.toNat : Nat) : Int) := ((congrFun (ef_s_a s12 (by decide)) 0 : ef_a w2 152 0 = ef_a w 152 0)).trans (c2.trans (show now = ((now.toNat : Nat) : Int) by omega))
        rw [n1] at q5
        have hB : eh_B w2 W R H P (eh_hs S x1 x2) D := by
          intro c hc
          obtain ⟨a1, a2, a3, a4, a5⟩ := c1 c hc
          obtain ⟨b1, b2, b3⟩ := f1 c hc
          exact ⟨(congrFun (ef_s_a s2 (by decide)) c).trans (b1.trans a1), (congrFun (ef_s_a s2 (by decide)) c).trans (b2.trans a3), (congrFun (ef_s_a s12 (by decide)) _).trans a2, (congrFun (ef_s_a s12 (by decide)) _).trans a4, fun h7 => ⟨r2 c h7, (congrFun (ef_s_a s12 (by decide)) _).trans (a5 h7).2⟩⟩
        obtain ⟨w3, e3, W3, s3, f3⟩ := ew_snBl (999 - now.toNat) n now.toNat w2 r W (by omega) hD hB q5
        have en : ((now.toNat : Nat) : Int) = now := by omega
        rw [en] at e3
        exact ⟨_, _, e3, ef_s_trans (ef_s_mono s12 (by decide)) (ef_s_mono s3 (by decide)), fun f k1 k2 => (f3 f k1 k2).trans (ef_s_f s12 (by decide) f), .inr ⟨ok, .inr ⟨m3, rfl⟩⟩⟩
      · have m3 : 0 ≤ sk := m1
        have m4 : ef_a w 152 1 = sk := m2
        obtain ⟨_, hr, _⟩ := eg198_151_19_1 q g (by rw [d1, ef_tw, m4, t0]; exact m3)
        exact ⟨_, _, hr, ef_s_refl, fun _ _ _ => rfl, .inr ⟨ok, .inl ⟨by omega, rfl⟩⟩⟩
    · obtain ⟨_, hr, _⟩ := eg198_151_19_2 q g
      exact ⟨_, _, hr, ef_s_refl, fun _ _ _ => rfl, .inl ⟨ok, rfl⟩⟩
  have last : (-1 ≤ ec_tw x1 ∧ ec_tw x1 ≤ 6) → ∀ (v : Option Value) (w1 : px_W), ec_E hb_X n 182 0 [(0, .inl x2), (1, .inl 0), (2, .inl 100)] [] w (v, w1) → (∀ zz : Int, v = ec_R zz → ec_W hb_A w1 → ec_E hb_X n 198 19 [(0, .inr (.inl 215)), (1, .inl x1), (2, .inl x2)] [.inl zz] w1 r) → ∃ (v : Int) (w' : px_W), r = (ec_R v, w') ∧ ef_s [151, 155, 156, 157, 158] w w' ∧ (∀ f, f ≠ 9 → f ≠ 10 → ec_fd w' 151 f = ec_fd w 151 f) ∧ ((¬ eh_okn x1 x2 ∧ v = -1) ∨ (eh_okn x1 x2 ∧ ((sk ≠ -3 ∧ v = -4) ∨ (sk = -3 ∧ v = eh_sn R H P (eh_hs S x1 x2) D (999 - now.toNat) W now)))) := by
    intro hg v w1 q1 q2
    obtain ⟨e1, W1⟩ := ew_in q1
    injection e1 with e1 i1
    have i2 := i1.symm
    subst i2
    have q3 := q2 _ e1 W1
    rw [t0, t100] at q3
    by_cases g2 : 0 ≤ ec_tw x2 ∧ ec_tw x2 ≤ 100
    · rw [if_pos g2] at q3
      exact go 1 (.inl ⟨by decide, hg, g2⟩) q3
    · rw [if_neg g2] at q3
      exact go 0 (.inr ⟨rfl, fun e => g2 e.2⟩) q3
  by_cases g1 : ec_tw x1 = -1
  · obtain ⟨_, v, w1, q1, q2⟩ := eg198_151_0_0 h (by rw [g1, tm])
    exact last (by omega) v w1 q1 q2
  · obtain ⟨_, v, w1, q1, q2⟩ := eg198_151_0_1 h (by rw [tm]; exact g1)
    obtain ⟨e1, W1⟩ := ew_isWall q1
    injection e1 with e1 i1
    have i2 := i1.symm
    subst i2
    have q3 := q2 _ e1 W1
    by_cases g2 : 0 ≤ ec_tw x1 ∧ ec_tw x1 ≤ 6
    · rw [if_pos g2] at q3
      obtain ⟨_, v, w1, q4, q5⟩ := eg198_151_9_1 q3 (by decide)
      exact last (by omega) v w1 q4 q5
    · rw [if_neg g2] at q3
      obtain ⟨_, hr, _⟩ := eg198_151_9_0 q3 rfl
      exact ⟨_, _, hr, ef_s_refl, fun _ _ _ => rfl, .inl ⟨fun e => by have := e.1; omega, rfl⟩⟩
theorem ew_sinks2 {xs : List Int32} {x1 x2 : Int} {n : Nat} {w wA wB : px_W} {vA vB : Option Value} (hR : eh_RR w) (hA : ec_F (hb_XL xs) n 127 [.inr (.inl 64), .inl x1, .inl x2] w (vA, wA)) (hB : ec_F (hb_XL xs) n 198 [.inr (.inl 215), .inl x1, .inl x2] wA (vB, wB)) : vA = vB ∧ eh_RR wB := by
  obtain ⟨ha, hb⟩ := eh_to hR.1 hR.2.1
  have hD : eh_D (ef_a w 3) (ef_a w 2) (ef_a w 4) (ef_a w 5) := hR.1.2.1
  obtain ⟨v, w1, e, s, hv⟩ := ew_sinksA hD hR.1.2.2.1.2 (hb_FE hA)
  injection e with e1 e2
  subst e2
  have hb' : eh_cb wA (ef_a w 2) (ef_a w 4) (ef_a w 5) (ef_a w 6) (ef_a w 7) (ef_a w 3, ec_fd w 1 0, ec_fd w 1 1) := by
    unfold eh_cb
    rw [ef_s_a s (by decide)]
    exact hb
  obtain ⟨v', w2, e', s2, f2, hv'⟩ := ew_sinksB hD hb' hR.1.2.2.1.2 (hb_FE hB)
  injection e' with f1 f3
  subst f3
  refine ⟨?_, eh_RR_s s2 (by decide) (f2 2 (by decide) (by decide)) (eh_RR_s s (by decide) (ef_s_f s (by decide) 2) hR)⟩
  rw [e1, f1]
  rcases hv with ⟨a, b⟩ | ⟨a, b⟩ <;> rcases hv' with ⟨a', b'⟩ | ⟨a', b'⟩
  · rw [b, b']
  · exact absurd a' a
  · exact absurd a a'
  · rcases b with ⟨c, d⟩ | ⟨c, d⟩ <;> rcases b' with ⟨c', d'⟩ | ⟨c', d'⟩
    · rw [d, d']
    · exact absurd c' c
    · exact absurd c c'
    · rw [d, d']

end
