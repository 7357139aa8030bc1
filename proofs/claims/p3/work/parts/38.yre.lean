noncomputable section
/-! THE HULL IS THE SAME ON BOTH SIDES: MINUTES -/
theorem eh_nx_cg {W V R H P S D : Nat → Int} {a t : Int} (h : ∀ c, c < 8 → W c = V c) : ∀ c, c < 8 → eh_nx W R H P S D a t c = eh_nx V R H P S D a t c := by
  intro c hc
  have e := eh_fl_cg (L := eh_lv W R) (S := S) (D := D) (G := eh_g0 W R H P a t) (L' := eh_lv V R) (S' := S) (D' := D) (G' := eh_g0 V R H P a t) (fun c hc => by unfold eh_lv; rw [h c hc]) (fun c _ => ⟨rfl, rfl⟩) (fun c hc => by unfold eh_g0 eh_lv; rw [h c hc]) 7 (Nat.le_refl 7) c hc
  unfold eh_nx eh_nw
  rw [h c hc, e]
def eh_mi (R H P S D : Nat → Int) (X : (Nat → Int) × Int × Int) : (Nat → Int) × Int × Int := if X.2.2 = -3 then (eh_nx X.1 R H P S D (eh_al X.1) (eh_tl X.1), X.2.1 + 1, if eh_ou (eh_al (eh_nx X.1 R H P S D (eh_al X.1) (eh_tl X.1))) (eh_tl (eh_nx X.1 R H P S D (eh_al X.1) (eh_tl X.1))) 0 = 100 ∨ eh_ou (eh_al (eh_nx X.1 R H P S D (eh_al X.1) (eh_tl X.1))) (eh_tl (eh_nx X.1 R H P S D (eh_al X.1) (eh_tl X.1))) 7 = 100 then X.2.1 + 1 else -3) else (X.1, X.2.1 + 1, X.2.2)
def eh_it (R H P S D : Nat → Int) : Nat → (Nat → Int) × Int × Int → (Nat → Int) × Int × Int
  | 0, X => X
  | k + 1, X => eh_it R H P S D k (eh_mi R H P S D X)
theorem eh_mi_n {R H P S D : Nat → Int} {X : (Nat → Int) × Int × Int} : (eh_mi R H P S D X).2.1 = X.2.1 + 1 := by
  unfold eh_mi
  split <;> rfl
theorem eh_mi_D {R H P S D : Nat → Int} {X : (Nat → Int) × Int × Int} (h : eh_D X.1 R H P) : eh_D (eh_mi R H P S D X).1 R H P := by
  unfold eh_mi
  split
  · exact eh_nx_in h
  · exact h
theorem eh_it_n {R H P S D : Nat → Int} : ∀ (k : Nat) {X : (Nat → Int) × Int × Int}, (eh_it R H P S D k X).2.1 = X.2.1 + k
  | 0, X => by
    show X.2.1 = X.2.1 + ((0 : Nat) : Int)
    omega
  | k + 1, X => by
    show (eh_it R H P S D k (eh_mi R H P S D X)).2.1 = X.2.1 + ((k + 1 : Nat) : Int)
    rw [eh_it_n k, eh_mi_n]
    omega
theorem eh_it_D {R H P S D : Nat → Int} : ∀ (k : Nat) {X : (Nat → Int) × Int × Int}, eh_D X.1 R H P → eh_D (eh_it R H P S D k X).1 R H P
  | 0, _, h => h
  | k + 1, _, h => eh_it_D k (eh_mi_D h)
def eh_wd (w : px_W) (o : Nat) : Prop := ec_fd w o 8 = eh_al (ef_a w (o + 2)) ∧ ec_fd w o 9 = eh_tl (ef_a w (o + 2))
/-- the class's hull -/
def eh_ca (w : px_W) (R H P S D : Nat → Int) (X : (Nat → Int) × Int × Int) : Prop := (∀ c, c < 8 → ef_a w 3 c = X.1 c) ∧ ec_fd w 1 0 = X.2.1 ∧ ec_fd w 1 1 = X.2.2 ∧ eh_wd w 1 ∧ ef_a w 2 = R ∧ ef_a w 4 = H ∧ ef_a w 5 = P ∧ ef_a w 6 = S ∧ ef_a w 7 = D
/-- the reference's -/
def eh_cb (w : px_W) (R H P S D : Nat → Int) (X : (Nat → Int) × Int × Int) : Prop := (∀ c, c < 8 → ef_a w 152 (24 + c) = X.1 c ∧ ef_a w 152 (16 + c) = R c ∧ ef_a w 152 (32 + c) = H c ∧ ef_a w 152 (40 + c) = P c ∧ (c < 7 → ef_a w 152 (48 + c) = S c ∧ ef_a w 152 (56 + c) = D c)) ∧ ef_a w 152 0 = X.2.1 ∧ ((X.2.2 = -3 ∧ ef_a w 152 1 = -1) ∨ (0 ≤ X.2.2 ∧ ef_a w 152 1 = X.2.2))
theorem ew_mA1 {R H P S D : Nat → Int} {X : (Nat → Int) × Int × Int} {n : Nat} {w : px_W} {r : Option Value × px_W} (hC : eh_ca w R H P S D X) (hD : eh_D X.1 R H P) (hn : 0 ≤ X.2.1 ∧ X.2.1 ≤ 998) (h : ec_E hb_X n 39 0 [(0, .inr (.inl 65))] [] w r) : ∃ (v : Int) (w' : px_W), r = (ec_R v, w') ∧ ec_W hb_A w' ∧ ef_s [1, 3, 8, 9] w w' ∧ eh_ca w' R H P S D (eh_mi R H P S D X) := by
  obtain ⟨c1, c2, c3, ⟨c4, c5⟩, c6, c7, c8, c9, c10⟩ := hC
  have hD' : eh_D (ef_a w 3) R H P := fun c hc => by
    rw [c1 c hc]
    exact hD c hc
  obtain ⟨v, w', e, hW, hp⟩ := ew_pmA_1 (S := S) (D := D) hD' c6 rfl c7 c8 c9 c10 c4 c5 (by rw [c2]; exact hn) h
  unfold eh_pm_1 at hp
  obtain ⟨s, n1, _, hp⟩ := hp
  have ea := eh_al_cg c1
  have et := eh_tl_cg c1
  have f2 : ef_a w' 2 = R := (ef_s_a s (by decide)).trans c6
  have f4 : ef_a w' 4 = H := (ef_s_a s (by decide)).trans c7
  have f5 : ef_a w' 5 = P := (ef_s_a s (by decide)).trans c8
  have f6 : ef_a w' 6 = S := (ef_s_a s (by decide)).trans c9
  have f7 : ef_a w' 7 = D := (ef_s_a s (by decide)).trans c10
  refine ⟨v, w', e, hW, s, ?_⟩
  rcases hp with ⟨k1, _, k2, k3, k4, k5⟩ | ⟨k1, k3, k4, k5, _, k6⟩
  · unfold eh_mi
    rw [if_neg (by rw [← c3]; exact k1)]
    refine ⟨fun c hc => (k3 c hc).trans (c1 c hc), n1.trans (by rw [c2]), k2.trans c3, ⟨k4.trans (eh_al_cg (fun c hc => (k3 c hc).symm)), k5.trans (eh_tl_cg (fun c hc => (k3 c hc).symm))⟩, f2, f4, f5, f6, f7⟩
  · have en : ∀ c, c < 8 → eh_nx (ef_a w 3) R H P S D (eh_al (ef_a w 3)) (eh_tl (ef_a w 3)) c = eh_nx X.1 R H P S D (eh_al X.1) (eh_tl X.1) c := by
      rw [ea, et]
      exact eh_nx_cg c1
    have na := eh_al_cg en
    have nt := eh_tl_cg en
    rw [na, nt] at k6
    unfold eh_mi
    rw [if_pos (by rw [← c3]; exact k1)]
    refine ⟨fun c hc => (k3 c hc).trans (en c hc), n1.trans (by rw [c2]), ?_, ⟨k4.trans (eh_al_cg (fun c hc => (k3 c hc).symm)), k5.trans (eh_tl_cg (fun c hc => (k3 c hc).symm))⟩, f2, f4, f5, f6, f7⟩
    rcases k6 with ⟨g1, g2⟩ | ⟨g1, g2⟩
    · unfold eh_sk at g1
      rw [g2, c2]
      exact (if_pos g1).symm
    · unfold eh_sk at g1
      rw [g2]
      exact (if_neg g1).symm
theorem ew_miA {R H P S D : Nat → Int} {x1 : Int} : ∀ (k n i : Nat) (w : px_W) (X : (Nat → Int) × Int × Int) (r : Option Value × px_W), ec_tw x1 = ((i + k : Nat) : Int) → i + k ≤ 200 → eh_ca w R H P S D X → eh_D X.1 R H P → 0 ≤ X.2.1 → X.2.1 + (k : Int) ≤ 999 → ec_E hb_X n 121 33 [(0, .inr (.inl 64)), (1, .inl x1), (2, .inl (i : Int))] [] w r → ∃ w' : px_W, r = (ec_R (ec_fd w' 1 0), w') ∧ ec_W hb_A w' ∧ ef_s [1, 3, 8, 9] w w' ∧ eh_ca w' R H P S D (eh_it R H P S D k X) := by
  intro k
  induction k with
  | zero =>
    intro n i w X r hx hi hC hD h0 h1 h
    have ei : ec_tw (i : Int) = i := ec_twn (by omega)
    obtain ⟨_, hr, hW⟩ := eg121_0_33_0 h (by rw [hx, ei]; omega)
    exact ⟨w, hr, hW, ef_s_refl, hC⟩
  | succ k ih =>
    intro n i w X r hx hi hC hD h0 h1 h
    have ei : ec_tw (i : Int) = i := ec_twn (by omega)
    obtain ⟨_, v, w1, q1, q2⟩ := eg121_0_33_1 h (by rw [hx, ei]; omega)
    obtain ⟨v', w', e, hW, s, hC'⟩ := ew_mA1 hC hD (by omega) q1
    injection e with e e'
    subst e'
    have q3 := (eg121_0_45_0 (q2 v' e hW)).2
    obtain ⟨w2, e2, hW2, s2, hC2⟩ := ih n (i + 1) w1 _ r (by rw [hx]; omega) (by omega) hC' (eh_mi_D hD) (by rw [eh_mi_n]; omega) (by rw [eh_mi_n]; omega) q3
    exact ⟨w2, e2, hW2, ef_s_trans s s2, hC2⟩
theorem ew_miBl {x1 x2 : Int} : ∀ (k n i : Nat) (w : px_W) (r : Option Value × px_W), i + k = 8 → ec_E hb_X n 191 85 [(0, .inr (.inl 215)), (1, .inl x1), (2, .inl x2), (3, .inl (i : Int))] [] w r → ∃ w' : px_W, ec_E hb_X n 191 32 [(0, .inr (.inl 215)), (1, .inl x1), (2, .inl (x2 + 1))] [] w' r ∧ ef_s [152] w w' ∧ ∀ p, ef_a w' 152 p = if 24 + i ≤ p ∧ p < 32 then ef_a w 155 (p - 24) else ef_a w 152 p := by
  intro k
  induction k with
  | zero =>
    intro n i w r hik h
    have hi : i = 8 := by omega
    subst hi
    exact ⟨w, (eg191_151_85_0 h (Int.le_refl _)).2, ef_s_refl, fun p => by rw [if_neg (by omega)]⟩
  | succ k ih =>
    intro n i w r hik h
    have ei : ec_tw (i : Int) = i := ec_twn (by omega)
    have e24 : ec_tw (24 + (i : Int)) = ((24 + i : Nat) : Int) := (ec_tw_id (by omega) (by omega)).trans (by omega)
    have t8 : ec_tw 8 = 8 := rfl
    have q := (eg191_151_85_1 h (by omega)).2
    rw [ei, e24, ef_rd] at q
    obtain ⟨w', g1, g2, g3⟩ := ih n (i + 1) _ r (by omega) q
    refine ⟨w', g1, ef_s_trans (ef_s_wr List.mem_cons_self) g2, fun p => ?_⟩
    rw [g3 p, ef_a_wr_o (by decide), ef_a_wr (n := 1580) h.1 rfl (by omega) (by omega), ef_tw, Int.toNat_natCast]
    unfold ef_u
    by_cases h3 : 24 + (i + 1) ≤ p ∧ p < 32
    · rw [if_pos h3, if_pos (by omega)]
    · rw [if_neg h3]
      by_cases h4 : p = 24 + i
      · have e : p - 24 = i := by omega
        rw [if_pos h4, if_pos (by omega), e]
      · rw [if_neg h4, if_neg (by omega)]
theorem ew_mB1 {R H P S D : Nat → Int} {X : (Nat → Int) × Int × Int} {n : Nat} {w : px_W} {r : Option Value × px_W} {x1 x2 : Int} (hC : eh_cb w R H P S D X) (hD : eh_D X.1 R H P) (hn : 0 ≤ X.2.1 ∧ X.2.1 ≤ 998) (hx : ec_tw x2 < ec_tw x1) (h : ec_E hb_X n 191 32 [(0, .inr (.inl 215)), (1, .inl x1), (2, .inl x2)] [] w r) : ∃ w' : px_W, ec_E hb_X n 191 32 [(0, .inr (.inl 215)), (1, .inl x1), (2, .inl (x2 + 1))] [] w' r ∧ ef_s [151, 152, 155, 156, 157, 158] w w' ∧ (∀ f, f ≠ 9 → f ≠ 10 → ec_fd w' 151 f = ec_fd w 151 f) ∧ eh_cb w' R H P S D (eh_mi R H P S D X) := by
  obtain ⟨c1, c2, c3⟩ := hC
  have t0 : ec_tw 0 = 0 := rfl
  have t1 : ec_tw 1 = 1 := rfl
  have d0 : ec_rd w 152 0 = X.2.1 := c2
  have g1 : ∀ p, ef_a (ec_wr w 152 0 (X.2.1 + 1)) 152 p = if p = 0 then X.2.1 + 1 else ef_a w 152 p := by
    intro p
    rw [ef_a_wr (n := 1580) h.1 rfl (by decide) (by decide), ec_tw_id (a := X.2.1 + 1) (by omega) (by omega)]
    rfl
  have s1 : ef_s [151, 152, 155, 156, 157, 158] w (ec_wr w 152 0 (X.2.1 + 1)) := ef_s_wr (by decide)
  have k1 : ec_rd (ec_wr w 152 0 (X.2.1 + 1)) 152 1 = ef_a w 152 1 := (g1 1).trans (if_neg (by decide))
  have k2 : ec_tw (ef_a w 152 1) = ef_a w 152 1 := ef_tw w 152 1
  rcases c3 with ⟨m1, m2⟩ | ⟨m1, m2⟩
  · have q := eg191_151_32_2 h hx
    rw [t0, t1, d0, k1, k2, m2] at q
    obtain ⟨_, v, w1, q1, q2⟩ := q (by decide)
    obtain ⟨y1, e1, W1, s2, f2⟩ := ew_loB q1
    injection e1 with e1 i1
    subst i1
    obtain ⟨_, v2, w2, q3, q4⟩ := eg191_151_60_0 (q2 e1 W1)
    have r1 : ∀ p, ef_a w1 152 p = if p = 0 then X.2.1 + 1 else ef_a w 152 p := fun p => (congrFun (ef_s_a s2 (by decide)) p).trans (g1 p)
    have r2 : ∀ p, p ≠ 0 → ef_a w1 152 p = ef_a w 152 p := fun p hp => (r1 p).trans (if_neg hp)
    have r3 : ∀ p, p ≠ 0 → ef_a (ec_wr w 152 0 (X.2.1 + 1)) 152 p = ef_a w 152 p := fun p hp => (g1 p).trans (if_neg hp)
    have hB : eh_B w1 X.1 R H P S D := by
      intro c hc
      obtain ⟨a1, a2, a3, a4, a5⟩ := c1 c hc
      obtain ⟨b1, b2, b3⟩ := f2 c hc
      exact ⟨b1.trans ((r3 _ (by omega)).trans a1), b2.trans ((r3 _ (by omega)).trans a3), (r2 _ (by omega)).trans a2, (r2 _ (by omega)).trans a4, fun h7 => ⟨b3.trans ((r3 _ (by omega)).trans (a5 h7).1), (r2 _ (by omega)).trans (a5 h7).2⟩⟩
    obtain ⟨v', y2, e2, W2, s3, f3, n3, p3⟩ := ew_paB hD hB q3
    injection e2 with e2 i2
    subst i2
    have q5 := q4 v' e2 W2
    have z0 : ef_a w2 152 0 = X.2.1 + 1 := (congrFun (ef_s_a s3 (by decide)) 0).trans ((r1 0).trans (if_pos rfl))
    have zd : ec_rd w2 152 0 = X.2.1 + 1 := z0
    have fin : ∀ z : Int, -2147483648 ≤ z → z ≤ 2147483647 → (((eh_mi R H P S D X).2.2 = -3 ∧ z = -1) ∨ (0 ≤ (eh_mi R H P S D X).2.2 ∧ z = (eh_mi R H P S D X).2.2)) → ec_E hb_X n 191 82 [(0, .inr (.inl 215)), (1, .inl x1), (2, .inl x2)] [.inl z, .inl 1, .inr (.inl 216)] w2 r → ∃ w' : px_W, ec_E hb_X n 191 32 [(0, .inr (.inl 215)), (1, .inl x1), (2, .inl (x2 + 1))] [] w' r ∧ ef_s [151, 152, 155, 156, 157, 158] w w' ∧ (∀ f, f ≠ 9 → f ≠ 10 → ec_fd w' 151 f = ec_fd w 151 f) ∧ eh_cb w' R H P S D (eh_mi R H P S D X) := by
      intro z z1 z2 hz q6
      have q7 := (eg191_151_82_0 q6).2
      rw [t1] at q7
      obtain ⟨w3, q8, s4, f4⟩ := ew_miBl 8 n 0 _ r rfl q7
      have u : ∀ p, ef_a (ec_wr w2 152 1 z) 152 p = if p = 1 then z else ef_a w2 152 p := by
        intro p
        rw [ef_a_wr (n := 1580) W2 rfl (by decide) (by decide), ec_tw_id z1 z2]
        rfl
      have u5 : ef_a (ec_wr w2 152 1 z) 155 = ef_a w2 155 := ef_a_wr_o (by decide)
      have f5 : ∀ p, p ≠ 0 → p ≠ 1 → (p < 24 ∨ 32 ≤ p) → ef_a w3 152 p = ef_a w 152 p := by
        intro p h0 h1 h2
        rw [f4 p, if_neg (by omega), u, if_neg h1, ef_s_a s3 (by decide)]
        exact r2 p h0
      have mi : (eh_mi R H P S D X).1 = eh_nx X.1 R H P S D (eh_al X.1) (eh_tl X.1) := by
        unfold eh_mi
        rw [if_pos m1]
      refine ⟨w3, q8, ?_, ?_, fun c hc => ⟨?_, ?_, ?_, ?_, fun h7 => ⟨?_, ?_⟩⟩, ?_, ?_⟩
      · exact ef_s_trans s1 (ef_s_trans (ef_s_mono s2 (by decide)) (ef_s_trans (ef_s_mono s3 (by decide)) (ef_s_trans (ef_s_wr (by decide)) (ef_s_mono s4 (by decide)))))
      · intro f k3 k4
        rw [ef_s_f s4 (by decide), ec_fd_wr_o (by decide), f3 f k3 k4, ef_s_f s2 (by decide), ec_fd_wr_o (by decide)]
      · have e : 24 + c - 24 = c := by omega
        rw [f4 (24 + c), if_pos (by omega), u5, e, mi]
        exact n3 c hc
      · exact (f5 _ (by omega) (by omega) (by omega)).trans (c1 c hc).2.1
      · exact (f5 _ (by omega) (by omega) (by omega)).trans (c1 c hc).2.2.1
      · exact (f5 _ (by omega) (by omega) (by omega)).trans (c1 c hc).2.2.2.1
      · exact (f5 _ (by omega) (by omega) (by omega)).trans ((c1 c hc).2.2.2.2 h7).1
      · exact (f5 _ (by omega) (by omega) (by omega)).trans ((c1 c hc).2.2.2.2 h7).2
      · rw [f4 0, if_neg (by omega), u, if_neg (by decide), z0, eh_mi_n]
      · rw [f4 1, if_neg (by omega), u, if_pos rfl]
        exact hz
    rcases p3 with ⟨g2, g3⟩ | ⟨g2, g3⟩
    · have q6 := (eg191_151_69_1 q5 (by rw [g3]; decide)).2
      rw [t0, zd] at q6
      refine fin _ (by omega) (by omega) (.inr ?_) q6
      unfold eh_sk at g2
      unfold eh_mi
      rw [if_pos m1]
      show 0 ≤ (if _ then X.2.1 + 1 else -3) ∧ X.2.1 + 1 = (if _ then X.2.1 + 1 else -3)
      rw [if_pos g2]
      omega
    · have q6 := (eg191_151_69_0 q5 (by rw [g3])).2
      refine fin _ (by decide) (by decide) (.inl ?_) q6
      unfold eh_sk at g2
      unfold eh_mi
      rw [if_pos m1]
      show (if _ then X.2.1 + 1 else -3) = -3 ∧ (-1 : Int) = -1
      rw [if_neg g2]
      exact ⟨rfl, rfl⟩
  · have q := eg191_151_32_1 h hx
    rw [t0, t1, d0, k1, k2, m2] at q
    have q1 := (q m1).2
    refine ⟨_, q1, s1, fun f _ _ => ec_fd_wr_o (by decide), ?_⟩
    have nz : ¬ X.2.2 = -3 := by omega
    have ei : eh_mi R H P S D X = (X.1, X.2.1 + 1, X.2.2) := by
      unfold eh_mi
      rw [if_neg nz]
    rw [ei]
    have g2 : ∀ p, p ≠ 0 → ef_a (ec_wr w 152 0 (X.2.1 + 1)) 152 p = ef_a w 152 p := fun p hp => (g1 p).trans (if_neg hp)
    refine ⟨fun c hc => ?_, (g1 0).trans (if_pos rfl), .inr ⟨m1, (g2 1 (by decide)).trans m2⟩⟩
    obtain ⟨a1, a2, a3, a4, a5⟩ := c1 c hc
    exact ⟨(g2 _ (by omega)).trans a1, (g2 _ (by omega)).trans a2, (g2 _ (by omega)).trans a3, (g2 _ (by omega)).trans a4, fun h7 => ⟨(g2 _ (by omega)).trans (a5 h7).1, (g2 _ (by omega)).trans (a5 h7).2⟩⟩
theorem ew_miB {R H P S D : Nat → Int} {x1 : Int} : ∀ (k n i : Nat) (w : px_W) (X : (Nat → Int) × Int × Int) (r : Option Value × px_W), ec_tw x1 = ((i + k : Nat) : Int) → i + k ≤ 200 → eh_cb w R H P S D X → eh_D X.1 R H P → 0 ≤ X.2.1 → X.2.1 + (k : Int) ≤ 999 → ec_E hb_X n 191 32 [(0, .inr (.inl 215)), (1, .inl x1), (2, .inl (i : Int))] [] w r → ∃ w' : px_W, r = (ec_R (ef_a w' 152 0), w') ∧ ec_W hb_A w' ∧ ef_s [151, 152, 155, 156, 157, 158] w w' ∧ (∀ f, f ≠ 9 → f ≠ 10 → ec_fd w' 151 f = ec_fd w 151 f) ∧ eh_cb w' R H P S D (eh_it R H P S D k X) := by
  intro k
  induction k with
  | zero =>
    intro n i w X r hx hi hC hD h0 h1 h
    have ei : ec_tw (i : Int) = i := ec_twn (by omega)
    obtain ⟨_, hr, hW⟩ := eg191_151_32_0 h (by rw [hx, ei]; omega)
    exact ⟨w, hr, hW, ef_s_refl, fun _ _ _ => rfl, hC⟩
  | succ k ih =>
    intro n i w X r hx hi hC hD h0 h1 h
    have ei : ec_tw (i : Int) = i := ec_twn (by omega)
    obtain ⟨w1, q1, s1, f1, hC1⟩ := ew_mB1 hC hD (by omega) (by rw [hx, ei]; omega) h
    obtain ⟨w2, e2, W2, s2, f2, hC2⟩ := ih n (i + 1) w1 _ r (by rw [hx]; omega) (by omega) hC1 (eh_mi_D hD) (by rw [eh_mi_n]; omega) (by rw [eh_mi_n]; omega) q1
    exact ⟨w2, e2, W2, ef_s_trans s1 s2, fun f k1 k2 => (f2 f k1 k2).trans (f1 f k1 k2), hC2⟩

end
