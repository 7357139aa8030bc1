noncomputable section
/-! THE RUN: find, run of the class; the reference -/
section ER3
variable {N : Nat} {lim : Int} {mi ic : Nat → Int}
theorem ew_findL (H7 : N ≤ 7) (HL : 0 ≤ lim ∧ lim ≤ 9999) (Hm : ∀ i, i < N → (1 ≤ mi i ∧ mi i ≤ 99) ∧ 0 ≤ ic i ∧ ic i ≤ 9) : ∀ (i n : Nat) (x1 : Int) (w : px_W) (z : Option Value × px_W), i ≤ N → ec_fd w 52 0 = (N : Int) → ec_fd w 52 10 = lim → ec_fd w 52 9 = 0 → (∀ i, i < N → ef_a w 54 i = mi i ∧ ef_a w 55 i = ic i) → (∀ p, i ≤ p → p ≤ N → ef_a w 57 p = er_sf (fun l => er_Mi mi l 4) (N - p) p ∧ ef_a w 58 p = er_sf (fun l => er_Ri mi ic l 1) (N - p) p) → ec_E hb_X n 47 37 [(0, .inr (.inl 116)), (1, .inl x1), (2, .inl ((i : Int) + (-1)))] [] w z → ∃ w' : px_W, z = (ec_R (ec_fd w' 52 9), w') ∧ ec_W hb_A w' ∧ ef_s [52, 53, 56, 57, 58] w w' ∧ ec_fd w' 52 0 = (N : Int) ∧ er_RB N w' (er_tr (er_Mi mi) (er_Ri mi ic) lim N 0 0 0 0 none) := by
  have MB : ∀ i, i < N → 0 ≤ er_Mi mi i 4 ∧ er_Mi mi i 4 ≤ 1188 := fun i hi => by
    have := er_Mi_in (mi := mi) (l := i) (s := 4) (by decide) (by decide) (Hm i hi).1.1 (Hm i hi).1.2
    exact ⟨this.1, this.2.1⟩
  have RB : ∀ i, i < N → 0 ≤ er_Ri mi ic i 1 ∧ er_Ri mi ic i 1 ≤ 14256 := fun i hi => by
    have := er_Ri_in (mi := mi) (ic := ic) (l := i) (s := 1) (by decide) (by decide) (Hm i hi).1.1 (Hm i hi).1.2 (Hm i hi).2.1 (Hm i hi).2.2
    exact ⟨this.1, this.2.1⟩
  have FB : ∀ p, p ≤ N → (0 ≤ er_sf (fun l => er_Mi mi l 4) (N - p) p ∧ er_sf (fun l => er_Mi mi l 4) (N - p) p ≤ 9000) ∧ 0 ≤ er_sf (fun l => er_Ri mi ic l 1) (N - p) p ∧ er_sf (fun l => er_Ri mi ic l 1) (N - p) p ≤ 100000 := fun p hp => by
    have a := er_sf_in (M := fun l => er_Mi mi l 4) (u := 1188) (by decide) (N - p) p (fun i h1 h2 => MB i (by omega))
    have b := er_sf_in (M := fun l => er_Ri mi ic l 1) (u := 14256) (by decide) (N - p) p (fun i h1 h2 => RB i (by omega))
    omega
  have t0 : ec_tw 0 = 0 := rfl
  intro i
  induction i with
  | zero =>
    intro n x1 w z hi h0 h10 h9 hm hf h
    have e : (((0 : Nat) : Int) + (-1)) = -1 := rfl
    rw [e] at h
    obtain ⟨_, v1, w1, a1, a2⟩ := eg47_52_37_0 h (by decide)
    have HH : er_H N lim mi ic (fun p => er_sf (fun l => er_Mi mi l 4) (N - p) p) (fun p => er_sf (fun l => er_Ri mi ic l 1) (N - p) p) := by
      refine ⟨H7, HL, Hm, ⟨?_, ?_⟩, fun i hi => ⟨er_sf_st hi, er_sf_st hi⟩, FB⟩
      · show er_sf (fun l => er_Mi mi l 4) (N - N) N = 0
        rw [Nat.sub_self]
        rfl
      · show er_sf (fun l => er_Ri mi ic l 1) (N - N) N = 0
        rw [Nat.sub_self]
        rfl
    obtain ⟨w1', e1, W1, S1, f1, _, B1⟩ := ew_sail HH N n 0 0 0 0 none w _ (by omega) ⟨h0, h10, hm, fun p hp => hf p (Nat.zero_le _) hp⟩ h9 (fun j hj => absurd hj (Nat.not_lt_zero _)) (by omega) (by omega) a1
    injection e1 with e1 i1
    subst i1
    obtain ⟨_, hz, hW⟩ := eg47_52_96_0 (a2 e1 W1)
    exact ⟨w1, hz, hW, ef_s_mono S1 (by decide), (f1 0 (by decide) (by decide) (by decide)).trans h0, B1⟩
  | succ i ih =>
    intro n x1 w z hi h0 h10 h9 hm hf h
    have e : (((i + 1 : Nat) : Int) + (-1)) = (i : Int) := by omega
    rw [e] at h
    obtain ⟨⟨g1, g2⟩, g3, g4⟩ := Hm i (by omega)
    have ei : ec_tw (i : Int) = i := ec_twn (by omega)
    have ei1 : ec_tw ((i : Int) + 1) = ((i + 1 : Nat) : Int) := by
      rw [ec_tw_id (by omega) (by omega)]
      omega
    have k1 := eg47_52_37_1 h
    rw [ei, t0, ei1, ef_rd] at k1
    obtain ⟨_, v1, w1, a1, a2⟩ := k1 (by omega)
    obtain ⟨e1, W1⟩ := ew_minOf (mi := mi) (s := 4) (by omega) (by decide) (by decide) (hm i (by omega)).1 g1 g2 a1
    injection e1 with e1 i1
    have i1 := i1.symm
    subst i1
    have k2 := eg47_52_60_0 (a2 _ e1 W1)
    rw [ei, ei1, ef_rd] at k2
    obtain ⟨_, v2, w2, a3, a4⟩ := k2
    obtain ⟨q1, q2⟩ := hf (i + 1) (Nat.le_refl _) (by omega)
    have b1 := MB i (by omega)
    have b2 := RB i (by omega)
    have b3 := FB (i + 1) (by omega)
    obtain ⟨e2, W2⟩ := ew_riskOf (mi := mi) (ic := ic) (s := 1) (by omega) (by rw [ef_a_wr_o (by decide)]; exact (hm i (by omega)).1) (by rw [ef_a_wr_o (by decide)]; exact (hm i (by omega)).2) a3
    injection e2 with e2 i2
    have i2 := i2.symm
    subst i2
    have k3 := (eg47_52_81_0 (a4 _ e2 W2)).2
    rw [ei] at k3
    have e57 : ∀ p, ef_a (ec_wr (ec_wr w 57 (i : Int) (ef_a w 57 (i + 1) + er_Mi mi i 4)) 58 (i : Int) (ef_a (ec_wr w 57 (i : Int) (ef_a w 57 (i + 1) + er_Mi mi i 4)) 58 (i + 1) + er_Ri mi ic i 1)) 57 p = if p = i then er_sf (fun l => er_Mi mi l 4) (N - i) i else ef_a w 57 p := by
      intro p
      rw [ef_a_wr_o (by decide), ef_a_wr (n := 8) h.1 rfl (by omega) (by omega), q1, ec_tw_id (by omega) (by omega)]
      unfold ef_u
      rw [Int.toNat_natCast, er_sf_st (N := N) (i := i) (by omega)]
    have e58 : ∀ p, ef_a (ec_wr (ec_wr w 57 (i : Int) (ef_a w 57 (i + 1) + er_Mi mi i 4)) 58 (i : Int) (ef_a (ec_wr w 57 (i : Int) (ef_a w 57 (i + 1) + er_Mi mi i 4)) 58 (i + 1) + er_Ri mi ic i 1)) 58 p = if p = i then er_sf (fun l => er_Ri mi ic l 1) (N - i) i else ef_a w 58 p := by
      intro p
      rw [ef_a_wr (n := 8) W2 rfl (by omega) (by omega), ef_a_wr_o (by decide), q2, ec_tw_id (by omega) (by omega)]
      unfold ef_u
      rw [Int.toNat_natCast, er_sf_st (N := N) (i := i) (by omega)]
    obtain ⟨w', hz, hW, S, f0, B⟩ := ih n x1 _ z (by omega) (by rw [ec_fd_wr_o (by decide), ec_fd_wr_o (by decide)]; exact h0) (by rw [ec_fd_wr_o (by decide), ec_fd_wr_o (by decide)]; exact h10) (by rw [ec_fd_wr_o (by decide), ec_fd_wr_o (by decide)]; exact h9) (by rw [ef_a_wr_o (by decide), ef_a_wr_o (by decide), ef_a_wr_o (by decide), ef_a_wr_o (by decide)]; exact hm) (fun p h1 h2 => by
      rw [e57 p, e58 p]
      by_cases q : p = i
      · rw [if_pos q, if_pos q, q]
        exact ⟨rfl, rfl⟩
      · rw [if_neg q, if_neg q]
        exact hf p (by omega) h2) k3
    exact ⟨w', hz, hW, ef_s_trans (ef_s_trans (ef_s_wr (by decide)) (ef_s_wr (by decide))) S, f0, B⟩
/-- what is answered -/
def er_an (N : Nat) (b : er_B) (x : Int) : Int := match b with
  | none => -4
  | some q => if x = -1 then q.1 else if x = -2 then q.2.1 else er_dg N q.2.2 x.toNat
def er_v (N : Nat) (mi ic : Nat → Int) (x1 x2 : Int) : Int := if (0 ≤ x1 ∧ x1 ≤ 9999) ∧ -2 ≤ x2 ∧ x2 ≤ (N : Int) - 1 then er_an N (er_tr (er_Mi mi) (er_Ri mi ic) x1 N 0 0 0 0 none) x2 else -1
theorem ew_runA {n : Nat} {x1 x2 : Int} {w : px_W} {z : Option Value × px_W} (H7 : N ≤ 7) (r1 : -2147483648 ≤ x1 ∧ x1 ≤ 2147483647) (r2 : -2147483648 ≤ x2 ∧ x2 ≤ 2147483647) (Hm : ∀ i, i < N → (1 ≤ mi i ∧ mi i ≤ 99) ∧ 0 ≤ ic i ∧ ic i ≤ 9) (h0 : ec_fd w 52 0 = (N : Int)) (hm : ∀ i, i < N → ef_a w 54 i = mi i ∧ ef_a w 55 i = ic i) (h : ec_E hb_X n 161 0 [(0, .inr (.inl 64)), (1, .inl x1), (2, .inl x2)] [] w z) : ∃ w' : px_W, z = (ec_R (er_v N mi ic x1 x2), w') ∧ ec_W hb_A w' ∧ ef_s [52, 53, 56, 57, 58] w w' ∧ ec_fd w' 52 0 = (N : Int) := by
  have t0 : ec_tw 0 = 0 := rfl
  have t9 : ec_tw 9999 = 9999 := rfl
  have tm2 : ec_tw (-2) = -2 := rfl
  have tm1 : ec_tw (-1) = -1 := rfl
  have tx1 : ec_tw x1 = x1 := ec_tw_id r1.1 r1.2
  have tx2 : ec_tw x2 = x2 := ec_tw_id r2.1 r2.2
  have tN : ec_tw ((N : Int) - 1) = (N : Int) - 1 := ec_tw_id (by omega) (by omega)
  obtain ⟨_, v1, w1, a1, a2⟩ := eg161_0_0_0 h
  obtain ⟨e1, W1⟩ := ew_within a1
  rw [tx1, t0, t9] at e1
  injection e1 with e1 i1
  have i1 := i1.symm
  subst i1
  have a3 := a2 _ e1 W1
  by_cases p1 : 0 ≤ x1 ∧ x1 ≤ 9999
  · rw [if_pos p1] at a3
    obtain ⟨_, v2, w2, a4, a5⟩ := eg161_0_8_1 a3 (by decide)
    obtain ⟨e2, W2⟩ := ew_within a4
    rw [tx2, tm2, h0, tN] at e2
    injection e2 with e2 i2
    have i2 := i2.symm
    subst i2
    have a6 := a5 _ e2 W2
    by_cases p2 : -2 ≤ x2 ∧ x2 ≤ (N : Int) - 1
    · rw [if_pos p2] at a6
      obtain ⟨_, v3, w3, a7, a8⟩ := eg161_0_26_0 a6 (by decide)
      have Wa : ec_W hb_A (ec_pf w 52 9 0) := ec_W_pf (k := 52) (f := 9) rfl rfl W2
      have Wb : ec_W hb_A (ec_pf (ec_pf w 52 9 0) 52 10 x1) := ec_W_pf (k := 52) (f := 10) rfl rfl Wa
      have fx : ∀ f, ec_fd (ec_pf (ec_pf w 52 9 0) 52 10 x1) 52 f = if f = 10 then x1 else if f = 9 then 0 else ec_fd w 52 f := by
        intro f
        rw [ec_fd_pf (k := 52) (f := 10) Wa rfl (by decide), ec_fd_pf (k := 52) (f := 9) W2 rfl (by decide), tx1]
        rfl
      have fx0 : ec_fd (ec_pf (ec_pf w 52 9 0) 52 10 x1) 52 0 = (N : Int) := (fx 0).trans h0
      have k1 := (eg47_52_0_0 a7).2
      have o1 : ∀ i x, ec_fd (ec_wr (ec_pf (ec_pf w 52 9 0) 52 10 x1) 57 i x) 52 0 = (N : Int) := fun i x => (ec_fd_wr_o (by decide)).trans fx0
      have o2 : ∀ i x i' x', ec_fd (ec_wr (ec_wr (ec_pf (ec_pf w 52 9 0) 52 10 x1) 57 i x) 58 i' x') 52 0 = (N : Int) := fun i x i' x' => (ec_fd_wr_o (by decide)).trans (o1 i x)
      rw [o2, o1, fx0, ec_twn (n := N) (by omega)] at k1
      have es : (N : Int) - 1 = (N : Int) + (-1) := by omega
      rw [es] at k1
      have Wc : ec_W hb_A (ec_wr (ec_pf (ec_pf w 52 9 0) 52 10 x1) 57 (N : Int) 0) := ec_W_wr Wb
      have SS : ef_s [52, 57, 58] w (ec_wr (ec_wr (ec_pf (ec_pf w 52 9 0) 52 10 x1) 57 (N : Int) 0) 58 (N : Int) 0) := ef_s_trans (ef_s_trans (ef_s_trans (ef_s_pf (by decide)) (ef_s_pf (by decide))) (ef_s_wr (by decide))) (ef_s_wr (by decide))
      obtain ⟨w3', e3, W3, S3, f3, B3⟩ := ew_findL (lim := x1) (mi := mi) (ic := ic) H7 p1 Hm N n x1 _ _ (Nat.le_refl _) (by rw [ec_fd_wr_o (by decide), ec_fd_wr_o (by decide)]; exact fx0) (by rw [ec_fd_wr_o (by decide), ec_fd_wr_o (by decide)]; exact fx 10) (by rw [ec_fd_wr_o (by decide), ec_fd_wr_o (by decide)]; exact fx 9) (by rw [ef_s_a SS (by decide), ef_s_a SS (by decide)]; exact hm) (fun p hp1 hp2 => by
        have ep : p = N := by omega
        subst ep
        rw [Nat.sub_self]
        refine ⟨?_, ?_⟩
        · rw [ef_a_wr_o (by decide), ef_a_wr (n := 8) Wb rfl (by omega) (by omega)]
          unfold ef_u
          rw [Int.toNat_natCast, if_pos rfl]
          rfl
        · rw [ef_a_wr (n := 8) Wc rfl (by omega) (by omega)]
          unfold ef_u
          rw [Int.toNat_natCast, if_pos rfl]
          rfl) k1
      injection e3 with e3 i3
      subst i3
      have a9 := a8 _ e3 W3
      have S4 : ef_s [52, 53, 56, 57, 58] w w3 := ef_s_trans (ef_s_mono SS (by decide)) S3
      have ev : er_v N mi ic x1 x2 = er_an N (er_tr (er_Mi mi) (er_Ri mi ic) x1 N 0 0 0 0 none) x2 := by
        unfold er_v
        rw [if_pos ⟨p1, p2⟩]
      rw [ev]
      cases hb : er_tr (er_Mi mi) (er_Ri mi ic) x1 N 0 0 0 0 none with
      | none =>
        rw [hb] at B3
        have B9 : ec_fd w3 52 9 = 0 := B3
        obtain ⟨_, hz, _⟩ := eg161_0_39_3 a9 (by rw [B9])
        exact ⟨w3, hz, W3, S4, f3⟩
      | some q =>
        rw [hb] at B3
        obtain ⟨B9, B1, B2, B53⟩ := B3
        have nz : ec_tw (ec_fd w3 52 9) ≠ ec_tw 0 := by
          rw [B9]
          decide
        by_cases q1 : x2 = -1
        · obtain ⟨_, hz, _⟩ := eg161_0_39_2 a9 nz (by rw [q1])
          rw [B1] at hz
          refine ⟨w3, ?_, W3, S4, f3⟩
          show z = (ec_R (if x2 = -1 then q.1 else if x2 = -2 then q.2.1 else er_dg N q.2.2 x2.toNat), w3)
          rw [if_pos q1]
          exact hz
        · by_cases q2 : x2 = -2
          · obtain ⟨_, hz, _⟩ := eg161_0_39_1 a9 nz (by rw [tx2, tm1]; exact q1) (by rw [q2])
            rw [B2] at hz
            refine ⟨w3, ?_, W3, S4, f3⟩
            show z = (ec_R (if x2 = -1 then q.1 else if x2 = -2 then q.2.1 else er_dg N q.2.2 x2.toNat), w3)
            rw [if_neg q1, if_pos q2]
            exact hz
          · obtain ⟨_, hz, _⟩ := eg161_0_39_0 a9 nz (by rw [tx2, tm1]; exact q1) (by rw [tx2, tm2]; exact q2)
            have ex : x2 = ((x2.toNat : Nat) : Int) := by omega
            rw [tx2, ex, ef_rd, B53 x2.toNat (by omega)] at hz
            refine ⟨w3, ?_, W3, S4, f3⟩
            show z = (ec_R (if x2 = -1 then q.1 else if x2 = -2 then q.2.1 else er_dg N q.2.2 x2.toNat), w3)
            rw [if_neg q1, if_neg q2]
            exact hz
    · rw [if_neg p2] at a6
      obtain ⟨_, hz, _⟩ := eg161_0_26_1 a6 rfl
      refine ⟨w, ?_, W2, ef_s_refl, h0⟩
      unfold er_v
      rw [if_neg (fun e => p2 e.2)]
      exact hz
  · rw [if_neg p1] at a3
    obtain ⟨_, hz, _⟩ := eg161_0_8_0 a3 rfl
    refine ⟨w, ?_, W1, ef_s_refl, h0⟩
    unfold er_v
    rw [if_neg (fun e => p1 e.1)]
    exact hz
/-! the reference -/
theorem er_pw {e : Nat} : 2 ^ (2 * e) = 4 ^ e := by
  rw [Nat.pow_mul]
theorem er_so {v j : Nat} (hv : v < 16384) (hj : j < N) (H7 : N ≤ 7) : ec_and (ec_shr (v : Int) (2 * (((N : Int) - 1) - (j : Int)))) 3 + 1 = er_dg N v j := by
  have e : (2 * (((N : Int) - 1) - (j : Int))) = ((2 * (N - 1 - j) : Nat) : Int) := by omega
  rw [e, ec_shrN (by omega) (by omega), er_pw]
  show ec_and ((v / 4 ^ (N - 1 - j) : Nat) : Int) ((3 : Nat) : Int) + 1 = _
  have hd := Nat.div_le_self v (4 ^ (N - 1 - j))
  rw [ec_andN (by omega)]
  have e3 : v / 4 ^ (N - 1 - j) &&& 3 = v / 4 ^ (N - 1 - j) % 4 := Nat.and_two_pow_sub_one_eq_mod (v / 4 ^ (N - 1 - j)) 2
  rw [e3]
  rfl
theorem er_s_step {M : Nat → Nat → Int} {v j : Nat} (hj : j < N) : er_s M (j + 1) (v / 4 ^ (N - (j + 1))) = er_s M j (v / 4 ^ (N - j)) + M j (v / 4 ^ (N - 1 - j) % 4 + 1) := by
  have e1 : N - (j + 1) = N - 1 - j := by omega
  have e2 : N - j = N - 1 - j + 1 := by omega
  show er_s M j (v / 4 ^ (N - (j + 1)) / 4) + M j (v / 4 ^ (N - (j + 1)) % 4 + 1) = _
  rw [e1, e2, Nat.pow_succ, Nat.div_div_eq_div_mul]
def er_L (b : er_B) (x5 x6 x7 : Int) : Prop := match b with
  | none => x5 = -1
  | some q => x5 = (q.2.2 : Int) ∧ x6 = q.1 ∧ x7 = q.2.1 ∧ (0 ≤ q.1 ∧ q.1 ≤ 100000) ∧ (0 ≤ q.2.1 ∧ q.2.1 ≤ 9000) ∧ q.2.2 < 16384
theorem er_s_in {M : Nat → Nat → Int} {u : Int} {K : Nat} (hu : 0 ≤ u) (hM : ∀ l s, l < K → 1 ≤ s → s ≤ 4 → 0 ≤ M l s ∧ M l s ≤ u) : ∀ (l v : Nat), l ≤ K → 0 ≤ er_s M l v ∧ er_s M l v ≤ u * (l : Int)
  | 0, _, _ => ⟨Int.le_refl _, by show (0 : Int) ≤ u * 0; omega⟩
  | l + 1, v, h => by
    obtain ⟨a, b⟩ := er_s_in hu hM l (v / 4) (by omega)
    obtain ⟨c, d⟩ := hM l (v % 4 + 1) (by omega) (by omega) (by omega)
    have e : u * ((l + 1 : Nat) : Int) = u * (l : Int) + u := by
      rw [Int.natCast_add, Int.mul_add]
      show u * (l : Int) + u * 1 = _
      rw [Int.mul_one]
    show 0 ≤ er_s M l (v / 4) + M l (v % 4 + 1) ∧ er_s M l (v / 4) + M l (v % 4 + 1) ≤ u * ((l + 1 : Nat) : Int)
    rw [e]
    omega
theorem ew_rr85 {x1 x2 x4 x5 x6 x7 : Int} {v : Nat} (H7 : N ≤ 7) (hv : v < 16384) (Hm : ∀ i, i < N → (1 ≤ mi i ∧ mi i ≤ 99) ∧ 0 ≤ ic i ∧ ic i ≤ 9) : ∀ (i n j : Nat) (w : px_W) (z : Option Value × px_W), j + i = N → (∀ i, i < N → ef_a w 152 (354 + 2 * i) = mi i ∧ ef_a w 152 (354 + 2 * i + 1) = ic i) → ec_E hb_X n 269 85 [(0, .inr (.inl 215)), (1, .inl x1), (2, .inl x2), (3, .inl (N : Int)), (4, .inl x4), (5, .inl x5), (6, .inl x6), (7, .inl x7), (8, .inl (v : Int)), (9, .inl (er_s (er_Ri mi ic) j (v / 4 ^ (N - j)))), (10, .inl (er_s (er_Mi mi) j (v / 4 ^ (N - j)))), (11, .inl (j : Int))] [] w z → ec_E hb_X n 269 169 [(0, .inr (.inl 215)), (1, .inl x1), (2, .inl x2), (3, .inl (N : Int)), (4, .inl x4), (5, .inl x5), (6, .inl x6), (7, .inl x7), (8, .inl (v : Int)), (9, .inl (er_s (er_Ri mi ic) N v)), (10, .inl (er_s (er_Mi mi) N v))] [] w z := by
  intro i
  induction i with
  | zero =>
    intro n j w z hj hm h
    have ej : j = N := by omega
    subst ej
    have e0 : v / 4 ^ (j - j) = v := by rw [Nat.sub_self, Nat.pow_zero, Nat.div_one]
    rw [e0] at h
    exact (eg269_151_85_0 h (Int.le_refl _)).2
  | succ i ih =>
    intro n j w z hj hm h
    have ej : ec_tw (j : Int) = j := ec_twn (by omega)
    have eN : ec_tw (N : Int) = N := ec_twn (by omega)
    obtain ⟨⟨g1, g2⟩, g3, g4⟩ := Hm j (by omega)
    obtain ⟨m1, m2⟩ := hm j (by omega)
    have k1 := eg269_151_85_1 h
    rw [ej, eN] at k1
    obtain ⟨_, v1, w1, a1, a2⟩ := k1 (by omega)
    obtain ⟨_, e1, W1⟩ := eg270_0_0 a1
    rw [er_so hv (by omega) H7] at e1
    injection e1 with e1 i1
    have i1 := i1.symm
    subst i1
    have k2 := (eg269_151_99_0 (a2 _ e1 W1)).2
    have p1 : ec_tw (354 + 2 * (j : Int)) = ((354 + 2 * j : Nat) : Int) := by
      rw [ec_tw_id (by omega) (by omega)]
      omega
    have p2 : ec_tw (354 + 2 * (j : Int) + 1) = ((354 + 2 * j + 1 : Nat) : Int) := by
      rw [ec_tw_id (by omega) (by omega)]
      omega
    have dg : er_dg N v j = ((v / 4 ^ (N - 1 - j) % 4 + 1 : Nat) : Int) := rfl
    have d4 : v / 4 ^ (N - 1 - j) % 4 < 4 := Nat.mod_lt _ (by decide)
    rw [p1, p2, ef_rd, ef_rd, m1, m2, dg, ec_dv_nn (by omega) (by omega) (by omega) (by omega)] at k2
    have s1 := er_s_step (N := N) (M := er_Ri mi ic) (v := v) (j := j) (by omega)
    have s2 := er_s_step (N := N) (M := er_Mi mi) (v := v) (j := j) (by omega)
    refine ih n (j + 1) w z (by omega) hm ?_
    rw [s1, s2]
    exact k2
theorem ew_rr69 {x1 x2 : Int} (H7 : N ≤ 7) (h1 : 0 ≤ x1 ∧ x1 ≤ 9999) (h2 : -2 ≤ x2 ∧ x2 ≤ (N : Int) - 1) (Hm : ∀ i, i < N → (1 ≤ mi i ∧ mi i ≤ 99) ∧ 0 ≤ ic i ∧ ic i ≤ 9) : ∀ (i n v : Nat) (x5 x6 x7 : Int) (w : px_W) (z : Option Value × px_W), v + i = 4 ^ N → (∀ i, i < N → ef_a w 152 (354 + 2 * i) = mi i ∧ ef_a w 152 (354 + 2 * i + 1) = ic i) → er_L (er_fo (er_f (er_Mi mi) (er_Ri mi ic) x1 N) 0 v none) x5 x6 x7 → ec_E hb_X n 269 69 [(0, .inr (.inl 215)), (1, .inl x1), (2, .inl x2), (3, .inl (N : Int)), (4, .inl ((4 ^ N : Nat) : Int)), (5, .inl x5), (6, .inl x6), (7, .inl x7), (8, .inl (v : Int))] [] w z → z = (ec_R (er_an N (er_fo (er_f (er_Mi mi) (er_Ri mi ic) x1 N) 0 (4 ^ N) none) x2), w) ∧ ec_W hb_A w := by
  have tx1 : ec_tw x1 = x1 := ec_tw_id (by omega) (by omega)
  have tx2 : ec_tw x2 = x2 := ec_tw_id (by omega) (by omega)
  have t0 : ec_tw 0 = 0 := rfl
  have t1 : ec_tw 1 = 1 := rfl
  have tm1 : ec_tw (-1) = -1 := rfl
  have tm2 : ec_tw (-2) = -2 := rfl
  have hp : 4 ^ N ≤ 16384 := Nat.pow_le_pow_right (n := 4) (by decide) (i := N) (j := 7) H7
  have tp : ec_tw ((4 ^ N : Nat) : Int) = ((4 ^ N : Nat) : Int) := ec_twn (by omega)
  intro i
  induction i with
  | zero =>
    intro n v x5 x6 x7 w z hv hm hL h
    have ev : v = 4 ^ N := by omega
    subst ev
    have j0 := eg269_151_69_0 h (Int.le_refl _)
    have j1 := eg269_151_69_1 h (Int.le_refl _)
    have j2 := eg269_151_69_2 h (Int.le_refl _)
    have j3 := eg269_151_69_3 h (Int.le_refl _)
    rw [t0, tx2, tm1, tm2] at j0 j1
    rw [t0, tx2, tm1] at j2
    rw [t0] at j3
    revert hL
    cases er_fo (er_f (er_Mi mi) (er_Ri mi ic) x1 N) 0 (4 ^ N) none with
    | none =>
      intro hL
      have q5 : x5 = -1 := hL
      exact (j3 (by rw [q5]; decide)).2
    | some q =>
      intro hL
      obtain ⟨l1, l2, l3, l4, l5, l6⟩ := hL
      have t5 : ec_tw x5 = x5 := ec_tw_id (by omega) (by omega)
      rw [t5] at j0 j1 j2
      show z = (ec_R (if x2 = -1 then q.1 else if x2 = -2 then q.2.1 else er_dg N q.2.2 x2.toNat), w) ∧ ec_W hb_A w
      by_cases q1 : x2 = -1
      · rw [if_pos q1, ← l2]
        exact (j2 (by omega) q1).2
      · by_cases q2 : x2 = -2
        · rw [if_neg q1, if_pos q2, ← l3]
          exact (j1 (by omega) q1 q2).2
        · rw [if_neg q1, if_neg q2]
          obtain ⟨_, v1, w1, a1, a2⟩ := j0 (by omega) q1 q2
          obtain ⟨_, e1, W1⟩ := eg270_0_0 a1
          have ex : x2 = ((x2.toNat : Nat) : Int) := by omega
          have es := er_so (N := N) (v := q.2.2) (j := x2.toNat) l6 (by omega) H7
          rw [← ex, ← l1] at es
          rw [es] at e1
          injection e1 with e1 i1
          have i1 := i1.symm
          subst i1
          exact (eg269_151_267_0 (a2 _ e1 W1)).2
  | succ i ih =>
    intro n v x5 x6 x7 w z hv hm hL h
    have tv : ec_tw (v : Int) = v := ec_twn (by omega)
    have j4 := eg269_151_69_4 h
    rw [tp, tv] at j4
    have h3 := (j4 (by omega)).2
    have h5 := ew_rr85 (N := N) (mi := mi) (ic := ic) (v := v) H7 (by omega) Hm N n 0 w z (by omega) hm h3
    have ma := er_s_in (M := er_Mi mi) (u := 1188) (K := N) (by decide) (fun l s a b c => by
      have := er_Mi_in (mi := mi) (l := l) b c (Hm l a).1.1 (Hm l a).1.2
      exact ⟨this.1, this.2.1⟩) N v (Nat.le_refl _)
    have ra := er_s_in (M := er_Ri mi ic) (u := 14256) (K := N) (by decide) (fun l s a b c => by
      have := er_Ri_in (mi := mi) (ic := ic) (l := l) b c (Hm l a).1.1 (Hm l a).1.2 (Hm l a).2.1 (Hm l a).2.2
      exact ⟨this.1, this.2.1⟩) N v (Nat.le_refl _)
    have tm : ec_tw (er_s (er_Mi mi) N v) = er_s (er_Mi mi) N v := ec_tw_id (by omega) (by omega)
    have tr : ec_tw (er_s (er_Ri mi ic) N v) = er_s (er_Ri mi ic) N v := ec_tw_id (by omega) (by omega)
    have ef : er_fo (er_f (er_Mi mi) (er_Ri mi ic) x1 N) 0 (v + 1) none = er_up x1 (er_fo (er_f (er_Mi mi) (er_Ri mi ic) x1 N) 0 v none) (er_s (er_Mi mi) N v) (er_s (er_Ri mi ic) N v) v := by
      show er_f (er_Mi mi) (er_Ri mi ic) x1 N (0 + v) (er_fo (er_f (er_Mi mi) (er_Ri mi ic) x1 N) 0 v none) = _
      rw [Nat.zero_add]
      rfl
    have next : ∀ y5 y6 y7 : Int, er_L (er_up x1 (er_fo (er_f (er_Mi mi) (er_Ri mi ic) x1 N) 0 v none) (er_s (er_Mi mi) N v) (er_s (er_Ri mi ic) N v) v) y5 y6 y7 → ec_E hb_X n 269 225 [(0, .inr (.inl 215)), (1, .inl x1), (2, .inl x2), (3, .inl (N : Int)), (4, .inl ((4 ^ N : Nat) : Int)), (5, .inl y5), (6, .inl y6), (7, .inl y7), (8, .inl (v : Int))] [] w z → z = (ec_R (er_an N (er_fo (er_f (er_Mi mi) (er_Ri mi ic) x1 N) 0 (4 ^ N) none) x2), w) ∧ ec_W hb_A w := fun y5 y6 y7 hl hh => ih n (v + 1) y5 y6 y7 w z (by omega) hm (by rw [ef]; exact hl) (eg269_151_225_0 hh).2
    have fin : ∀ s0 : Int, (s0 = 1 ∧ er_ls (er_fo (er_f (er_Mi mi) (er_Ri mi ic) x1 N) 0 v none) (er_s (er_Mi mi) N v) (er_s (er_Ri mi ic) N v) = true ∨ s0 = 0 ∧ er_ls (er_fo (er_f (er_Mi mi) (er_Ri mi ic) x1 N) 0 v none) (er_s (er_Mi mi) N v) (er_s (er_Ri mi ic) N v) = false) → ec_E hb_X n 269 200 [(0, .inr (.inl 215)), (1, .inl x1), (2, .inl x2), (3, .inl (N : Int)), (4, .inl ((4 ^ N : Nat) : Int)), (5, .inl x5), (6, .inl x6), (7, .inl x7), (8, .inl (v : Int)), (9, .inl (er_s (er_Ri mi ic) N v)), (10, .inl (er_s (er_Mi mi) N v))] [.inl s0] w z → z = (ec_R (er_an N (er_fo (er_f (er_Mi mi) (er_Ri mi ic) x1 N) 0 (4 ^ N) none) x2), w) ∧ ec_W hb_A w := by
      intro s0 hs hh
      have l0 := eg269_151_200_0 hh
      have l1 := eg269_151_200_1 hh
      have l2 := eg269_151_200_2 hh
      rw [tx1, tm] at l0 l1 l2
      by_cases c1 : er_s (er_Mi mi) N v ≤ x1
      · rcases hs with ⟨hs, hl⟩ | ⟨hs, hl⟩
        · refine next _ _ _ ?_ (l2 c1 (by rw [hs]; decide)).2
          unfold er_up
          rw [if_pos ⟨c1, hl⟩]
          exact ⟨rfl, rfl, rfl, ⟨ra.1, (by omega : er_s (er_Ri mi ic) N v ≤ 100000)⟩, ⟨ma.1, (by omega : er_s (er_Mi mi) N v ≤ 9000)⟩, (by omega : v < 16384)⟩
        · refine next _ _ _ ?_ (l1 c1 (by rw [hs])).2
          unfold er_up
          rw [if_neg (fun e => by rw [hl] at e; exact Bool.noConfusion e.2)]
          exact hL
      · refine next _ _ _ ?_ (l0 (by omega)).2
        unfold er_up
        rw [if_neg (fun e => c1 e.1)]
        exact hL
    have g0 := eg269_151_169_0 h5
    have g1 := eg269_151_169_1 h5
    have g2 := eg269_151_169_2 h5
    have g3 := eg269_151_169_3 h5
    have g4 := eg269_151_169_4 h5
    rw [t0] at g0
    rw [t0, tr] at g1 g2
    rw [t0, tr, tm] at g3 g4
    revert hL fin
    cases er_fo (er_f (er_Mi mi) (er_Ri mi ic) x1 N) 0 v none with
    | none =>
      intro hL fin
      have q5 : x5 = -1 := hL
      exact fin 1 (.inl ⟨rfl, rfl⟩) (g0 (by rw [q5]; decide)).2
    | some q =>
      intro hL fin
      obtain ⟨l1, l2, l3, l4, l5, l6⟩ := hL
      have t5 : ec_tw x5 = x5 := ec_tw_id (by omega) (by omega)
      have t6 : ec_tw x6 = x6 := ec_tw_id (by omega) (by omega)
      have t7 : ec_tw x7 = x7 := ec_tw_id (by omega) (by omega)
      rw [t5, t6] at g1 g2
      rw [t5, t6, t7] at g3 g4
      by_cases c1 : er_s (er_Ri mi ic) N v < x6
      · exact fin 1 (.inl ⟨rfl, er_ls_t (by omega)⟩) (g1 (by omega) c1).2
      · by_cases c2 : er_s (er_Ri mi ic) N v = x6
        · by_cases c3 : er_s (er_Mi mi) N v < x7
          · exact fin 1 (.inl ⟨rfl, er_ls_t (by omega)⟩) (g4 (by omega) (by omega) c2 c3).2
          · exact fin 0 (.inr ⟨rfl, er_ls_f (by omega)⟩) (g3 (by omega) (by omega) c2 (by omega)).2
        · exact fin 0 (.inr ⟨rfl, er_ls_f (by omega)⟩) (g2 (by omega) (by omega) c2).2
theorem ew_rr39 {x1 x2 : Int} (H7 : N ≤ 7) : ∀ (i n j : Nat) (w : px_W) (z : Option Value × px_W), j + i = N → ec_E hb_X n 269 39 [(0, .inr (.inl 215)), (1, .inl x1), (2, .inl x2), (3, .inl (N : Int)), (4, .inl ((4 ^ j : Nat) : Int)), (5, .inl (j : Int))] [] w z → ec_E hb_X n 269 69 [(0, .inr (.inl 215)), (1, .inl x1), (2, .inl x2), (3, .inl (N : Int)), (4, .inl ((4 ^ N : Nat) : Int)), (5, .inl (-1)), (6, .inl 0), (7, .inl 0), (8, .inl 0)] [] w z := by
  intro i
  induction i with
  | zero =>
    intro n j w z hj h
    have ej : j = N := by omega
    subst ej
    exact (eg269_151_39_0 h (Int.le_refl _)).2
  | succ i ih =>
    intro n j w z hj h
    have k1 := eg269_151_39_1 h
    rw [ec_twn (n := j) (by omega), ec_twn (n := N) (by omega)] at k1
    have h2 := (k1 (by omega)).2
    have e : ((4 ^ j : Nat) : Int) * 4 = ((4 ^ (j + 1) : Nat) : Int) := by
      rw [Nat.pow_succ]
      omega
    rw [e] at h2
    exact ih n (j + 1) w z (by omega) h2
theorem ew_runB {n : Nat} {x1 x2 : Int} {w : px_W} {z : Option Value × px_W} (H7 : N ≤ 7) (r1 : -2147483648 ≤ x1 ∧ x1 ≤ 2147483647) (r2 : -2147483648 ≤ x2 ∧ x2 ≤ 2147483647) (Hm : ∀ i, i < N → (1 ≤ mi i ∧ mi i ≤ 99) ∧ 0 ≤ ic i ∧ ic i ≤ 9) (h0 : ef_a w 152 11 = (N : Int)) (hm : ∀ i, i < N → ef_a w 152 (354 + 2 * i) = mi i ∧ ef_a w 152 (354 + 2 * i + 1) = ic i) (h : ec_E hb_X n 269 0 [(0, .inr (.inl 215)), (1, .inl x1), (2, .inl x2)] [] w z) : z = (ec_R (er_v N mi ic x1 x2), w) ∧ ec_W hb_A w := by
  have t0 : ec_tw 0 = 0 := rfl
  have t9 : ec_tw 9999 = 9999 := rfl
  have tm2 : ec_tw (-2) = -2 := rfl
  have t11 : ec_tw 11 = ((11 : Nat) : Int) := rfl
  have tx1 : ec_tw x1 = x1 := ec_tw_id r1.1 r1.2
  have tx2 : ec_tw x2 = x2 := ec_tw_id r2.1 r2.2
  have tN : ec_tw ((N : Int) - 1) = (N : Int) - 1 := ec_tw_id (by omega) (by omega)
  have k0 := eg269_151_0_0 h
  rw [t11, ef_rd, h0] at k0
  obtain ⟨_, v1, w1, a1, a2⟩ := k0
  obtain ⟨e1, W1⟩ := ew_in a1
  rw [tx1, t0, t9] at e1
  injection e1 with e1 i1
  have i1 := i1.symm
  subst i1
  have a3 := a2 _ e1 W1
  by_cases p1 : 0 ≤ x1 ∧ x1 ≤ 9999
  · rw [if_pos p1] at a3
    obtain ⟨_, v2, w2, a4, a5⟩ := eg269_151_16_1 a3 (by decide)
    obtain ⟨e2, W2⟩ := ew_in a4
    rw [tx2, tm2, tN] at e2
    injection e2 with e2 i2
    have i2 := i2.symm
    subst i2
    have a6 := a5 _ e2 W2
    by_cases p2 : -2 ≤ x2 ∧ x2 ≤ (N : Int) - 1
    · rw [if_pos p2] at a6
      have a7 := (eg269_151_28_0 a6 (by decide)).2
      have a8 := ew_rr39 H7 N n 0 w z (by omega) a7
      have a9 := ew_rr69 (mi := mi) (ic := ic) H7 p1 p2 Hm (4 ^ N) n 0 (-1) 0 0 w z (by omega) hm rfl a8
      have ev : er_v N mi ic x1 x2 = er_an N (er_tr (er_Mi mi) (er_Ri mi ic) x1 N 0 0 0 0 none) x2 := by
        unfold er_v
        rw [if_pos ⟨p1, p2⟩]
      rw [ev, er_all]
      exact a9
    · rw [if_neg p2] at a6
      have a7 := (eg269_151_28_1 a6 rfl).2
      unfold er_v
      rw [if_neg (fun e => p2 e.2)]
      exact a7
  · rw [if_neg p1] at a3
    have a7 := (eg269_151_16_0 a3 rfl).2
    unfold er_v
    rw [if_neg (fun e => p1 e.1)]
    exact a7
end ER3

end
