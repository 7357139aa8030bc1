noncomputable section
/-! RULES: read on both sides -/
section ER17
variable {N : Nat} {t : Nat → Int} {H : Bool} {M : Nat → Int} {c : Nat}
/-- what may change while the class reads -/
def er_k4 (c : Nat) (w w' : px_W) : Prop := ef_s [137, 139, 140, 141, 44, 45, 46, 47, 48, 49, 50, 51] w w' ∧ (∀ v, v ≠ c → ef_a w' 45 v = ef_a w 45 v ∧ ef_a w' 51 v = ef_a w 51 v ∧ ef_a w' 46 v = ef_a w 46 v) ∧ (∀ i, (i < c * 64 ∨ c * 64 + 64 ≤ i) → ef_a w' 50 i = ef_a w 50 i) ∧ ∀ i, (i < c * 8 ∨ c * 8 + 8 ≤ i) → ef_a w' 47 i = ef_a w 47 i ∧ ef_a w' 48 i = ef_a w 48 i ∧ ef_a w' 49 i = ef_a w 49 i
theorem er_k4_of {w w' : px_W} (h : er_k3 c w w') : er_k4 c w w' := ⟨ef_s_mono h.1 (by decide), fun v hv => ⟨congrFun (ef_s_a h.1 (by decide)) v, (h.2.1 v hv).1, (h.2.1 v hv).2⟩, h.2.2.1, h.2.2.2⟩
theorem ew_readA {n : Nat} {w w1 : px_W} {v : Option Value} (hN : N ≤ 200) (hb : ∀ i, i < N → 0 ≤ t i ∧ t i ≤ 255) (hc6 : c ≤ 6) (h0 : ec_fd w 137 0 = (N : Int)) (ht : ∀ y, y < N → ef_a w 138 y = t y) (h44 : ec_fd w 44 0 = (c : Int)) (h : ec_E hb_X n 155 0 [(0, .inr (.inl 64))] [] w (v, w1)) : ec_W hb_A w1 ∧ er_k4 c w w1 ∧ ec_fd w1 137 0 = 0 ∧ (match er_rd (fun j => er_co t N (er_p t N j)) (fun j => er_va t N (er_p t N j)) H M 8 0 [] [] with
    | (a, none) => v = ec_R (-100 - (er_p t N a : Int)) ∧ ec_fd w1 44 0 = (c : Int)
    | (_, some q) => (c = 6 ∧ v = ec_R (-2) ∧ ec_fd w1 44 0 = (c : Int)) ∨ (c < 6 ∧ v = ec_R (c : Int) ∧ ec_fd w1 44 0 = ((c + 1 : Nat) : Int) ∧ ef_a w1 45 c = ec_fd w 1 0 ∧ er_KL w1 c q.1 ∧ er_Cs w1 c q.2)) := by
  have tm : ec_tw (-1) = -1 := rfl
  have t6 : ec_tw 6 = 6 := rfl
  obtain ⟨_, u2, w2, a1, a2⟩ := eg155_0_0_0 h
  obtain ⟨W2, k2, f2, m2⟩ := ew_into (H := H) (M := M) hN hb hc6 h0 ht h44 a1
  have c2 : ec_fd w2 44 0 = (c : Int) := (ef_s_f k2.1 (by decide) 0).trans h44
  have tc : ec_tw (ec_fd w2 44 0) = (c : Int) := by
    rw [ec_tw_fd]
    exact c2
  cases e : er_rd (fun j => er_co t N (er_p t N j)) (fun j => er_va t N (er_p t N j)) H M 8 0 [] [] with
  | mk a s =>
    rw [e] at m2
    cases s with
    | none =>
      have ev : u2 = ec_R (er_p t N a : Int) := m2
      have pb := er_p_b (t := t) (n := N) a
      have l := eg155_0_11_2 (a2 _ ev W2)
      rw [ec_twn (n := er_p t N a) (by omega), tm] at l
      obtain ⟨_, hr, hW⟩ := l (by omega)
      injection hr with f1 g1
      rw [g1]
      exact ⟨hW, er_k4_of k2, f2, f1, c2⟩
    | some q =>
      obtain ⟨ev, hKL, hCs⟩ : u2 = ec_R (-1) ∧ er_KL w2 c q.1 ∧ er_Cs w2 c q.2 := m2
      have b := a2 _ ev W2
      by_cases p : c = 6
      · have l := eg155_0_11_1 b rfl
        rw [tc, t6] at l
        obtain ⟨_, hr, hW⟩ := l (by omega)
        injection hr with f1 g1
        rw [g1]
        exact ⟨hW, er_k4_of k2, f2, .inl ⟨p, f1, c2⟩⟩
      · have l := eg155_0_11_0 b rfl
        rw [tc, t6] at l
        obtain ⟨_, u3, w3, a3, a4⟩ := l (by omega)
        have k := eg78_44_0_0 a3
        have g44 : ∀ (i z : Int), ec_fd (ec_wr w2 45 i z) 44 0 = ec_fd w2 44 0 := fun _ _ => ec_fd_wr_o (by decide)
        simp only [g44, tc] at k
        rw [c2] at k
        obtain ⟨_, hr3, W3⟩ := k
        injection hr3 with e3 i3
        rw [← i3] at W3
        obtain ⟨_, hr, hW⟩ := eg155_0_53_0 (a4 _ e3 W3)
        injection hr with f1 g1
        rw [g1]
        have Wa : ec_W hb_A (ec_wr w2 45 (c : Int) (ec_fd w2 1 0)) := ec_W_wr W2
        have s3 : ef_s [44, 45] w2 w3 := by
          rw [i3]
          exact ef_s_trans (ef_s_wr (by decide)) (ef_s_pf (by decide))
        have r45 : ∀ i, ef_a w3 45 i = if i = c then ec_fd w 1 0 else ef_a w2 45 i := by
          intro i
          rw [i3, ef_s_a (ef_s_pf (S := [44]) List.mem_cons_self) (by decide), ef_a_wr (n := 7) W2 rfl (by omega) (by omega), ec_tw_fd, ef_s_f k2.1 (by decide) 0]
          unfold ef_u
          rw [Int.toNat_natCast]
        have f44 : ec_fd w3 44 0 = ((c + 1 : Nat) : Int) := by
          rw [i3, ec_fd_pf (k := 44) (f := 0) Wa rfl (by decide), if_pos rfl]
          exact ec_twn (n := c + 1) (by omega)
        have k4 := er_k4_of k2
        refine ⟨hW, ⟨ef_s_trans k4.1 (ef_s_mono s3 (by decide)), fun v hv => ⟨?_, ?_, ?_⟩, fun i hi => ?_, fun i hi => ?_⟩, (ef_s_f s3 (by decide) 0).trans f2, .inr ⟨by omega, f1, f44, ?_, ?_, ?_⟩⟩
        · rw [r45 v, if_neg hv]
          exact (k4.2.1 v hv).1
        · rw [ef_s_a s3 (by decide)]
          exact (k4.2.1 v hv).2.1
        · rw [ef_s_a s3 (by decide)]
          exact (k4.2.1 v hv).2.2
        · rw [ef_s_a s3 (by decide)]
          exact k4.2.2.1 i hi
        · rw [ef_s_a s3 (k := 47) (by decide), ef_s_a s3 (k := 48) (by decide), ef_s_a s3 (k := 49) (by decide)]
          exact k4.2.2.2 i hi
        · rw [r45 c, if_pos rfl]
        · unfold er_KL
          rw [ef_s_a s3 (k := 46) (by decide), ef_s_a s3 (k := 47) (by decide), ef_s_a s3 (k := 48) (by decide), ef_s_a s3 (k := 49) (by decide)]
          exact hKL
        · unfold er_Cs
          rw [ef_s_a s3 (k := 50) (by decide), ef_s_a s3 (k := 51) (by decide)]
          exact hCs
/-- the bytes of the reference's new VERSION -/
theorem ew_rcp {n0 : Nat} (hN : N ≤ 200) (hc : c < 6) : ∀ (k n i : Nat) (w w1 : px_W) (v : Option Value), i + k = N → ec_W hb_A w → (∀ y, y < N → ef_a w 154 y = t y) → ef_a w 152 10 = (n0 : Int) → n0 ≤ 6 → ec_E hb_X n 261 83 [(0, .inr (.inl 215)), (1, .inl (N : Int)), (2, .inl (c : Int)), (3, .inl (i : Int))] [] w (v, w1) → v = ec_R (c : Int) ∧ ec_W hb_A w1 ∧ ef_s [152] w w1 ∧ ∀ p, ef_a w1 152 p = if p = 10 then ((n0 + 1 : Nat) : Int) else if 380 + 200 * c + i ≤ p ∧ p < 380 + 200 * c + N then t (p - (380 + 200 * c)) else ef_a w 152 p := by
  have t10 : ec_tw 10 = ((10 : Nat) : Int) := rfl
  intro k
  induction k with
  | zero =>
    intro n i w w1 v hi hW ht h10 hn h
    have l := eg261_151_83_0 h
    rw [ec_twn (n := i) (by omega), ec_twn (n := N) (by omega), t10, ef_rd w 152 10, h10] at l
    obtain ⟨_, hr, W1⟩ := l (by omega)
    injection hr with e1 e2
    refine ⟨e1, ?_, ?_, fun p => ?_⟩
    · rw [e2]
      exact W1
    · rw [e2]
      exact ef_s_wr List.mem_cons_self
    · have ev : ec_tw ((n0 : Int) + 1) = ((n0 + 1 : Nat) : Int) := ec_twn (n := n0 + 1) (by omega)
      rw [e2, ef_a_wr (n := 1580) hW rfl (by omega) (by omega), ev]
      unfold ef_u
      rw [Int.toNat_natCast]
      by_cases e : p = 10
      · rw [if_pos e, if_pos e]
      · rw [if_neg e, if_neg e, if_neg (by omega)]
  | succ k ih =>
    intro n i w w1 v hi hW ht h10 hn h
    have l := eg261_151_83_1 h
    have ep : 380 + 200 * (c : Int) + (i : Int) = ((380 + 200 * c + i : Nat) : Int) := by omega
    rw [ec_twn (n := i) (by omega), ec_twn (n := N) (by omega), ep, ec_twn (n := 380 + 200 * c + i) (by omega), ef_rd w 154 i, ht i (by omega)] at l
    have l2 := (l (by omega)).2
    have ti : ec_tw (t i) = t i := by
      rw [← ht i (by omega)]
      exact ef_tw _ _ _
    have A : ∀ p, ef_a (ec_wr w 152 ((380 + 200 * c + i : Nat) : Int) (t i)) 152 p = if p = 380 + 200 * c + i then t i else ef_a w 152 p := by
      intro p
      rw [ef_a_wr (n := 1580) hW rfl (by omega) (by omega), ti]
      unfold ef_u
      rw [Int.toNat_natCast]
    obtain ⟨y1, y2, y3, y4⟩ := ih n (i + 1) _ w1 v (by omega) (ec_W_wr hW) (fun y hy => by rw [ef_a_wr_o (by decide)]; exact ht y hy) (by rw [A 10, if_neg (by omega)]; exact h10) hn l2
    refine ⟨y1, y2, ef_s_trans (ef_s_wr List.mem_cons_self) y3, fun p => ?_⟩
    rw [y4 p, A p]
    by_cases e : p = 10
    · rw [if_pos e, if_pos e]
    · rw [if_neg e, if_neg e]
      by_cases e2 : p = 380 + 200 * c + i
      · rw [if_neg (by omega), if_pos e2, if_pos (by omega), e2]
        congr 1
        omega
      · rw [if_neg e2]
        by_cases e3 : 380 + 200 * c + (i + 1) ≤ p ∧ p < 380 + 200 * c + N
        · rw [if_pos e3, if_pos (by omega)]
        · rw [if_neg e3, if_neg (by omega)]
theorem ew_readB {n : Nat} {w w1 : px_W} {v : Option Value} (hN : N ≤ 200) (hb : ∀ i, i < N → 0 ≤ t i ∧ t i ≤ 255) (hc6 : c ≤ 6) (h4 : ec_fd w 151 4 = (N : Int)) (ht : ∀ y, y < N → ef_a w 154 y = t y) (hL : er_Le w) (hH : ec_fd w 151 32 = (if H = true then 1 else 0)) (hM : ∀ q, q < 3 → ef_a w 169 q = M q) (h10 : ef_a w 152 10 = (c : Int)) (h : ec_E hb_X n 261 0 [(0, .inr (.inl 215))] [] w (v, w1)) : ec_W hb_A w1 ∧ ef_s [151, 152, 170, 171] w w1 ∧ (∀ f, f < 4 → ec_fd w1 151 f = ec_fd w 151 f) ∧ ec_fd w1 151 4 = 0 ∧ (match er_rd (fun j => er_co t N (er_p t N j)) (fun j => er_va t N (er_p t N j)) H M 8 0 [] [] with
    | (a, none) => v = ec_R (-100 - (er_p t N a : Int)) ∧ ef_a w1 152 = ef_a w 152
    | (_, some _) => (c = 6 ∧ v = ec_R (-2) ∧ ef_a w1 152 = ef_a w 152) ∨ (c < 6 ∧ v = ec_R (c : Int) ∧ ∀ p, ef_a w1 152 p = if p = 10 then ((c + 1 : Nat) : Int) else if 380 + 200 * c ≤ p ∧ p < 380 + 200 * c + N then t (p - (380 + 200 * c)) else if p = 374 + c then (N : Int) else if p = 368 + c then ef_a w 152 0 else ef_a w 152 p)) := by
  have t0 : ec_tw 0 = 0 := rfl
  have t6 : ec_tw 6 = 6 := rfl
  have t10 : ec_tw 10 = ((10 : Nat) : Int) := rfl
  have t0' : ec_tw 0 = ((0 : Nat) : Int) := rfl
  obtain ⟨_, u2, w2, a1, a2⟩ := eg261_151_0_0 h
  rw [h4] at a1 a2
  obtain ⟨e2, W2, f3, m2⟩ := ew_reads (H := H) (M := M) (C := fun j => er_co t N (er_p t N j)) (V := fun j => er_va t N (er_p t N j)) hN hb (fun _ => rfl) (fun _ => rfl) hL (.inl ⟨rfl, ht⟩) hH hM a1
  have b := a2 e2 W2
  have Wp : ec_W hb_A (ec_pf w2 151 4 0) := ec_W_pf (k := 151) (f := 4) rfl rfl W2
  have Fp : ∀ g, ec_fd (ec_pf w2 151 4 0) 151 g = if g = 4 then 0 else ec_fd w2 151 g := by
    intro g
    rw [ec_fd_pf (k := 151) (f := 4) W2 rfl (by decide), t0]
  have f30 : ec_fd (ec_pf w2 151 4 0) 151 30 = ec_fd w2 151 30 := (Fp 30).trans (if_neg (by decide))
  have sp : ef_s [151, 152, 170, 171] w (ec_pf w2 151 4 0) := ef_s_trans (ef_s_mono f3.1 (by decide)) (ef_s_pf (by decide))
  have dp : ef_a (ec_pf w2 151 4 0) 152 = ef_a w 152 := (ef_s_a (ef_s_pf (S := [151]) List.mem_cons_self) (by decide)).trans (ef_s_a f3.1 (by decide))
  have fp : ∀ f, f < 4 → ec_fd (ec_pf w2 151 4 0) 151 f = ec_fd w 151 f := fun f hf => ((Fp f).trans (if_neg (by omega))).trans (f3.2 f (by omega))
  have fp4 : ec_fd (ec_pf w2 151 4 0) 151 4 = 0 := (Fp 4).trans (if_pos rfl)
  have d10 : ec_rd (ec_pf w2 151 4 0) 152 ((10 : Nat) : Int) = (c : Int) := (congrFun dp 10).trans h10
  have d0 : ec_rd (ec_pf w2 151 4 0) 152 ((0 : Nat) : Int) = ef_a w 152 0 := congrFun dp 0
  have tcc : ec_tw (c : Int) = (c : Int) := ec_twn (n := c) (by omega)
  cases e : er_rd (fun j => er_co t N (er_p t N j)) (fun j => er_va t N (er_p t N j)) H M 8 0 [] [] with
  | mk a s =>
    rw [e] at m2
    cases s with
    | none =>
      have ev : ec_fd w2 151 30 = (er_p t N a : Int) := m2
      have pb := er_p_b (t := t) (n := N) a
      have l := eg261_151_11_2 b
      rw [f30, ev, ec_twn (n := er_p t N a) (by omega), t0] at l
      obtain ⟨_, hr, hW⟩ := l (by omega)
      injection hr with f1 g1
      rw [g1]
      exact ⟨hW, sp, fp, fp4, f1, dp⟩
    | some q =>
      have ev : ec_fd w2 151 30 = -1 := m2.1
      by_cases p : c = 6
      · have l := eg261_151_11_1 b
        rw [f30, ev, t0, t10, d10, tcc, t6] at l
        obtain ⟨_, hr, hW⟩ := l (by decide) (by omega)
        injection hr with f1 g1
        rw [g1]
        exact ⟨hW, sp, fp, fp4, .inl ⟨p, f1, dp⟩⟩
      · have l := eg261_151_11_0 b
        have e1 : 368 + (c : Int) = ((368 + c : Nat) : Int) := by omega
        have e2 : 374 + (c : Int) = ((374 + c : Nat) : Int) := by omega
        rw [f30, ev, t10, d10, tcc, t6, e1, e2, ec_twn (n := 368 + c) (by omega), ec_twn (n := 374 + c) (by omega), t0', d0] at l
        have l2 := (l (by decide) (by omega)).2
        have Wa : ec_W hb_A (ec_wr (ec_pf w2 151 4 0) 152 ((368 + c : Nat) : Int) (ef_a w 152 0)) := ec_W_wr Wp
        have Wb : ec_W hb_A (ec_wr (ec_wr (ec_pf w2 151 4 0) 152 ((368 + c : Nat) : Int) (ef_a w 152 0)) 152 ((374 + c : Nat) : Int) (N : Int)) := ec_W_wr Wa
        have A : ∀ p, ef_a (ec_wr (ec_wr (ec_pf w2 151 4 0) 152 ((368 + c : Nat) : Int) (ef_a w 152 0)) 152 ((374 + c : Nat) : Int) (N : Int)) 152 p = if p = 374 + c then (N : Int) else if p = 368 + c then ef_a w 152 0 else ef_a w 152 p := by
          intro p
          rw [ef_a_wr (n := 1580) Wa rfl (by omega) (by omega), ef_a_wr (n := 1580) Wp rfl (by omega) (by omega), dp, ec_twn (n := N) (by omega), ef_tw w 152 0]
          unfold ef_u
          rw [Int.toNat_natCast, Int.toNat_natCast]
        obtain ⟨y, hy⟩ : ∃ y, y = ec_wr (ec_wr (ec_pf w2 151 4 0) 152 ((368 + c : Nat) : Int) (ef_a w 152 0)) 152 ((374 + c : Nat) : Int) (N : Int) := ⟨_, rfl⟩
        have sy : ef_s [152] (ec_pf w2 151 4 0) y := by
          rw [hy]
          exact ef_s_trans (ef_s_wr List.mem_cons_self) (ef_s_wr List.mem_cons_self)
        rw [← hy] at l2 Wb A
        have hty : ∀ z, z < N → ef_a y 154 z = t z := fun z hz => by
          rw [ef_s_a sy (by decide), ef_s_a (ef_s_pf (S := [151]) List.mem_cons_self) (by decide), ef_s_a f3.1 (by decide)]
          exact ht z hz
        obtain ⟨y1, y2, y3, y4⟩ := ew_rcp (n0 := c) hN (by omega) N n 0 y w1 v (by omega) Wb hty (by rw [A 10, if_neg (by omega), if_neg (by omega)]; exact h10) hc6 l2
        refine ⟨y2, ef_s_trans sp (ef_s_trans (ef_s_mono sy (by decide)) (ef_s_mono y3 (by decide))), fun f hf => ?_, ?_, .inr ⟨by omega, y1, fun p => ?_⟩⟩
        · rw [ef_s_f y3 (by decide), ef_s_f sy (by decide)]
          exact fp f hf
        · rw [ef_s_f y3 (by decide), ef_s_f sy (by decide)]
          exact fp4
        · have z := y4 p
          rw [A p, Nat.add_zero] at z
          exact z
end ER17

end
