noncomputable section
/-! SWORN words are the same on both sides, live and kept; sworn -/
theorem ed_w1 {w : px_W} {k n p : Nat} {sg : sy_Sg} {z : Int} (hW : ec_W hb_A w) (ha : hb_A[k]? = some (.inl (n, sg))) (hp : p < n) : ec_W hb_A (ec_wr w k (p : Int) z) ∧ ef_s [k] w (ec_wr w k (p : Int) z) ∧ ∀ i, ef_a (ec_wr w k (p : Int) z) k i = if i = p then ec_tw z else ef_a w k i := by
  refine ⟨ec_W_wr hW, ef_s_wr List.mem_cons_self, fun i => ?_⟩
  rw [ef_a_wr (n := n) hW ha (by omega) (by omega)]
  unfold ef_u
  rw [Int.toNat_natCast]
def ed_P : ej_T := fun F R D => ∃ m : Nat, m ≤ 12 ∧ F 39 1 = (m : Int) ∧ D 9 = (m : Int) ∧ ∀ i, i < m → R 43 i = D (318 + 3 * i) ∧ R 41 i = D (318 + 3 * i + 1) ∧ R 42 i = D (318 + 3 * i + 2) ∧ -1 ≤ D (318 + 3 * i + 2)
def ed_FL : List (Nat × Nat) := [(39, 1)]
def ed_RL : List (Nat × Nat) := [(41, 12), (42, 12), (43, 12)]
def ed_DL : List (Nat × Nat) := [(9, 10), (318, 354)]
theorem ed_dep : ej_dep ed_FL ed_RL ed_DL ed_P := by
  intro F F' R R' D D' hF hR hD h
  obtain ⟨m, hm, h1, h2, h3⟩ := h
  have f1 : F' 39 1 = F 39 1 := hF (39, 1) (by decide)
  have r41 : ∀ p, p < 12 → R' 41 p = R 41 p := hR (41, 12) (by decide)
  have r42 : ∀ p, p < 12 → R' 42 p = R 42 p := hR (42, 12) (by decide)
  have r43 : ∀ p, p < 12 → R' 43 p = R 43 p := hR (43, 12) (by decide)
  have d9 : D' 9 = D 9 := hD (9, 10) (by decide) 9 (by decide) (by decide)
  have d318 : ∀ p, 318 ≤ p → p < 354 → D' p = D p := hD (318, 354) (by decide)
  refine ⟨m, hm, f1.trans h1, d9.trans h2, fun i hi => ?_⟩
  rw [r41 i (by omega), r42 i (by omega), r43 i (by omega), d318 (318 + 3 * i) (by omega) (by omega), d318 (318 + 3 * i + 1) (by omega) (by omega), d318 (318 + 3 * i + 2) (by omega) (by omega)]
  exact h3 i hi
def ed_R (w : px_W) : Prop := ej_RR ed_P w
def ed_dcR : List (Nat × Nat × Nat) := ej_dc ed_FL ed_RL ed_DL
theorem ed_dcR_st {w w' : px_W} (hW : ec_W hb_A w) (hW' : ec_W hb_A w') (h : ∀ p ∈ ed_dcR, ∀ i, p.2.1 ≤ i → i < p.2.2 → sy_get w' p.1 i = sy_get w p.1 i) (hR : ed_R w) : ed_R w' := ej_dc_st (by decide +kernel) ed_dep hW hW' h hR
theorem ed_frW {Wr : sy_Wr} {w w1 : px_W} (hd : hb_dj Wr ed_dcR = true) (hW : ec_W hb_A w) (hW1 : ec_W hb_A w1) (f : ∀ k i : Nat, sy_may Wr k i = false → sy_get w1 k i = sy_get w k i) (hR : ed_R w) : ed_R w1 := ed_dcR_st hW hW1 (fun p hp i h1 h2 => f p.1 i (hb_dj_ok hd hp h1 h2)) hR
theorem ed_frH {Wr : sy_Wr} {w w1 : px_W} (hd : hb_dj Wr eh_dc = true) (hW : ec_W hb_A w) (hW1 : ec_W hb_A w1) (f : ∀ k i : Nat, sy_may Wr k i = false → sy_get w1 k i = sy_get w k i) (hR : eh_RR w) : eh_RR w1 := eh_dc_st hW hW1 (fun p hp i h1 h2 => f p.1 i (hb_dj_ok hd hp h1 h2)) hR
theorem ed_keep2 {xs : List Int32} {n : Nat} {w wA wB : px_W} {vA vB : Option Value} (hR : ed_R w) (hA : ec_F (hb_XL xs) n 171 [.inr (.inl 64)] w (vA, wA)) (hB : ec_F (hb_XL xs) n 292 [.inr (.inl 215)] wA (vB, wB)) : ed_R wB := ej_keep2 (by decide +kernel) (by decide +kernel) ed_dep hR hA hB
theorem ed_again2 {xs : List Int32} {n : Nat} {w wA wB : px_W} {vA vB : Option Value} (hR : ed_R w) (hA : ec_F (hb_XL xs) n 172 [.inr (.inl 64)] w (vA, wA)) (hB : ec_F (hb_XL xs) n 293 [.inr (.inl 215)] wA (vB, wB)) : ed_R wB := ej_again2 (by decide +kernel) (by decide +kernel) ed_dep hR hA hB
theorem ed_kcg {P : ej_T} {FL RL DL : List (Nat × Nat)} {S : List Nat} {w w' : px_W} (hd : ej_dep FL RL DL P) (hF : ∀ q ∈ FL, q.1 + 58 ∉ S) (hR : ∀ q ∈ RL, q.1 + 58 ∉ S) (h0 : 0 ∉ S) (h3 : 153 ∉ S) (s : ef_s S w w') (f2 : ec_fd w' 151 2 = ec_fd w 151 2) (h : ej_kc P w) : ej_kc P w' := by
  have k1 : ec_fd w' 0 14 = ec_fd w 0 14 := ef_s_f s h0 14
  rcases h with ⟨g1, g2⟩ | ⟨g1, g2, g3⟩
  · exact .inl ⟨k1.trans g1, f2.trans g2⟩
  · exact .inr ⟨k1.trans g1, f2.trans g2, ej_P_of hd (fun q hq => ef_s_f s (hF q hq) q.2) (fun q hq p _ => congrFun (ef_s_a s (hR q hq)) p) (fun q _ p _ _ => congrFun (ef_s_a s h3) p) g3⟩
theorem ed_shl : ∀ b : Nat, b < 13 → ec_shl 1 (b : Int) = ((2 ^ b : Nat) : Int) := by decide +kernel
theorem ed_pw : ∀ b : Nat, b < 13 → 1 ≤ 2 ^ b ∧ 2 ^ b ≤ 4096 := by decide +kernel
theorem ed_gd {x1 : Int} {m : Nat} (hm : m ≤ 12) (h0 : 0 ≤ ec_tw x1) : ec_tw (ec_shr x1 (m : Int)) = 0 ↔ ec_tw x1 ≤ ((2 ^ m : Nat) : Int) - 1 := by
  obtain ⟨p1, p2⟩ := ed_pw m (by omega)
  obtain ⟨q, hq⟩ : ∃ q : Nat, q = 2 ^ m := ⟨_, rfl⟩
  obtain ⟨Z, hZ⟩ : ∃ Z : Nat, ec_tw x1 = (Z : Int) := ⟨(ec_tw x1).toNat, by omega⟩
  have b := ec_tw_in x1
  have bZ : Z < 2147483648 := by omega
  have e : ec_shr x1 (m : Int) = ((Z / 2 ^ m : Nat) : Int) := by
    rw [ec_shrI _ (by omega), hZ]
    have e1 : ((Z : Int) >>> m) = ((Z >>> m : Nat) : Int) := rfl
    rw [e1, Nat.shiftRight_eq_div_pow]
    exact ec_twn (Nat.lt_of_le_of_lt (Nat.div_le_self _ _) bZ)
  rw [e, hZ, ec_twn (Nat.lt_of_le_of_lt (Nat.div_le_self _ _) bZ), ← hq]
  rw [← hq] at p1 p2
  rcases Nat.lt_or_ge Z q with c | c
  · rw [Nat.div_eq_of_lt c]
    exact ⟨fun _ => by omega, fun _ => rfl⟩
  · have d := Nat.div_pos c (by omega)
    exact ⟨fun z => by omega, fun z => by omega⟩
def ed_okS (m : Nat) (x1 : Int) : Prop := (0 ≤ ec_tw x1 ∧ ec_tw x1 ≤ ((2 ^ m : Nat) : Int) - 1) ∧ m < 12
section ED1
variable {n m : Nat} {w w1 : px_W} {v : Option Value} {x1 : Int}
theorem ew_addW {x2 : Int} (hm : m < 12) (h1 : ec_fd w 39 1 = (m : Int)) (h : ec_E hb_X n 118 0 [(0, .inr (.inl 103)), (1, .inl x1), (2, .inl x2)] [] w (v, w1)) : v = ec_R (m : Int) ∧ ec_W hb_A w1 ∧ ef_s [39, 41, 42, 43] w w1 ∧ ec_fd w1 39 1 = ((m + 1 : Nat) : Int) ∧ ∀ i, ef_a w1 41 i = (if i = m then ec_tw x1 else ef_a w 41 i) ∧ ef_a w1 42 i = (if i = m then -1 else ef_a w 42 i) ∧ ef_a w1 43 i = (if i = m then ec_tw x2 else ef_a w 43 i) := by
  have tn : ec_tw (-1) = -1 := rfl
  have ts : ec_tw (m : Int) = m := ec_twn (by omega)
  have a1 := (eg118_39_0_0 h).2
  rw [h1, ts] at a1
  obtain ⟨W1, s1, r1⟩ := ed_w1 (k := 41) (n := 12) (p := m) (z := x1) h.1 rfl hm
  obtain ⟨y1, hy1⟩ : ∃ y, y = ec_wr w 41 (m : Int) x1 := ⟨_, rfl⟩
  rw [← hy1] at a1 W1 s1 r1
  have f1 : ec_fd y1 39 1 = (m : Int) := (ef_s_f s1 (by decide) 1).trans h1
  have a2 := (eg118_39_10_0 a1).2
  rw [f1, ts] at a2
  obtain ⟨W2, s2, r2⟩ := ed_w1 (k := 43) (n := 12) (p := m) (z := x2) W1 rfl hm
  obtain ⟨y2, hy2⟩ : ∃ y, y = ec_wr y1 43 (m : Int) x2 := ⟨_, rfl⟩
  rw [← hy2] at a2 W2 s2 r2
  have f2 : ec_fd y2 39 1 = (m : Int) := (ef_s_f s2 (by decide) 1).trans f1
  have a3 := (eg118_39_20_0 a2).2
  rw [f2, ts] at a3
  obtain ⟨W3, s3, r3⟩ := ed_w1 (k := 42) (n := 12) (p := m) (z := -1) W2 rfl hm
  obtain ⟨y3, hy3⟩ : ∃ y, y = ec_wr y2 42 (m : Int) (-1) := ⟨_, rfl⟩
  rw [← hy3] at a3 W3 s3 r3
  have f3 : ec_fd y3 39 1 = (m : Int) := (ef_s_f s3 (by decide) 1).trans f2
  obtain ⟨_, hr, hW⟩ := eg118_39_30_0 a3
  rw [f3] at hr hW
  injection hr with e1 e2
  have F : ec_fd w1 39 1 = ((m + 1 : Nat) : Int) := by
    rw [e2, ec_fd_pf (k := 39) (f := 1) W3 rfl (by decide), if_pos rfl]
    exact ec_twn (n := m + 1) (by omega)
  have s6 : ef_s [39] y3 w1 := by
    rw [e2]
    exact ef_s_pf List.mem_cons_self
  refine ⟨e1, by rw [e2]; exact hW, ef_s_trans (ef_s_trans (ef_s_trans (ef_s_mono s1 (by decide)) (ef_s_mono s2 (by decide))) (ef_s_mono s3 (by decide))) (ef_s_mono s6 (by decide)), F, fun i => ⟨?_, ?_, ?_⟩⟩
  · rw [ef_s_a s6 (by decide), ef_s_a s3 (by decide), ef_s_a s2 (by decide), r1 i]
  · rw [ef_s_a s6 (by decide), r3 i, tn, ef_s_a s2 (by decide), ef_s_a s1 (by decide)]
  · rw [ef_s_a s6 (by decide), ef_s_a s3 (by decide), r2 i, ef_s_a s1 (by decide)]
theorem ew_swA (hm : m ≤ 12) (h1 : ec_fd w 39 1 = (m : Int)) (h : ec_E hb_X n 151 0 [(0, .inr (.inl 64)), (1, .inl x1)] [] w (v, w1)) : (¬ ed_okS m x1 ∧ w1 = w) ∨ (ed_okS m x1 ∧ ∃ u : Option Value, ec_E hb_X n 118 0 [(0, .inr (.inl 103)), (1, .inl x1), (2, .inl (ec_fd w 1 0))] [] w (u, w1)) := by
  have t0 : ec_tw 0 = 0 := rfl
  have t12 : ec_tw 12 = 12 := rfl
  have out : ∀ z : Int, (v, w1) = (ec_R z, w) → w1 = w := fun z e => (Prod.mk.inj e).2
  obtain ⟨p1, p2⟩ := ed_pw m (by omega)
  have tp : ec_tw (((2 ^ m : Nat) : Int) - 1) = ((2 ^ m : Nat) : Int) - 1 := by
    obtain ⟨q, hq⟩ : ∃ q : Nat, q = 2 ^ m := ⟨_, rfl⟩
    rw [← hq]
    rw [← hq] at p1 p2
    exact ec_tw_id (by omega) (by omega)
  obtain ⟨_, u, y, a1, a2⟩ := eg151_0_0_0 h
  obtain ⟨e, W⟩ := ew_within a1
  rw [h1, ed_shl m (by omega), t0, tp] at e
  injection e with e i
  rw [i] at a2
  have b := a2 _ e W
  by_cases p : 0 ≤ ec_tw x1 ∧ ec_tw x1 ≤ ((2 ^ m : Nat) : Int) - 1
  · rw [if_pos p] at b
    have k0 := eg151_0_16_0 b (by decide)
    have k1 := eg151_0_16_1 b (by decide)
    rw [h1, ec_twn (n := m) (by omega), t12] at k0 k1
    by_cases q : m < 12
    · obtain ⟨_, u2, y2, a3, a4⟩ := k0 (by omega)
      obtain ⟨q1, q2, _⟩ := ew_addW q h1 a3
      refine .inr ⟨⟨p, q⟩, u2, ?_⟩
      have ey : w1 = y2 := (Prod.mk.inj (eg151_0_53_0 (a4 _ q1 q2)).2.1).2
      rw [ey]
      exact a3
    · obtain ⟨_, hr, _⟩ := k1 (by omega)
      exact .inl ⟨fun z => q z.2, out _ hr⟩
  · rw [if_neg p] at b
    obtain ⟨_, hr, _⟩ := eg151_0_16_2 b rfl
    exact .inl ⟨fun z => p z.1, out _ hr⟩
theorem ew_swB (hm : m ≤ 12) (h1 : ef_a w 152 9 = (m : Int)) (h : ec_E hb_X n 243 0 [(0, .inr (.inl 215)), (1, .inl x1)] [] w (v, w1)) : (¬ ed_okS m x1 ∧ w1 = w) ∨ (ed_okS m x1 ∧ ef_s [152] w w1 ∧ ∀ p, ef_a w1 152 p = if p = 9 then ((m + 1 : Nat) : Int) else if p = 318 + 3 * m + 2 then -1 else if p = 318 + 3 * m + 1 then ec_tw x1 else if p = 318 + 3 * m then ef_a w 152 0 else ef_a w 152 p) := by
  have t0 : ec_tw 0 = 0 := rfl
  have tn : ec_tw (-1) = -1 := rfl
  have t9 : ec_tw 9 = ((9 : Nat) : Int) := rfl
  have t12 : ec_tw 12 = 12 := rfl
  have z0 : ec_tw 0 = ((0 : Nat) : Int) := rfl
  have out : ∀ z : Int, (v, w1) = (ec_R z, w) → w1 = w := fun z e => (Prod.mk.inj e).2
  by_cases p0 : 0 ≤ ec_tw x1
  · have k1 := eg243_151_0_1 h
    have k2 := eg243_151_0_2 h
    have k3 := eg243_151_0_3 h
    rw [t9, ef_rd w 152 9, h1, t0] at k1 k2 k3
    rw [ec_twn (n := m) (by omega), t12] at k1 k2
    have gd := ed_gd (x1 := x1) hm p0
    by_cases p1 : ec_tw (ec_shr x1 (m : Int)) = 0
    · by_cases p2 : m < 12
      · refine .inr ⟨⟨⟨p0, gd.mp p1⟩, p2⟩, ?_⟩
        have c0 := (k1 p0 p1 (by omega)).2
        obtain ⟨q, hq⟩ : ∃ q : Nat, q = 318 + 3 * m := ⟨_, rfl⟩
        have eq : 318 + 3 * (m : Int) = (q : Int) := by omega
        rw [eq] at c0
        have q0 : ec_tw (q : Int) = (q : Int) := ec_twn (n := q) (by omega)
        have q1 : ec_tw ((q : Int) + 1) = ((q + 1 : Nat) : Int) := ec_twn (n := q + 1) (by omega)
        have q2 : ec_tw ((q : Int) + 2) = ((q + 2 : Nat) : Int) := ec_twn (n := q + 2) (by omega)
        have a1 := (eg243_151_47_0 c0).2
        rw [q0, z0, ef_rd w 152 0] at a1
        obtain ⟨W1, s1, r1⟩ := ed_w1 (k := 152) (n := 1580) (p := q) (z := ef_a w 152 0) c0.1 rfl (by omega)
        obtain ⟨y1, hy1⟩ : ∃ y, y = ec_wr w 152 (q : Int) (ef_a w 152 0) := ⟨_, rfl⟩
        rw [← hy1] at a1 W1 s1 r1
        have a2 := (eg243_151_59_0 a1).2
        rw [q1] at a2
        obtain ⟨W2, s2, r2⟩ := ed_w1 (k := 152) (n := 1580) (p := q + 1) (z := x1) W1 rfl (by omega)
        obtain ⟨y2, hy2⟩ : ∃ y, y = ec_wr y1 152 ((q + 1 : Nat) : Int) x1 := ⟨_, rfl⟩
        rw [← hy2] at a2 W2 s2 r2
        have a3 := (eg243_151_68_0 a2).2
        rw [q2] at a3
        obtain ⟨W3, s3, r3⟩ := ed_w1 (k := 152) (n := 1580) (p := q + 2) (z := -1) W2 rfl (by omega)
        obtain ⟨y3, hy3⟩ : ∃ y, y = ec_wr y2 152 ((q + 2 : Nat) : Int) (-1) := ⟨_, rfl⟩
        rw [← hy3] at a3 W3 s3 r3
        have r39 : ef_a y3 152 9 = (m : Int) := by
          rw [r3 9, if_neg (by omega), r2 9, if_neg (by omega), r1 9, if_neg (by omega)]
          exact h1
        have a4 := (eg243_151_77_0 a3).2
        rw [t9, ef_rd y3 152 9, r39] at a4
        obtain ⟨W4, s4, r4⟩ := ed_w1 (k := 152) (n := 1580) (p := 9) (z := (m : Int) + 1) W3 rfl (by decide)
        have ey : w1 = ec_wr y3 152 ((9 : Nat) : Int) ((m : Int) + 1) := (Prod.mk.inj (eg243_151_88_0 a4).2.1).2
        have ev : ec_tw ((m : Int) + 1) = ((m + 1 : Nat) : Int) := ec_twn (n := m + 1) (by omega)
        rw [← ey] at s4 r4
        refine ⟨ef_s_trans (ef_s_trans (ef_s_trans s1 s2) s3) s4, fun p => ?_⟩
        rw [r4 p, ev, r3 p, tn, r2 p, r1 p, ef_tw, hq]
      · obtain ⟨_, hr, _⟩ := k2 p0 p1 (by omega)
        exact .inl ⟨fun z => p2 z.2, out _ hr⟩
    · obtain ⟨_, hr, _⟩ := k3 p0 p1
      exact .inl ⟨fun z => p1 (gd.mpr z.1.2), out _ hr⟩
  · have k0 := eg243_151_0_0 h
    rw [t0] at k0
    obtain ⟨_, hr, _⟩ := k0 (by omega)
    exact .inl ⟨fun z => p0 z.1.1, out _ hr⟩
end ED1
theorem ed_sworn2 {xs : List Int32} {n : Nat} {w wA wB : px_W} {vA vB : Option Value} {x1 : Int} (hH : eh_RR w) (hR : ed_R w) (hA : ec_F (hb_XL xs) n 151 [.inr (.inl 64), .inl x1] w (vA, wA)) (hB : ec_F (hb_XL xs) n 243 [.inr (.inl 215), .inl x1] wA (vB, wB)) : ed_R wB := by
  obtain ⟨m, hm, h1', h2', h3⟩ := hR.1
  have h1 : ec_fd w 39 1 = (m : Int) := h1'
  have h2 : ef_a w 152 9 = (m : Int) := h2'
  have now : ef_a w 152 0 = ec_fd w 1 0 := hH.1.2.2.1.1
  rcases ew_swA hm h1 (hb_FE hA) with ⟨p, eA⟩ | ⟨p, u, hE⟩
  · rw [eA] at hB
    rcases ew_swB hm h2 (hb_FE hB) with ⟨_, eB⟩ | ⟨p2, _⟩
    · rw [eB]
      exact hR
    · exact absurd p2 p
  · obtain ⟨_, WA, sA, fA, rA⟩ := ew_addW p.2 h1 hE
    have d1 : ef_a wA 152 = ef_a w 152 := ef_s_a sA (by decide)
    rcases ew_swB (w := wA) hm (by rw [d1]; exact h2) (hb_FE hB) with ⟨p2, _⟩ | ⟨_, sB, dB⟩
    · exact absurd p p2
    · have s12 : ef_s [39, 41, 42, 43, 152] w wB := ef_s_trans (ef_s_mono sA (by decide)) (ef_s_mono sB (by decide))
      have hm' : m < 12 := p.2
      refine ⟨⟨m + 1, by omega, ?_, ?_, fun i hi => ?_⟩, ed_kcg ed_dep (by decide) (by decide) (by decide) (by decide) s12 (ef_s_f s12 (by decide) 2) hR.2⟩
      · show ec_fd wB 39 1 = ((m + 1 : Nat) : Int)
        rw [ef_s_f sB (by decide)]
        exact fA
      · show ef_a wB 152 9 = ((m + 1 : Nat) : Int)
        rw [dB 9, if_pos rfl]
      · show ef_a wB 43 i = ef_a wB 152 (318 + 3 * i) ∧ ef_a wB 41 i = ef_a wB 152 (318 + 3 * i + 1) ∧ ef_a wB 42 i = ef_a wB 152 (318 + 3 * i + 2) ∧ -1 ≤ ef_a wB 152 (318 + 3 * i + 2)
        obtain ⟨a41, a42, a43⟩ := rA i
        rw [ef_s_a sB (k := 41) (by decide), ef_s_a sB (k := 42) (by decide), ef_s_a sB (k := 43) (by decide), a41, a42, a43]
        by_cases q : i = m
        · have e0 : ef_a wB 152 (318 + 3 * i) = ef_a w 152 0 := by
            rw [dB, if_neg (by omega), if_neg (by omega), if_neg (by omega), if_pos (by omega), d1]
          have e1 : ef_a wB 152 (318 + 3 * i + 1) = ec_tw x1 := by
            rw [dB, if_neg (by omega), if_neg (by omega), if_pos (by omega)]
          have e2 : ef_a wB 152 (318 + 3 * i + 2) = -1 := by
            rw [dB, if_neg (by omega), if_pos (by omega)]
          rw [e0, e1, e2, if_pos q, if_pos q, if_pos q, ec_tw_fd]
          exact ⟨now.symm, rfl, rfl, by decide⟩
        · have old : ∀ j, j < 3 → ef_a wB 152 (318 + 3 * i + j) = ef_a w 152 (318 + 3 * i + j) := by
            intro j hj
            rw [dB, if_neg (by omega), if_neg (by omega), if_neg (by omega), if_neg (by omega), d1]
          have old0 : ef_a wB 152 (318 + 3 * i) = ef_a w 152 (318 + 3 * i) := old 0 (by decide)
          rw [old0, old 1 (by decide), old 2 (by decide), if_neg q, if_neg q, if_neg q]
          exact h3 i (by omega)

end
