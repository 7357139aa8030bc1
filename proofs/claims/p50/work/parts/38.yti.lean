noncomputable section
/-! SPEEDS, READY and LIGHTS are the same on both sides, live and kept -/
def es_P : ej_T := fun F R D => (∃ s : Nat, s ≤ 6 ∧ D 6 = (s : Int) ∧ ∀ i, i < s → 1 ≤ D (248 + 6 * i + 2) ∧ D (248 + 6 * i + 2) ≤ 40) ∧ (F 29 0 = D 12 ∧ 0 ≤ D 12 ∧ D 12 ≤ 60) ∧ ∃ l : Nat, l ≤ 8 ∧ F 29 9 = (l : Int) ∧ D 8 = (l : Int) ∧ ∀ i, i < l → (R 36 i = D (294 + 3 * i) ∧ R 37 i = D (294 + 3 * i + 1) ∧ R 38 i = D (294 + 3 * i + 2)) ∧ 0 ≤ D (294 + 3 * i) ∧ D (294 + 3 * i) ≤ 999
def es_FL : List (Nat × Nat) := [(29, 0), (29, 9)]
def es_RL : List (Nat × Nat) := [(36, 8), (37, 8), (38, 8)]
def es_DL : List (Nat × Nat) := [(6, 7), (8, 9), (12, 13), (248, 284), (294, 318)]
theorem es_dep : ej_dep es_FL es_RL es_DL es_P := by
  intro F F' R R' D D' hF hR hD h
  obtain ⟨⟨s, hs, h1, h2⟩, ⟨r1, r2⟩, l, hl, l1, l2, l3⟩ := h
  have f0 : F' 29 0 = F 29 0 := hF (29, 0) (by decide)
  have f9 : F' 29 9 = F 29 9 := hF (29, 9) (by decide)
  have r36 : ∀ p, p < 8 → R' 36 p = R 36 p := hR (36, 8) (by decide)
  have r37 : ∀ p, p < 8 → R' 37 p = R 37 p := hR (37, 8) (by decide)
  have r38 : ∀ p, p < 8 → R' 38 p = R 38 p := hR (38, 8) (by decide)
  have d6 : D' 6 = D 6 := hD (6, 7) (by decide) 6 (by decide) (by decide)
  have d8 : D' 8 = D 8 := hD (8, 9) (by decide) 8 (by decide) (by decide)
  have d12 : D' 12 = D 12 := hD (12, 13) (by decide) 12 (by decide) (by decide)
  have d248 : ∀ p, 248 ≤ p → p < 284 → D' p = D p := hD (248, 284) (by decide)
  have d294 : ∀ p, 294 ≤ p → p < 318 → D' p = D p := hD (294, 318) (by decide)
  refine ⟨⟨s, hs, d6.trans h1, fun i hi => ?_⟩, ⟨?_, ?_⟩, l, hl, f9.trans l1, d8.trans l2, fun i hi => ?_⟩
  · rw [d248 (248 + 6 * i + 2) (by omega) (by omega)]
    exact h2 i hi
  · rw [f0, d12]
    exact r1
  · rw [d12]
    exact r2
  · rw [r36 i (by omega), r37 i (by omega), r38 i (by omega), d294 (294 + 3 * i) (by omega) (by omega), d294 (294 + 3 * i + 1) (by omega) (by omega), d294 (294 + 3 * i + 2) (by omega) (by omega)]
    exact l3 i hi
def es_R (w : px_W) : Prop := ej_RR es_P w
def es_dcR : List (Nat × Nat × Nat) := ej_dc es_FL es_RL es_DL
def es_RR (w : px_W) : Prop := em_R w ∧ es_R w
def es_dc : List (Nat × Nat × Nat) := em_dcS ++ es_dcR
theorem es_dcR_st {w w' : px_W} (hW : ec_W hb_A w) (hW' : ec_W hb_A w') (h : ∀ p ∈ es_dcR, ∀ i, p.2.1 ≤ i → i < p.2.2 → sy_get w' p.1 i = sy_get w p.1 i) (hR : es_R w) : es_R w' := ej_dc_st (by decide +kernel) es_dep hW hW' h hR
theorem es_dc_st {w w' : px_W} (hW : ec_W hb_A w) (hW' : ec_W hb_A w') (h : ∀ p ∈ es_dc, ∀ i, p.2.1 ≤ i → i < p.2.2 → sy_get w' p.1 i = sy_get w p.1 i) (hR : es_RR w) : es_RR w' := ⟨em_dcS_st hW hW' (fun p hp => h p (List.mem_append_left _ hp)) hR.1, es_dcR_st hW hW' (fun p hp => h p (List.mem_append_right _ hp)) hR.2⟩
theorem es_frM {Wr : sy_Wr} {w w1 : px_W} (hd : hb_dj Wr em_dcS = true) (hW : ec_W hb_A w) (hW1 : ec_W hb_A w1) (f : ∀ k i : Nat, sy_may Wr k i = false → sy_get w1 k i = sy_get w k i) (hR : em_R w) : em_R w1 := em_dcS_st hW hW1 (fun p hp i h1 h2 => f p.1 i (hb_dj_ok hd hp h1 h2)) hR
theorem es_frS {Wr : sy_Wr} {w w1 : px_W} (hd : hb_dj Wr es_dcR = true) (hW : ec_W hb_A w) (hW1 : ec_W hb_A w1) (f : ∀ k i : Nat, sy_may Wr k i = false → sy_get w1 k i = sy_get w k i) (hR : es_R w) : es_R w1 := es_dcR_st hW hW1 (fun p hp i h1 h2 => f p.1 i (hb_dj_ok hd hp h1 h2)) hR
theorem es_keep2 {xs : List Int32} {n : Nat} {w wA wB : px_W} {vA vB : Option Value} (hR : es_RR w) (hA : ec_F (hb_XL xs) n 171 [.inr (.inl 64)] w (vA, wA)) (hB : ec_F (hb_XL xs) n 292 [.inr (.inl 215)] wA (vB, wB)) : es_RR wB := ⟨em_keep2 hR.1 hA hB, ej_keep2 (by decide +kernel) (by decide +kernel) es_dep hR.2 hA hB⟩
theorem es_again2 {xs : List Int32} {n : Nat} {w wA wB : px_W} {vA vB : Option Value} (hR : es_RR w) (hA : ec_F (hb_XL xs) n 172 [.inr (.inl 64)] w (vA, wA)) (hB : ec_F (hb_XL xs) n 293 [.inr (.inl 215)] wA (vB, wB)) : es_RR wB := ⟨em_again2 hR.1 hA hB, ej_again2 (by decide +kernel) (by decide +kernel) es_dep hR.2 hA hB⟩
/-- the kept part, behind writes that don't reach it -/
theorem es_kcg {P : ej_T} {FL RL DL : List (Nat × Nat)} {S : List Nat} {w w' : px_W} (hd : ej_dep FL RL DL P) (hF : ∀ q ∈ FL, q.1 + 58 ∉ S) (hR : ∀ q ∈ RL, q.1 + 58 ∉ S) (h0 : 0 ∉ S) (h3 : 153 ∉ S) (s : ef_s S w w') (f2 : ec_fd w' 151 2 = ec_fd w 151 2) (h : ej_kc P w) : ej_kc P w' := by
  have k1 : ec_fd w' 0 14 = ec_fd w 0 14 := ef_s_f s h0 14
  rcases h with ⟨g1, g2⟩ | ⟨g1, g2, g3⟩
  · exact .inl ⟨k1.trans g1, f2.trans g2⟩
  · exact .inr ⟨k1.trans g1, f2.trans g2, ej_P_of hd (fun q hq => ef_s_f s (hF q hq) q.2) (fun q hq p _ => congrFun (ef_s_a s (hR q hq)) p) (fun q _ p _ _ => congrFun (ef_s_a s h3) p) g3⟩
/-! ready -/
def es_okR (x1 : Int) : Prop := 0 ≤ ec_tw x1 ∧ ec_tw x1 ≤ 60
theorem ew_readyA {n : Nat} {w w1 : px_W} {v : Option Value} {x1 : Int} (h : ec_E hb_X n 142 0 [(0, .inr (.inl 64)), (1, .inl x1)] [] w (v, w1)) : (¬ es_okR x1 ∧ w1 = w) ∨ (es_okR x1 ∧ w1 = ec_pf w 29 0 x1 ∧ ec_W hb_A w) := by
  have t0 : ec_tw 0 = 0 := rfl
  have t60 : ec_tw 60 = 60 := rfl
  obtain ⟨_, u, y, a1, a2⟩ := eg142_0_0_0 h
  obtain ⟨e, W⟩ := ew_within a1
  rw [t0, t60] at e
  injection e with e i
  rw [i] at a2
  have b := a2 _ e W
  by_cases p : 0 ≤ ec_tw x1 ∧ ec_tw x1 ≤ 60
  · rw [if_pos p] at b
    obtain ⟨_, hr, _⟩ := eg142_0_7_0 b (by decide)
    exact .inr ⟨p, (Prod.mk.inj hr).2, W⟩
  · rw [if_neg p] at b
    obtain ⟨_, hr, _⟩ := eg142_0_7_1 b rfl
    exact .inl ⟨p, (Prod.mk.inj hr).2⟩
theorem ew_readyB {n : Nat} {w w1 : px_W} {v : Option Value} {x1 : Int} (h : ec_E hb_X n 230 0 [(0, .inr (.inl 215)), (1, .inl x1)] [] w (v, w1)) : (¬ es_okR x1 ∧ w1 = w) ∨ (es_okR x1 ∧ w1 = ec_wr w 152 ((12 : Nat) : Int) x1 ∧ ec_W hb_A w) := by
  have t0 : ec_tw 0 = 0 := rfl
  have t60 : ec_tw 60 = 60 := rfl
  obtain ⟨_, u, y, a1, a2⟩ := eg230_151_0_0 h
  obtain ⟨e, W⟩ := ew_in a1
  rw [t0, t60] at e
  injection e with e i
  rw [i] at a2
  have b := a2 _ e W
  by_cases p : 0 ≤ ec_tw x1 ∧ ec_tw x1 ≤ 60
  · rw [if_pos p] at b
    obtain ⟨_, hr, _⟩ := eg230_151_7_0 b (by decide)
    have t12 : ec_tw 12 = ((12 : Nat) : Int) := rfl
    rw [t12] at hr
    exact .inr ⟨p, (Prod.mk.inj hr).2, W⟩
  · rw [if_neg p] at b
    obtain ⟨_, hr, _⟩ := eg230_151_7_1 b rfl
    exact .inl ⟨p, (Prod.mk.inj hr).2⟩
theorem es_ready2 {xs : List Int32} {n : Nat} {w wA wB : px_W} {vA vB : Option Value} {x1 : Int} (hR : es_R w) (hA : ec_F (hb_XL xs) n 142 [.inr (.inl 64), .inl x1] w (vA, wA)) (hB : ec_F (hb_XL xs) n 230 [.inr (.inl 215), .inl x1] wA (vB, wB)) : es_R wB := by
  rcases ew_readyA (hb_FE hA) with ⟨p, eA⟩ | ⟨p, eA, W⟩
  · rw [eA] at hB
    rcases ew_readyB (hb_FE hB) with ⟨_, eB⟩ | ⟨p2, _⟩
    · rw [eB]
      exact hR
    · exact absurd p2 p
  · rcases ew_readyB (hb_FE hB) with ⟨p2, _⟩ | ⟨_, eB, WA⟩
    · exact absurd p p2
    · have sA : ef_s [29] w wA := by
        rw [eA]
        exact ef_s_pf List.mem_cons_self
      obtain ⟨_, sB, dB⟩ := em_w1 (k := 152) (n := 1580) (p := 12) (z := x1) WA rfl (by decide)
      rw [← eB] at sB dB
      have s12 : ef_s [29, 152] w wB := ef_s_trans (ef_s_mono sA (by decide)) (ef_s_mono sB (by decide))
      have d1 : ef_a wA 152 = ef_a w 152 := ef_s_a sA (by decide)
      have fA : ∀ f, ec_fd wB 29 f = if f = 0 then ec_tw x1 else ec_fd w 29 f := fun f => by
        rw [ef_s_f sB (by decide), eA, ec_fd_pf (k := 29) (f := 0) W rfl (by decide)]
      have oldD : ∀ p, p ≠ 12 → ef_a wB 152 p = ef_a w 152 p := fun p hp => by
        rw [dB p, if_neg hp, d1]
      obtain ⟨⟨s, hs, h1, h2⟩, _, l, hl, l1, l2, l3⟩ := hR.1
      refine ⟨⟨⟨s, hs, ?_, fun i hi => ?_⟩, ⟨?_, ?_⟩, l, hl, ?_, ?_, fun i hi => ?_⟩, es_kcg es_dep (by decide) (by decide) (by decide) (by decide) s12 (ef_s_f s12 (by decide) 2) hR.2⟩
      · show ef_a wB 152 6 = (s : Int)
        rw [oldD 6 (by decide)]
        exact h1
      · show 1 ≤ ef_a wB 152 (248 + 6 * i + 2) ∧ ef_a wB 152 (248 + 6 * i + 2) ≤ 40
        rw [oldD (248 + 6 * i + 2) (by omega)]
        exact h2 i hi
      · show ec_fd wB 29 0 = ef_a wB 152 12
        rw [fA 0, if_pos rfl, dB 12, if_pos rfl]
      · show 0 ≤ ef_a wB 152 12 ∧ ef_a wB 152 12 ≤ 60
        rw [dB 12, if_pos rfl]
        exact p
      · show ec_fd wB 29 9 = (l : Int)
        rw [fA 9, if_neg (by decide)]
        exact l1
      · show ef_a wB 152 8 = (l : Int)
        rw [oldD 8 (by decide)]
        exact l2
      · show (ef_a wB 36 i = ef_a wB 152 (294 + 3 * i) ∧ ef_a wB 37 i = ef_a wB 152 (294 + 3 * i + 1) ∧ ef_a wB 38 i = ef_a wB 152 (294 + 3 * i + 2)) ∧ 0 ≤ ef_a wB 152 (294 + 3 * i) ∧ ef_a wB 152 (294 + 3 * i) ≤ 999
        rw [ef_s_a s12 (k := 36) (by decide), ef_s_a s12 (k := 37) (by decide), ef_s_a s12 (k := 38) (by decide), oldD (294 + 3 * i) (by omega), oldD (294 + 3 * i + 1) (by omega), oldD (294 + 3 * i + 2) (by omega)]
        exact l3 i hi
/-! ship -/
theorem es_ship2 {xs : List Int32} {n : Nat} {w wA wB : px_W} {vA vB : Option Value} {x1 x2 x3 x4 : Int} (hR : es_RR w) (hA : ec_F (hb_XL xs) n 141 [.inr (.inl 64), .inl x1, .inl x2, .inl x3, .inl x4] w (vA, wA)) (hB : ec_F (hb_XL xs) n 227 [.inr (.inl 215), .inl x1, .inl x2, .inl x3, .inl x4] wA (vB, wB)) : es_R wB := by
  obtain ⟨⟨s, hs, h1', h2', _⟩, _⟩ := hR.1.1
  have h1 : ec_fd w 29 1 = (s : Int) := h1'
  have h2 : ef_a w 152 6 = (s : Int) := h2'
  rcases ew_shipA hs h1 (hb_FE hA) with ⟨p, eA⟩ | ⟨p, u, hE⟩
  · rw [eA] at hB
    rcases ew_shipB hs h2 (hb_FE hB) with ⟨_, eB⟩ | ⟨p2, _⟩
    · rw [eB]
      exact hR.2
    · exact absurd p2 p
  · obtain ⟨o1, o2, o3, o4, o5, o6⟩ := p
    obtain ⟨_, WA, sA, fA, gA, rA⟩ := ew_addS o6 h1 hE
    have d1 : ef_a wA 152 = ef_a w 152 := ef_s_a sA (by decide)
    rcases ew_shipB (w := wA) hs (by rw [d1]; exact h2) (hb_FE hB) with ⟨p2, _⟩ | ⟨_, sB, dB⟩
    · exact absurd ⟨o1, o2, o3, o4, o5, o6⟩ p2
    · have s12 : ef_s [29, 30, 31, 32, 33, 34, 152] w wB := ef_s_trans (ef_s_mono sA (by decide)) (ef_s_mono sB (by decide))
      obtain ⟨⟨s', hs', e1', e2⟩, ⟨r1, r2⟩, l, hl, l1, l2, l3⟩ := hR.2.1
      have e1 : ef_a w 152 6 = (s' : Int) := e1'
      have es : s' = s := by omega
      have oldD : ∀ p, p ≠ 6 → (p < 248 + 6 * s ∨ 248 + 6 * s + 5 < p) → ef_a wB 152 p = ef_a w 152 p := by
        intro p n1 n2
        rw [dB, if_neg n1, if_neg (by omega), if_neg (by omega), if_neg (by omega), if_neg (by omega), if_neg (by omega), if_neg (by omega), d1]
      refine ⟨⟨⟨s + 1, by omega, ?_, fun i hi => ?_⟩, ⟨?_, ?_⟩, l, hl, ?_, ?_, fun i hi => ?_⟩, es_kcg es_dep (by decide) (by decide) (by decide) (by decide) s12 (ef_s_f s12 (by decide) 2) hR.2.2⟩
      · show ef_a wB 152 6 = ((s + 1 : Nat) : Int)
        rw [dB 6, if_pos rfl]
      · show 1 ≤ ef_a wB 152 (248 + 6 * i + 2) ∧ ef_a wB 152 (248 + 6 * i + 2) ≤ 40
        by_cases q : i = s
        · have e3 : ef_a wB 152 (248 + 6 * i + 2) = ec_tw x2 := by
            rw [dB, if_neg (by omega), if_neg (by omega), if_neg (by omega), if_neg (by omega), if_pos (by omega)]
          rw [e3]
          exact o2
        · rw [oldD (248 + 6 * i + 2) (by omega) (by omega)]
          exact e2 i (by omega)
      · show ec_fd wB 29 0 = ef_a wB 152 12
        rw [ef_s_f sB (by decide), gA 0 (by decide), oldD 12 (by decide) (by omega)]
        exact r1
      · show 0 ≤ ef_a wB 152 12 ∧ ef_a wB 152 12 ≤ 60
        rw [oldD 12 (by decide) (by omega)]
        exact r2
      · show ec_fd wB 29 9 = (l : Int)
        rw [ef_s_f sB (by decide), gA 9 (by decide)]
        exact l1
      · show ef_a wB 152 8 = (l : Int)
        rw [oldD 8 (by decide) (by omega)]
        exact l2
      · show (ef_a wB 36 i = ef_a wB 152 (294 + 3 * i) ∧ ef_a wB 37 i = ef_a wB 152 (294 + 3 * i + 1) ∧ ef_a wB 38 i = ef_a wB 152 (294 + 3 * i + 2)) ∧ 0 ≤ ef_a wB 152 (294 + 3 * i) ∧ ef_a wB 152 (294 + 3 * i) ≤ 999
        rw [ef_s_a s12 (k := 36) (by decide), ef_s_a s12 (k := 37) (by decide), ef_s_a s12 (k := 38) (by decide), oldD (294 + 3 * i) (by omega) (by omega), oldD (294 + 3 * i + 1) (by omega) (by omega), oldD (294 + 3 * i + 2) (by omega) (by omega)]
        exact l3 i hi
/-! light -/
def es_okL (l : Nat) (x1 x2 x3 : Int) : Prop := (0 ≤ ec_tw x1 ∧ ec_tw x1 ≤ 999) ∧ (0 ≤ ec_tw x2 ∧ ec_tw x2 ≤ 200) ∧ (ec_tw x2 ≤ ec_tw x3 ∧ ec_tw x3 ≤ 200) ∧ l < 8
section ES2
variable {n l : Nat} {w w1 : px_W} {v : Option Value} {x1 x2 x3 : Int}
theorem ew_addL (hl : l < 8) (h1 : ec_fd w 29 9 = (l : Int)) (h : ec_E hb_X n 90 0 [(0, .inr (.inl 93)), (1, .inl x1), (2, .inl x2), (3, .inl x3)] [] w (v, w1)) : v = ec_R (l : Int) ∧ ec_W hb_A w1 ∧ ef_s [29, 36, 37, 38] w w1 ∧ ec_fd w1 29 9 = ((l + 1 : Nat) : Int) ∧ (∀ f, f ≠ 9 → ec_fd w1 29 f = ec_fd w 29 f) ∧ ∀ i, ef_a w1 36 i = (if i = l then ec_tw x1 else ef_a w 36 i) ∧ ef_a w1 37 i = (if i = l then ec_tw x2 else ef_a w 37 i) ∧ ef_a w1 38 i = (if i = l then ec_tw x3 else ef_a w 38 i) := by
  have ts : ec_tw (l : Int) = l := ec_twn (by omega)
  have a1 := (eg90_29_0_0 h).2
  rw [h1, ts] at a1
  obtain ⟨W1, s1, r1⟩ := em_w1 (k := 36) (n := 8) (p := l) (z := x1) h.1 rfl hl
  obtain ⟨y1, hy1⟩ : ∃ y, y = ec_wr w 36 (l : Int) x1 := ⟨_, rfl⟩
  rw [← hy1] at a1 W1 s1 r1
  have f1 : ec_fd y1 29 9 = (l : Int) := (ef_s_f s1 (by decide) 9).trans h1
  have a2 := (eg90_29_10_0 a1).2
  rw [f1, ts] at a2
  obtain ⟨W2, s2, r2⟩ := em_w1 (k := 37) (n := 8) (p := l) (z := x2) W1 rfl hl
  obtain ⟨y2, hy2⟩ : ∃ y, y = ec_wr y1 37 (l : Int) x2 := ⟨_, rfl⟩
  rw [← hy2] at a2 W2 s2 r2
  have f2 : ec_fd y2 29 9 = (l : Int) := (ef_s_f s2 (by decide) 9).trans f1
  have a3 := (eg90_29_20_0 a2).2
  rw [f2, ts] at a3
  obtain ⟨W3, s3, r3⟩ := em_w1 (k := 38) (n := 8) (p := l) (z := x3) W2 rfl hl
  obtain ⟨y3, hy3⟩ : ∃ y, y = ec_wr y2 38 (l : Int) x3 := ⟨_, rfl⟩
  rw [← hy3] at a3 W3 s3 r3
  have f3 : ec_fd y3 29 9 = (l : Int) := (ef_s_f s3 (by decide) 9).trans f2
  obtain ⟨_, hr, hW⟩ := eg90_29_30_0 a3
  rw [f3] at hr hW
  injection hr with e1 e2
  have F : ∀ f, ec_fd w1 29 f = if f = 9 then ((l + 1 : Nat) : Int) else ec_fd y3 29 f := by
    intro f
    rw [e2, ec_fd_pf (k := 29) (f := 9) W3 rfl (by decide)]
    have ev : ec_tw ((l : Int) + 1) = ((l + 1 : Nat) : Int) := ec_twn (n := l + 1) (by omega)
    rw [ev]
  have s6 : ef_s [29] y3 w1 := by
    rw [e2]
    exact ef_s_pf List.mem_cons_self
  have sall : ef_s [29, 36, 37, 38] w w1 := ef_s_trans (ef_s_trans (ef_s_trans (ef_s_mono s1 (by decide)) (ef_s_mono s2 (by decide))) (ef_s_mono s3 (by decide))) (ef_s_mono s6 (by decide))
  refine ⟨e1, by rw [e2]; exact hW, sall, by rw [F 9, if_pos rfl], fun f hf => ?_, fun i => ⟨?_, ?_, ?_⟩⟩
  · rw [F f, if_neg hf, ef_s_f s3 (by decide), ef_s_f s2 (by decide), ef_s_f s1 (by decide)]
  · rw [ef_s_a s6 (by decide), ef_s_a s3 (by decide), ef_s_a s2 (by decide), r1 i]
  · rw [ef_s_a s6 (by decide), ef_s_a s3 (by decide), r2 i, ef_s_a s1 (by decide)]
  · rw [ef_s_a s6 (by decide), r3 i, ef_s_a s2 (by decide), ef_s_a s1 (by decide)]
theorem ew_lightA (hl : l ≤ 8) (h1 : ec_fd w 29 9 = (l : Int)) (h : ec_E hb_X n 146 0 [(0, .inr (.inl 64)), (1, .inl x1), (2, .inl x2), (3, .inl x3)] [] w (v, w1)) : (¬ es_okL l x1 x2 x3 ∧ w1 = w) ∨ (es_okL l x1 x2 x3 ∧ ∃ u : Option Value, ec_E hb_X n 90 0 [(0, .inr (.inl 93)), (1, .inl x1), (2, .inl x2), (3, .inl x3)] [] w (u, w1)) := by
  have t0 : ec_tw 0 = 0 := rfl
  have t8 : ec_tw 8 = 8 := rfl
  have t200 : ec_tw 200 = 200 := rfl
  have out : ∀ z : Int, (v, w1) = (ec_R z, w) → w1 = w := fun z e => (Prod.mk.inj e).2
  obtain ⟨_, u, y, a1, a2⟩ := eg146_0_0_0 h
  obtain ⟨i, W, e⟩ := ew_ismA a1
  rw [← i] at a2 W
  have b1 := a2 _ e W
  clear a1 a2 e i
  by_cases p1 : 0 ≤ ec_tw x1 ∧ ec_tw x1 ≤ 999
  · rw [if_pos p1] at b1
    obtain ⟨_, u, y, a1, a2⟩ := eg146_0_4_1 b1 (by decide)
    obtain ⟨e, W⟩ := ew_within a1
    rw [t0, t200] at e
    injection e with e i
    rw [i] at a2
    have b2 := a2 _ e W
    clear a1 a2 e i
    by_cases p2 : 0 ≤ ec_tw x2 ∧ ec_tw x2 ≤ 200
    · rw [if_pos p2] at b2
      obtain ⟨_, u, y, a1, a2⟩ := eg146_0_15_1 b2 (by decide)
      obtain ⟨e, W⟩ := ew_within a1
      rw [t200] at e
      injection e with e i
      rw [i] at a2
      have b3 := a2 _ e W
      clear a1 a2 e i
      by_cases p3 : ec_tw x2 ≤ ec_tw x3 ∧ ec_tw x3 ≤ 200
      · rw [if_pos p3] at b3
        have k0 := eg146_0_26_0 b3 (by decide)
        have k1 := eg146_0_26_1 b3 (by decide)
        rw [h1, ec_twn (n := l) (by omega), t8] at k0 k1
        by_cases p4 : l < 8
        · obtain ⟨_, u, y, a1, a2⟩ := k0 (by omega)
          obtain ⟨q1, q2, _⟩ := ew_addL p4 h1 a1
          refine .inr ⟨⟨p1, p2, p3, p4⟩, u, ?_⟩
          have ey : w1 = y := (Prod.mk.inj (eg146_0_58_0 (a2 _ q1 q2)).2.1).2
          rw [ey]
          exact a1
        · obtain ⟨_, hr, _⟩ := k1 (by omega)
          exact .inl ⟨fun z => p4 z.2.2.2, out _ hr⟩
      · rw [if_neg p3] at b3
        obtain ⟨_, hr, _⟩ := eg146_0_26_2 b3 rfl
        exact .inl ⟨fun z => p3 z.2.2.1, out _ hr⟩
    · rw [if_neg p2] at b2
      obtain ⟨_, hr, _⟩ := eg146_0_15_0 b2 rfl
      exact .inl ⟨fun z => p2 z.2.1, out _ hr⟩
  · rw [if_neg p1] at b1
    obtain ⟨_, hr, _⟩ := eg146_0_4_0 b1 rfl
    exact .inl ⟨fun z => p1 z.1, out _ hr⟩
theorem ew_lightB (hl : l ≤ 8) (h1 : ef_a w 152 8 = (l : Int)) (h : ec_E hb_X n 236 0 [(0, .inr (.inl 215)), (1, .inl x1), (2, .inl x2), (3, .inl x3)] [] w (v, w1)) : (¬ es_okL l x1 x2 x3 ∧ w1 = w) ∨ (es_okL l x1 x2 x3 ∧ ef_s [152] w w1 ∧ ∀ p, ef_a w1 152 p = if p = 8 then ((l + 1 : Nat) : Int) else if p = 294 + 3 * l + 2 then ec_tw x3 else if p = 294 + 3 * l + 1 then ec_tw x2 else if p = 294 + 3 * l then ec_tw x1 else ef_a w 152 p) := by
  have t0 : ec_tw 0 = 0 := rfl
  have t8 : ec_tw 8 = ((8 : Nat) : Int) := rfl
  have t200 : ec_tw 200 = 200 := rfl
  have out : ∀ z : Int, (v, w1) = (ec_R z, w) → w1 = w := fun z e => (Prod.mk.inj e).2
  obtain ⟨_, u, y, a1, a2⟩ := eg236_151_0_0 h
  obtain ⟨i, W, e⟩ := ew_ismB a1
  rw [← i] at a2 W
  have b1 := a2 _ e W
  clear a1 a2 e i
  by_cases p1 : 0 ≤ ec_tw x1 ∧ ec_tw x1 ≤ 999
  · rw [if_pos p1] at b1
    obtain ⟨_, u, y, a1, a2⟩ := eg236_151_4_1 b1 (by decide)
    obtain ⟨e, W⟩ := ew_in a1
    rw [t0, t200] at e
    injection e with e i
    rw [i] at a2
    have b2 := a2 _ e W
    clear a1 a2 e i
    by_cases p2 : 0 ≤ ec_tw x2 ∧ ec_tw x2 ≤ 200
    · rw [if_pos p2] at b2
      obtain ⟨_, u, y, a1, a2⟩ := eg236_151_15_1 b2 (by decide)
      obtain ⟨e, W⟩ := ew_in a1
      rw [t200] at e
      injection e with e i
      rw [i] at a2
      have b3 := a2 _ e W
      clear a1 a2 e i
      by_cases p3 : ec_tw x2 ≤ ec_tw x3 ∧ ec_tw x3 ≤ 200
      · rw [if_pos p3] at b3
        have k0 := eg236_151_26_0 b3 (by decide)
        have k1 := eg236_151_26_1 b3 (by decide)
        rw [t8, ef_rd w 152 8, h1, ec_twn (n := l) (by omega)] at k0 k1
        by_cases p4 : l < 8
        · refine .inr ⟨⟨p1, p2, p3, p4⟩, ?_⟩
          have c0 := (k0 (by omega)).2
          obtain ⟨q, hq⟩ : ∃ q : Nat, q = 294 + 3 * l := ⟨_, rfl⟩
          have eq : 294 + 3 * (l : Int) = (q : Int) := by omega
          rw [eq] at c0
          have q0 : ec_tw (q : Int) = (q : Int) := ec_twn (n := q) (by omega)
          have q1 : ec_tw ((q : Int) + 1) = ((q + 1 : Nat) : Int) := ec_twn (n := q + 1) (by omega)
          have q2 : ec_tw ((q : Int) + 2) = ((q + 2 : Nat) : Int) := ec_twn (n := q + 2) (by omega)
          have a1 := (eg236_151_61_0 c0).2
          rw [q0] at a1
          obtain ⟨W1, s1, r1⟩ := em_w1 (k := 152) (n := 1580) (p := q) (z := x1) c0.1 rfl (by omega)
          obtain ⟨y1, hy1⟩ : ∃ y, y = ec_wr w 152 (q : Int) x1 := ⟨_, rfl⟩
          rw [← hy1] at a1 W1 s1 r1
          have a2 := (eg236_151_69_0 a1).2
          rw [q1] at a2
          obtain ⟨W2, s2, r2⟩ := em_w1 (k := 152) (n := 1580) (p := q + 1) (z := x2) W1 rfl (by omega)
          obtain ⟨y2, hy2⟩ : ∃ y, y = ec_wr y1 152 ((q + 1 : Nat) : Int) x2 := ⟨_, rfl⟩
          rw [← hy2] at a2 W2 s2 r2
          have a3 := (eg236_151_79_0 a2).2
          rw [q2] at a3
          obtain ⟨W3, s3, r3⟩ := em_w1 (k := 152) (n := 1580) (p := q + 2) (z := x3) W2 rfl (by omega)
          obtain ⟨y3, hy3⟩ : ∃ y, y = ec_wr y2 152 ((q + 2 : Nat) : Int) x3 := ⟨_, rfl⟩
          rw [← hy3] at a3 W3 s3 r3
          have r38 : ef_a y3 152 8 = (l : Int) := by
            rw [r3 8, if_neg (by omega), r2 8, if_neg (by omega), r1 8, if_neg (by omega)]
            exact h1
          have a4 := (eg236_151_89_0 a3).2
          rw [t8, ef_rd y3 152 8, r38] at a4
          obtain ⟨W4, s4, r4⟩ := em_w1 (k := 152) (n := 1580) (p := 8) (z := (l : Int) + 1) W3 rfl (by decide)
          have ey : w1 = ec_wr y3 152 ((8 : Nat) : Int) ((l : Int) + 1) := (Prod.mk.inj (eg236_151_100_0 a4).2.1).2
          have ev : ec_tw ((l : Int) + 1) = ((l + 1 : Nat) : Int) := ec_twn (n := l + 1) (by omega)
          rw [← ey] at s4 r4
          refine ⟨ef_s_trans (ef_s_trans (ef_s_trans s1 s2) s3) s4, fun p => ?_⟩
          rw [r4 p, ev, r3 p, r2 p, r1 p, hq]
        · obtain ⟨_, hr, _⟩ := k1 (by omega)
          exact .inl ⟨fun z => p4 z.2.2.2, out _ hr⟩
      · rw [if_neg p3] at b3
        obtain ⟨_, hr, _⟩ := eg236_151_26_2 b3 rfl
        exact .inl ⟨fun z => p3 z.2.2.1, out _ hr⟩
    · rw [if_neg p2] at b2
      obtain ⟨_, hr, _⟩ := eg236_151_15_0 b2 rfl
      exact .inl ⟨fun z => p2 z.2.1, out _ hr⟩
  · rw [if_neg p1] at b1
    obtain ⟨_, hr, _⟩ := eg236_151_4_0 b1 rfl
    exact .inl ⟨fun z => p1 z.1, out _ hr⟩
end ES2
theorem es_light2 {xs : List Int32} {n : Nat} {w wA wB : px_W} {vA vB : Option Value} {x1 x2 x3 : Int} (hR : es_R w) (hA : ec_F (hb_XL xs) n 146 [.inr (.inl 64), .inl x1, .inl x2, .inl x3] w (vA, wA)) (hB : ec_F (hb_XL xs) n 236 [.inr (.inl 215), .inl x1, .inl x2, .inl x3] wA (vB, wB)) : es_R wB := by
  obtain ⟨⟨s, hs, h1, h2⟩, ⟨r1, r2⟩, l, hl, l1', l2', l3⟩ := hR.1
  have l1 : ec_fd w 29 9 = (l : Int) := l1'
  have l2 : ef_a w 152 8 = (l : Int) := l2'
  rcases ew_lightA hl l1 (hb_FE hA) with ⟨p, eA⟩ | ⟨p, u, hE⟩
  · rw [eA] at hB
    rcases ew_lightB hl l2 (hb_FE hB) with ⟨_, eB⟩ | ⟨p2, _⟩
    · rw [eB]
      exact hR
    · exact absurd p2 p
  · obtain ⟨o1, o2, o3, o4⟩ := p
    obtain ⟨_, WA, sA, fA, gA, rA⟩ := ew_addL o4 l1 hE
    have d1 : ef_a wA 152 = ef_a w 152 := ef_s_a sA (by decide)
    rcases ew_lightB (w := wA) hl (by rw [d1]; exact l2) (hb_FE hB) with ⟨p2, _⟩ | ⟨_, sB, dB⟩
    · exact absurd ⟨o1, o2, o3, o4⟩ p2
    · have s12 : ef_s [29, 36, 37, 38, 152] w wB := ef_s_trans (ef_s_mono sA (by decide)) (ef_s_mono sB (by decide))
      have oldD : ∀ p, p ≠ 8 → (p < 294 + 3 * l ∨ 294 + 3 * l + 2 < p) → ef_a wB 152 p = ef_a w 152 p := by
        intro p n1 n2
        rw [dB, if_neg n1, if_neg (by omega), if_neg (by omega), if_neg (by omega), d1]
      refine ⟨⟨⟨s, hs, ?_, fun i hi => ?_⟩, ⟨?_, ?_⟩, l + 1, by omega, ?_, ?_, fun i hi => ?_⟩, es_kcg es_dep (by decide) (by decide) (by decide) (by decide) s12 (ef_s_f s12 (by decide) 2) hR.2⟩
      · show ef_a wB 152 6 = (s : Int)
        rw [oldD 6 (by decide) (by omega)]
        exact h1
      · show 1 ≤ ef_a wB 152 (248 + 6 * i + 2) ∧ ef_a wB 152 (248 + 6 * i + 2) ≤ 40
        rw [oldD (248 + 6 * i + 2) (by omega) (by omega)]
        exact h2 i hi
      · show ec_fd wB 29 0 = ef_a wB 152 12
        rw [ef_s_f sB (by decide), gA 0 (by decide), oldD 12 (by decide) (by omega)]
        exact r1
      · show 0 ≤ ef_a wB 152 12 ∧ ef_a wB 152 12 ≤ 60
        rw [oldD 12 (by decide) (by omega)]
        exact r2
      · show ec_fd wB 29 9 = ((l + 1 : Nat) : Int)
        rw [ef_s_f sB (by decide)]
        exact fA
      · show ef_a wB 152 8 = ((l + 1 : Nat) : Int)
        rw [dB 8, if_pos rfl]
      · show (ef_a wB 36 i = ef_a wB 152 (294 + 3 * i) ∧ ef_a wB 37 i = ef_a wB 152 (294 + 3 * i + 1) ∧ ef_a wB 38 i = ef_a wB 152 (294 + 3 * i + 2)) ∧ 0 ≤ ef_a wB 152 (294 + 3 * i) ∧ ef_a wB 152 (294 + 3 * i) ≤ 999
        obtain ⟨a36, a37, a38⟩ := rA i
        rw [ef_s_a sB (k := 36) (by decide), ef_s_a sB (k := 37) (by decide), ef_s_a sB (k := 38) (by decide), a36, a37, a38]
        by_cases q : i = l
        · have e0 : ef_a wB 152 (294 + 3 * i) = ec_tw x1 := by
            rw [dB, if_neg (by omega), if_neg (by omega), if_neg (by omega), if_pos (by omega)]
          have e1 : ef_a wB 152 (294 + 3 * i + 1) = ec_tw x2 := by
            rw [dB, if_neg (by omega), if_neg (by omega), if_pos (by omega)]
          have e2 : ef_a wB 152 (294 + 3 * i + 2) = ec_tw x3 := by
            rw [dB, if_neg (by omega), if_pos (by omega)]
          rw [e0, e1, e2, if_pos q, if_pos q, if_pos q]
          exact ⟨⟨rfl, rfl, rfl⟩, o1⟩
        · rw [if_neg q, if_neg q, if_neg q, oldD (294 + 3 * i) (by omega) (by omega), oldD (294 + 3 * i + 1) (by omega) (by omega), oldD (294 + 3 * i + 2) (by omega) (by omega)]
          exact l3 i (by omega)

end
