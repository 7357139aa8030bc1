noncomputable section
/-! RULES: tests, holds, bids, must -/
/-- is the SHIP's earliest CALL heard by then -/
def em_H (f : Option Int) (m : Int) : Bool := match f with
  | none => false
  | some x => decide (x ≤ m)
section EM3
variable {n i k : Nat} {w w1 : px_W} {v : Option Value} {m : Int} {H : Bool} {M : Nat → Int}
/-- what the class knows of SHIP i at minute m is what the three named numbers and 'heard' say -/
def em_K (w : px_W) (i k : Nat) (m : Int) (H : Bool) (M : Nat → Int) : Prop := (i < 6 ∧ k ≤ 10 ∧ ec_fd w 29 7 = (k : Int) ∧ ∀ c, c < k → 0 ≤ ef_a w 35 c ∧ ef_a w 35 c ≤ 999) ∧ (0 ≤ m ∧ m ≤ 999) ∧ H = em_H (em_fh (fun c => em_hr (ef_a w 32 i) (ef_a w 33 i) (ef_a w 30 i) (ef_a w 34 i) (ef_a w 35 c)) (ef_a w 35) k) m ∧ M 0 = ef_a w 30 i ∧ M 1 = ef_a w 31 i ∧ M 2 = m
theorem ew_tst {z : Int} (hz : 0 ≤ z ∧ z ≤ 10000000) (h4 : z % 8 < 4) (hK : em_K w i k m H M) (h : ec_E hb_X n 85 0 [(0, .inl z), (1, .inr (.inl 93)), (2, .inl (i : Int)), (3, .inl m)] [] w (v, w1)) : w = w1 ∧ ec_W hb_A w1 ∧ v = ec_R (if er_T H M z = true then 1 else 0) := by
  obtain ⟨⟨hi, hk, h7, hcm⟩, hm, hH, hM0, hM1, hM2⟩ := hK
  have t0 : ec_tw 0 = 0 := rfl
  have t1 : ec_tw 1 = 1 := rfl
  have t2 : ec_tw 2 = 2 := rfl
  have t3 : ec_tw (-3) = -3 := rfl
  have ti : ec_tw (i : Int) = i := ec_twn (by omega)
  have tm : ec_tw m = m := ec_tw_id (by omega) (by omega)
  have e8 : ec_rm z 8 = z % 8 := ec_rm_nn hz.1 (by omega) (by decide) (by decide)
  have t8 : ec_tw (z % 8) = z % 8 := ec_tw_id (by omega) (by omega)
  have d8 : ec_dv z 8 = z / 8 := ec_dv_nn hz.1 (by omega) (by decide) (by decide)
  have r4 : ec_rm (z / 8) 4 = z / 8 % 4 := ec_rm_nn (by omega) (by omega) (by decide) (by decide)
  have t4 : ec_tw (z / 8 % 4) = z / 8 % 4 := ec_tw_id (by omega) (by omega)
  have d32 : ec_dv z 32 = z / 32 := ec_dv_nn hz.1 (by omega) (by decide) (by decide)
  have t32 : ec_tw (z / 32) = z / 32 := ec_tw_id (by omega) (by omega)
  have fin : ∀ x : Int, (v, w1) = (ec_R x, w) → ec_W hb_A w → w = w1 ∧ ec_W hb_A w1 ∧ v = ec_R x := by
    intro x hr hW
    injection hr with f1 f2
    rw [f2]
    exact ⟨rfl, hW, f1⟩
  have rest : ∀ X : Int, z % 8 ≠ 0 → ec_tw X = X → X = M (z % 8 - 1).toNat → ec_E hb_X n 85 68 [(0, .inl z), (1, .inr (.inl 93)), (2, .inl (i : Int)), (3, .inl m), (4, .inl (z % 8))] [.inl X] w (v, w1) → w = w1 ∧ ec_W hb_A w1 ∧ v = ec_R (if er_T H M z = true then 1 else 0) := by
    intro X hx tX hX h68
    have b := (eg85_68_0 h68).2
    rw [d8, r4, d32] at b
    have k0 := eg85_84_0 b
    have k1 := eg85_84_1 b
    have k2 := eg85_84_2 b
    have k3 := eg85_84_3 b
    have k4 := eg85_84_4 b
    have k5 := eg85_84_5 b
    rw [t4, tX, t32, t0] at k0 k1 k2 k3 k4 k5
    rw [t1] at k0 k1 k2 k3
    unfold er_T
    rw [if_neg hx, ← hX]
    unfold er_sg
    by_cases s0 : z / 8 % 4 = 0
    · rw [if_pos (by omega : 60 + z / 8 % 4 = 60)]
      by_cases c : X < z / 32
      · rw [if_pos (decide_eq_true c)]
        obtain ⟨_, hr, hW⟩ := k5 s0 c
        exact fin _ hr hW
      · rw [if_neg (fun q => c (of_decide_eq_true q))]
        obtain ⟨_, hr, hW⟩ := k4 s0 (by omega)
        exact fin _ hr hW
    · rw [if_neg (by omega : ¬ 60 + z / 8 % 4 = 60)]
      by_cases s1 : z / 8 % 4 = 1
      · rw [if_pos (by omega : 60 + z / 8 % 4 = 61)]
        by_cases c : X = z / 32
        · rw [if_pos (decide_eq_true c)]
          obtain ⟨_, hr, hW⟩ := k3 s0 s1 c
          exact fin _ hr hW
        · rw [if_neg (fun q => c (of_decide_eq_true q))]
          obtain ⟨_, hr, hW⟩ := k2 s0 s1 c
          exact fin _ hr hW
      · rw [if_neg (by omega : ¬ 60 + z / 8 % 4 = 61)]
        by_cases c : z / 32 < X
        · rw [if_pos (decide_eq_true c)]
          obtain ⟨_, hr, hW⟩ := k1 s0 s1 c
          exact fin _ hr hW
        · rw [if_neg (fun q => c (of_decide_eq_true q))]
          obtain ⟨_, hr, hW⟩ := k0 s0 s1 (by omega)
          exact fin _ hr hW
  have j0 := eg85_0_0 h
  have j1 := eg85_0_1 h
  have j2 := eg85_0_2 h
  have j3 := eg85_0_3 h
  rw [e8, t8, t0] at j0 j1 j2 j3
  rw [t1] at j0 j1 j2
  rw [t2] at j0 j1
  rw [ti] at j1 j2
  by_cases c0 : z % 8 = 0
  · obtain ⟨_, u, y, a1, a2⟩ := j3 c0
    obtain ⟨iy, W, e⟩ := ew_fhA hi hk h7 hcm a1
    rw [← iy] at a2 W
    have b := a2 _ e W
    unfold er_T
    rw [if_pos c0, hH]
    cases ef : em_fh (fun c => em_hr (ef_a w 32 i) (ef_a w 33 i) (ef_a w 30 i) (ef_a w 34 i) (ef_a w 35 c)) (ef_a w 35) k with
    | none =>
      rw [ef] at b
      obtain ⟨_, hr, hW⟩ := eg85_16_0 b rfl
      exact fin 0 hr hW
    | some f =>
      have bf := em_fh_in k f hcm ef
      rw [ef] at b
      have b' : ec_E hb_X n 85 16 [(0, .inl z), (1, .inr (.inl 93)), (2, .inl (i : Int)), (3, .inl m), (4, .inl (z % 8))] [.inl f] w (v, w1) := b
      have tf : ec_tw f = f := ec_tw_id (by omega) (by omega)
      have l1 := eg85_16_1 b'
      have l2 := eg85_16_2 b'
      rw [tf, t3, tm] at l1 l2
      show w = w1 ∧ ec_W hb_A w1 ∧ v = ec_R (if decide (f ≤ m) = true then 1 else 0)
      by_cases c : f ≤ m
      · rw [if_pos (decide_eq_true c)]
        obtain ⟨_, hr, hW⟩ := l2 (by omega) c
        exact fin _ hr hW
      · rw [if_neg (fun q => c (of_decide_eq_true q))]
        obtain ⟨_, hr, hW⟩ := l1 (by omega) (by omega)
        exact fin _ hr hW
  · by_cases c1 : z % 8 = 1
    · have l := (j2 c0 c1).2
      rw [ef_rd w 30 i] at l
      refine rest _ c0 (ef_tw w 30 i) ?_ l
      rw [c1]
      exact hM0.symm
    · by_cases c2 : z % 8 = 2
      · have l := (j1 c0 c1 c2).2
        rw [ef_rd w 31 i] at l
        refine rest _ c0 (ef_tw w 31 i) ?_ l
        rw [c2]
        exact hM1.symm
      · have c3 : z % 8 = 3 := by omega
        refine rest _ c0 tm ?_ (j0 c0 c1 c2).2
        rw [c3]
        exact hM2.symm
theorem ew_hld {vv l a : Nat} {st : List Int} {b : Bool} (hvv : vv ≤ 6) (hl : l < 8) (hK : em_K w i k m H M) (h48 : ef_a w 48 (vv * 8 + l) = (a : Int)) (h49 : ef_a w 49 (vv * 8 + l) = ((a + st.length : Nat) : Int)) (hal : a + st.length ≤ 64) (hst : ∀ x, x < st.length → ef_a w 50 (vv * 64 + (a + x)) = st.getD x 0) (hQ : er_MQ H M (st, b) 11) (h : ec_E hb_X n 84 0 [(0, .inr (.inl 108)), (1, .inl (vv : Int)), (2, .inl (l : Int)), (3, .inr (.inl 93)), (4, .inl (i : Int)), (5, .inl m)] [] w (v, w1)) : w = w1 ∧ ec_W hb_A w1 ∧ v = ec_R (if b = true then 1 else 0) := by
  have t1 : ec_tw 1 = 1 := rfl
  have t4 : ec_tw 4 = 4 := rfl
  have t5 : ec_tw 5 = 5 := rfl
  have t6 : ec_tw 6 = 6 := rfl
  have t0 : ec_tw 0 = 0 := rfl
  have lp : ∀ (r : List Int) (x B B' : Nat), x + r.length = st.length → (∀ y, y < r.length → st.getD (x + y) 0 = r.getD y 0) → (∀ z ∈ r, 0 ≤ z ∧ z ≤ 10000000 ∧ z % 8 < 7) → B < 67108864 → er_mb H M r B = some B' → ec_E hb_X n 84 29 [(0, .inr (.inl 108)), (1, .inl (vv : Int)), (2, .inl (l : Int)), (3, .inr (.inl 93)), (4, .inl (i : Int)), (5, .inl m), (6, .inl (B : Int)), (7, .inl ((a + st.length : Nat) : Int)), (8, .inl ((a + x : Nat) : Int))] [] w (v, w1) → (v, w1) = (ec_R (if B' % 2 = 1 then 1 else 0), w) ∧ ec_W hb_A w := by
    intro r
    induction r with
    | nil =>
      intro x B B' hx _ _ hB hmb h
      have eB : B = B' := Option.some.inj hmb
      have ex : x = st.length := hx
      have ea : ec_and (B : Int) 1 = ((B % 2 : Nat) : Int) := by
        have := ec_andN (a := B) (b := 1) (by omega)
        rw [Nat.and_one_is_mod] at this
        exact this
      have k0 := eg84_44_29_0 h
      have k1 := eg84_44_29_1 h
      rw [ec_twn (n := a + st.length) (by omega), ec_twn (n := a + x) (by omega), ea, ec_twn (n := B % 2) (by omega), t1] at k0 k1
      rw [← eB]
      by_cases c : B % 2 = 1
      · rw [if_pos c]
        obtain ⟨_, hr, hW⟩ := k1 (by omega) (by omega)
        exact ⟨hr, hW⟩
      · rw [if_neg c]
        obtain ⟨_, hr, hW⟩ := k0 (by omega) (by omega)
        exact ⟨hr, hW⟩
    | cons z r ih =>
      intro x B B' hx hy hz hB hmb h
      have hlr : (z :: r).length = r.length + 1 := rfl
      rw [hlr] at hx
      have hz0 := hz z List.mem_cons_self
      have hmb' : (er_st H M z B).bind (er_mb H M r) = some B' := hmb
      have hB2 : B < 16777216 := by
        by_cases q : B < 16777216
        · exact q
        · unfold er_st at hmb'
          rw [if_neg q] at hmb'
          cases hmb'
      have est : er_st H M z B = some (if z % 8 = 4 then B / 4 * 2 + B % 2 * (B / 2 % 2) else if z % 8 = 5 then B / 4 * 2 + max (B % 2) (B / 2 % 2) else if z % 8 = 6 then B / 2 * 2 + (1 - B % 2) else 2 * B + (if er_T H M z = true then 1 else 0)) := by
        unfold er_st
        rw [if_pos hB2]
      rw [est] at hmb'
      have zx : st.getD x 0 = z := by
        have := hy 0 (by omega)
        exact this
      have hx64 : ef_a w 50 (vv * 64 + (a + x)) = z := (hst x (by omega)).trans zx
      have e8 : ec_rm z 8 = z % 8 := ec_rm_nn hz0.1 (by omega) (by decide) (by decide)
      have t8 : ec_tw (z % 8) = z % 8 := ec_tw_id (by omega) (by omega)
      have l2 := eg84_44_29_2 h
      have ep : (vv : Int) * 64 + ((a + x : Nat) : Int) = ((vv * 64 + (a + x) : Nat) : Int) := by omega
      rw [ec_twn (n := a + st.length) (by omega), ec_twn (n := a + x) (by omega), ep, ec_twn (n := vv * 64 + (a + x)) (by omega), ef_rd w 50 (vv * 64 + (a + x)), hx64, e8] at l2
      have b57 := (l2 (by omega)).2
      have next : ∀ B1 : Nat, B1 < 67108864 → er_mb H M r B1 = some B' → ec_E hb_X n 84 152 [(0, .inr (.inl 108)), (1, .inl (vv : Int)), (2, .inl (l : Int)), (3, .inr (.inl 93)), (4, .inl (i : Int)), (5, .inl m), (6, .inl (B1 : Int)), (7, .inl ((a + st.length : Nat) : Int)), (8, .inl ((a + x : Nat) : Int))] [] w (v, w1) → (v, w1) = (ec_R (if B' % 2 = 1 then 1 else 0), w) ∧ ec_W hb_A w := by
        intro B1 hB1 hm1 h152
        refine ih (x + 1) B1 B' (by omega) (fun y hy' => ?_) (fun z' hz' => hz z' (List.mem_cons_of_mem _ hz')) hB1 hm1 (eg84_44_152_0 h152).2
        have := hy (y + 1) (by omega)
        have ex : x + 1 + y = x + (y + 1) := by omega
        rw [ex]
        exact this
      have k0 := eg84_44_57_0 b57
      have k1 := eg84_44_57_1 b57
      have k2 := eg84_44_57_2 b57
      have k3 := eg84_44_57_3 b57
      rw [t8, t4] at k0 k1 k2 k3
      rw [t5] at k0 k1 k2
      rw [t6] at k0 k1
      have m1 : B % 2 * (B / 2 % 2) ≤ 1 := by
        rcases em_b2 B with c | c <;> rcases em_b2 (B / 2) with d | d <;> rw [c, d] <;> decide
      by_cases c4 : z % 8 = 4
      · rw [if_pos c4] at hmb'
        have b152 := (k3 c4).2
        rw [em_sAnd hB2] at b152
        exact next _ (by omega) hmb' b152
      · rw [if_neg c4] at hmb'
        by_cases c5 : z % 8 = 5
        · rw [if_pos c5] at hmb'
          have b152 := (k2 c4 c5).2
          rw [em_sOr hB2] at b152
          exact next _ (by omega) hmb' b152
        · rw [if_neg c5] at hmb'
          by_cases c6 : z % 8 = 6
          · rw [if_pos c6] at hmb'
            have b152 := (k1 c4 c5 c6).2
            rw [em_sNot hB2] at b152
            exact next _ (by omega) hmb' b152
          · rw [if_neg c6] at hmb'
            obtain ⟨_, u, y, a1, a2⟩ := k0 c4 c5 c6
            have z7 := hz0.2.2
            have hz7 : z % 8 < 4 := by omega
            obtain ⟨iy, W, e⟩ := ew_tst ⟨hz0.1, hz0.2.1⟩ hz7 hK a1
            rw [← iy] at a2 W
            have b141 := a2 _ e W
            obtain ⟨s0, s1⟩ := em_sT hB2
            by_cases T : er_T H M z = true
            · rw [if_pos T] at b141 hmb'
              have b152 := (eg84_44_141_1 b141 (by decide)).2
              rw [s1] at b152
              exact next _ (by omega) hmb' b152
            · rw [if_neg T] at b141 hmb'
              have b152 := (eg84_44_141_0 b141 rfl).2
              rw [s0] at b152
              exact next _ (by omega) hmb' b152
  have l0 := eg84_44_0_0 h
  have ep : (vv : Int) * 8 + (l : Int) = ((vv * 8 + l : Nat) : Int) := by omega
  rw [ep, ec_twn (n := vv * 8 + l) (by omega), ef_rd w 49 (vv * 8 + l), ef_rd w 48 (vv * 8 + l), h48, h49] at l0
  have hm := hQ.2 0 0 (by decide) (by decide)
  obtain ⟨hr, hW⟩ := lp st 0 0 _ (by omega) (fun y _ => by rw [Nat.zero_add]) hQ.1 (by decide) hm l0.2
  injection hr with f1 f2
  rw [f2]
  refine ⟨rfl, hW, f1.trans ?_⟩
  cases b <;> rfl
end EM3

end
