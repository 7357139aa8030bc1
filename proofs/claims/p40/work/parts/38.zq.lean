noncomputable section
/-! RULES: the reference reads 'first' -/
/-- what may change while a TEXT is read -/
def er_f2 (w w' : px_W) : Prop := ef_s [151, 170, 171] w w' ∧ ∀ f, f < 26 ∨ (31 < f ∧ f < 35) ∨ f = 38 ∨ 39 < f → ec_fd w' 151 f = ec_fd w 151 f
theorem er_f2_r {w : px_W} : er_f2 w w := ⟨ef_s_refl, fun _ _ => rfl⟩
theorem er_f2_t {w w1 w2 : px_W} (h1 : er_f2 w w1) (h2 : er_f2 w1 w2) : er_f2 w w2 := ⟨ef_s_trans h1.1 h2.1, fun f a => (h2.2 f a).trans (h1.2 f a)⟩
theorem er_f2_of {w w' : px_W} (h : er_fr w w') : er_f2 w w' := ⟨ef_s_mono h.1 (by decide), fun f a => h.2 f (by omega) (by omega) (by omega) (by omega) (by omega) (by omega)⟩
theorem er_Z_2 {w w' : px_W} {t : Nat → Int} {N j k : Nat} {H : Bool} {M : Nat → Int} (h : er_Z w t N H M j) (hf : er_f2 w w') (ha : er_At w' t N (er_p t N k)) (h30 : ec_fd w' 151 30 = -1) : er_Z w' t N H M k := by
  obtain ⟨⟨h1, h2, h3, h4⟩, _, _⟩ := h
  refine ⟨⟨fun y hy => ?_, ⟨(hf.2 25 (by omega)).trans h2.1, ?_⟩, (hf.2 32 (by omega)).trans h3, fun q hq => ?_⟩, ha, h30⟩
  · rw [ef_s_a hf.1 (by decide)]
    exact h1 y hy
  · rcases h2.2 with ⟨a, b⟩ | ⟨f, a, b, d⟩
    · refine .inl ⟨by rw [hf.2 24 (by omega)]; exact a, ?_⟩
      rw [ef_s_a hf.1 (by decide)]
      exact b
    · refine .inr ⟨f, (hf.2 24 (by omega)).trans a, b, ?_⟩
      rw [ef_s_a hf.1 (by decide)]
      exact d
  · rw [ef_s_a hf.1 (by decide)]
    exact h4 q hq
/-- ranks as one number -/
def er_RK (w : px_W) (x : Int) : Prop := x = ef_a w 171 0 + 10 * ef_a w 171 1 + 100 * ef_a w 171 2 ∧ ∀ k, k < 3 → 0 ≤ ef_a w 171 k ∧ ef_a w 171 k ≤ 9
section ER11
variable {N : Nat} {t : Nat → Int} {H : Bool} {M : Nat → Int} {C V : Nat → Int}
theorem er_tk_k (hb : ∀ i, i < N → 0 ≤ t i ∧ t i ≤ 255) {i : Nat} : (er_tk t N i = 2 ∧ 13 ≤ er_tt t N i ∧ er_tt t N i ≤ 15) ↔ (330 ≤ er_co t N i ∧ er_co t N i ≤ 332) := by
  have w10 := er_tk_w (i := i) hb (k := 13) (by decide)
  have w11 := er_tk_w (i := i) hb (k := 14) (by decide)
  have w12 := er_tk_w (i := i) hb (k := 15) (by decide)
  have c10 : er_cc 13 = 330 := rfl
  have c11 : er_cc 14 = 331 := rfl
  have c12 : er_cc 15 = 332 := rfl
  rw [c10] at w10
  rw [c11] at w11
  rw [c12] at w12
  constructor
  · rintro ⟨h1, h2, h3⟩
    have q : er_tt t N i = 13 ∨ er_tt t N i = 14 ∨ er_tt t N i = 15 := by omega
    rcases q with q | q | q
    · have := w10.mp ⟨h1, q⟩
      omega
    · have := w11.mp ⟨h1, q⟩
      omega
    · have := w12.mp ⟨h1, q⟩
      omega
  · rintro ⟨h1, h2⟩
    have q : er_co t N i = 330 ∨ er_co t N i = 331 ∨ er_co t N i = 332 := by omega
    rcases q with q | q | q
    · have a := w10.mpr q
      exact ⟨a.1, by have := a.2; omega, by have := a.2; omega⟩
    · have a := w11.mpr q
      exact ⟨a.1, by have := a.2; omega, by have := a.2; omega⟩
    · have a := w12.mpr q
      exact ⟨a.1, by have := a.2; omega, by have := a.2; omega⟩
theorem er_tt_k (hb : ∀ i, i < N → 0 ≤ t i ∧ t i ≤ 255) {i : Nat} (h : 330 ≤ er_co t N i ∧ er_co t N i ≤ 332) : er_tt t N i = er_co t N i - 317 := by
  have q : er_co t N i = 330 ∨ er_co t N i = 331 ∨ er_co t N i = 332 := by omega
  rcases q with q | q | q
  · have a := (er_tk_w (i := i) hb (k := 13) (by decide)).mpr q
    have := a.2
    omega
  · have a := (er_tk_w (i := i) hb (k := 14) (by decide)).mpr q
    have := a.2
    omega
  · have a := (er_tk_w (i := i) hb (k := 15) (by decide)).mpr q
    have := a.2
    omega
/-- how many KINDS were had -/
def er_hd (had : Nat) : Nat := (if Nat.testBit had 0 = true then 1 else 0) + (if Nat.testBit had 1 = true then 1 else 0) + (if Nat.testBit had 2 = true then 1 else 0)
theorem er_hd_s : ∀ had : Nat, had < 8 → ∀ k : Nat, k < 3 → Nat.testBit had k = false → er_hd (had ||| 2 ^ k) = er_hd had + 1 ∧ had ||| 2 ^ k < 8 ∧ ∀ q : Nat, q < 3 → Nat.testBit (had ||| 2 ^ k) q = (Nat.testBit had q || decide (q = k)) := by decide +kernel
theorem ew_fi27 (hN : N ≤ 200) (hb : ∀ i, i < N → 0 ≤ t i ∧ t i ≤ 255) (hC : ∀ j, C j = er_co t N (er_p t N j)) : ∀ (f n pl had : Nat) (rk : Int) (j : Nat) (w w1 : px_W) (v : Option Value), f + pl = 4 → had < 8 → er_hd had = pl → er_Z w t N H M j → er_RK w rk → (∀ k, k < 3 → Nat.testBit had k = false → ef_a w 171 k = 9) → ec_E hb_X n 258 27 [(0, .inr (.inl 215)), (1, .inl (had : Int)), (2, .inl 1), (3, .inl (pl : Int))] [] w (v, w1) → v = none ∧ ec_W hb_A w1 ∧ er_f2 w w1 ∧ (∀ f, 31 ≤ f → ec_fd w1 151 f = ec_fd w 151 f) ∧ ef_a w1 170 = ef_a w 170 ∧ (match er_fi C f (pl : Int) had rk j with
    | (a, none) => ec_fd w1 151 30 = (er_p t N a : Int)
    | (a, some x) => er_Z w1 t N H M a ∧ er_RK w1 x) := by
  have t0 : ec_tw 0 = 0 := rfl
  have t1 : ec_tw 1 = 1 := rfl
  intro f
  induction f with
  | zero =>
    intro n pl had rk j w w1 v hf hh hp hZ hR h9 h
    exfalso
    unfold er_hd at hp
    split at hp <;> split at hp <;> split at hp <;> omega
  | succ f ih =>
    intro n pl had rk j w w1 v hf hh hp hZ hR h9 h
    have efi : er_fi C (f + 1) (pl : Int) had rk j = if (330 ≤ C j ∧ C j ≤ 332) ∧ Nat.testBit had (C j - 330).toNat = false then
      (if C (j + 1) = 313 then er_fi C f ((pl : Int) + 1) (had ||| 2 ^ (C j - 330).toNat) (rk - (9 - (pl : Int)) * (if C j = 330 then 1 else if C j = 331 then 10 else 100)) (j + 2) else (j + 1, some (rk - (9 - (pl : Int)) * (if C j = 330 then 1 else if C j = 331 then 10 else 100))))
      else (j, none) := rfl
    rw [efi]
    have cj := hC j
    obtain ⟨_, u, w2, a1, a2⟩ := eg258_151_27_1 h (by decide)
    obtain ⟨i2, W2, e2⟩ := ew_isw hZ (lo := 13) (hi := 15) rfl rfl a1
    rw [← i2] at a2 W2
    have iff := er_tk_k hb (i := er_p t N j)
    rw [← cj] at iff
    have b := a2 _ e2 W2
    have bad : ¬ ((330 ≤ C j ∧ C j ≤ 332) ∧ Nat.testBit had (C j - 330).toNat = false) → ec_E hb_X n 258 57 [(0, .inr (.inl 215)), (1, .inl (had : Int)), (2, .inl 1), (3, .inl (pl : Int))] [] w (v, w1) → v = none ∧ ec_W hb_A w1 ∧ er_f2 w w1 ∧ (∀ f, 31 ≤ f → ec_fd w1 151 f = ec_fd w 151 f) ∧ ef_a w1 170 = ef_a w 170 ∧ ec_fd w1 151 30 = (er_p t N j : Int) := by
      intro _ h57
      obtain ⟨_, u3, w3, a3, a4⟩ := eg258_151_57_0 h57
      obtain ⟨e3, W3, fr3, f30, f31⟩ := ew_wrg hZ.2.2 a3
      obtain ⟨_, hr, hW⟩ := eg258_151_61_0 (a4 e3 W3)
      injection hr with e4 e5
      rw [e5]
      refine ⟨e4, hW, er_f2_of fr3, fun f hf => ?_, ef_s_a fr3.1 (by decide), f30.trans hZ.2.1.1⟩
      by_cases q : f = 31
      · rw [q]
        exact f31
      · exact fr3.2 f (by omega) (by omega) (by omega) (by omega) (by omega) q
    by_cases qr : 330 ≤ C j ∧ C j ≤ 332
    · rw [if_pos (iff.mpr qr)] at b
      obtain ⟨k, hk⟩ : ∃ k, (C j - 330).toNat = k := ⟨_, rfl⟩
      have hk3 : k < 3 := by omega
      have g29 : ec_fd w 151 29 = C j - 317 := by
        rw [hZ.2.1.2.2.2 (.inl (iff.mpr qr).1), er_tt_k hb (by rw [← cj]; exact qr), ← cj]
      have ev : C j - 317 - 13 = (k : Int) := by omega
      have l1 := eg258_151_39_1 b
      have l2 := eg258_151_39_2 b
      rw [g29, ev, ec_bitT (by omega) (by omega), t1] at l1 l2
      rw [hk]
      by_cases qh : Nat.testBit had k = false
      · rw [if_pos ⟨qr, qh⟩]
        have nh : ¬ Nat.testBit had k = true := by
          rw [qh]
          decide
        obtain ⟨hs1, hs2, hs3⟩ := er_hd_s had hh k hk3 qh
        rw [ec_twn (n := k) (by omega), ec_shl1 k (by omega), ec_orN (by omega) (by have : 2 ^ k ≤ 2 ^ 3 := Nat.pow_le_pow_right (by decide) (by omega); have : (2 : Nat) ^ 3 = 8 := rfl; omega)] at l1
        obtain ⟨_, u3, w3, a3, a4⟩ := l1 (by decide) (by rw [if_neg nh]; decide)
        have Wa : ec_W hb_A (ec_wr w 171 (k : Int) (pl : Int)) := ec_W_wr W2
        have pl3 : pl ≤ 3 := by omega
        have r171 : ∀ q, ef_a (ec_wr w 171 (k : Int) (pl : Int)) 171 q = if q = k then (pl : Int) else ef_a w 171 q := by
          intro q
          rw [ef_a_wr (n := 3) W2 rfl (by omega) (by omega), ec_twn (n := pl) (by omega)]
          unfold ef_u
          rw [Int.toNat_natCast]
        have f2a : er_f2 w (ec_wr w 171 (k : Int) (pl : Int)) := ⟨ef_s_wr (by decide), fun f _ => ec_fd_wr_o (by decide)⟩
        have Za : er_Z (ec_wr w 171 (k : Int) (pl : Int)) t N H M j := er_Z_2 hZ f2a (er_At_s hZ.2.1 (ec_fd_wr_o (by decide)) (ec_fd_wr_o (by decide)) (ec_fd_wr_o (by decide)) (ec_fd_wr_o (by decide))) ((ec_fd_wr_o (by decide)).trans hZ.2.2)
        have R9 := h9 k hk3 qh
        obtain ⟨x, hx⟩ : ∃ x, rk - (9 - (pl : Int)) * (if C j = 330 then 1 else if C j = 331 then 10 else 100) = x := ⟨_, rfl⟩
        have RKa : er_RK (ec_wr w 171 (k : Int) (pl : Int)) x := by
          refine ⟨?_, fun q hq => ?_⟩
          · rw [r171 0, r171 1, r171 2, ← hx, hR.1]
            have q3 : k = 0 ∨ k = 1 ∨ k = 2 := by omega
            rcases q3 with e | e | e
            · rw [e] at R9
              rw [if_pos (show C j = 330 by omega), if_pos (show 0 = k by omega), if_neg (show ¬ 1 = k by omega), if_neg (show ¬ 2 = k by omega), R9]
              omega
            · rw [e] at R9
              rw [if_neg (show ¬ C j = 330 by omega), if_pos (show C j = 331 by omega), if_neg (show ¬ 0 = k by omega), if_pos (show 1 = k by omega), if_neg (show ¬ 2 = k by omega), R9]
              omega
            · rw [e] at R9
              rw [if_neg (show ¬ C j = 330 by omega), if_neg (show ¬ C j = 331 by omega), if_neg (show ¬ 0 = k by omega), if_neg (show ¬ 1 = k by omega), if_pos (show 2 = k by omega), R9]
              omega
          · rw [r171 q]
            by_cases e : q = k
            · rw [if_pos e]
              omega
            · rw [if_neg e]
              exact hR.2 q hq
        rw [hx]
        obtain ⟨e3, W3, fr3, Z3, f313⟩ := ew_nxt hN hb Za (by rw [← cj]; omega) a3
        obtain ⟨_, u4, w4, a5, a6⟩ := eg258_151_90_0 (a4 e3 W3)
        obtain ⟨i4, W4, e4⟩ := ew_isw1 (k := 4) hb (by decide) Z3 a5
        rw [← i4] at a6 W4
        have c4 : er_cc 4 = 313 := rfl
        rw [c4, ← hC (j + 1)] at e4
        have b4 := a6 _ e4 W4
        have RK3 : ∀ w', ef_s [151] w3 w' → er_RK w' x ∧ (∀ q, q < 3 → Nat.testBit (had ||| 2 ^ k) q = false → ef_a w' 171 q = 9) := by
          intro w' s
          have e171 : ef_a w' 171 = ef_a (ec_wr w 171 (k : Int) (pl : Int)) 171 := (ef_s_a s (by decide)).trans (ef_s_a fr3.1 (by decide))
          unfold er_RK
          rw [e171]
          refine ⟨RKa, fun q hq hq2 => ?_⟩
          rw [hs3 q hq] at hq2
          have hq3 : Nat.testBit had q = false ∧ ¬ q = k := by
            cases e : Nat.testBit had q with
            | true =>
              rw [e] at hq2
              cases hq2
            | false =>
              rw [e] at hq2
              exact ⟨rfl, fun z => by
                rw [decide_eq_true z] at hq2
                cases hq2⟩
          rw [r171 q, if_neg hq3.2]
          exact h9 q hq hq3.1
        have fr3o : ∀ f, 31 ≤ f → ec_fd w3 151 f = ec_fd w 151 f := fun f hf => by
          by_cases q : f = 31
          · rw [q, f313, ec_fd_wr_o (by decide)]
          · rw [fr3.2 f (by omega) (by omega) (by omega) (by omega) (by omega) q, ec_fd_wr_o (by decide)]
        have e1703 : ef_a w3 170 = ef_a w 170 := (ef_s_a fr3.1 (by decide)).trans (ef_a_wr_o (by decide))
        by_cases qt : C (j + 1) = 313
        · rw [if_pos qt] at b4 ⊢
          obtain ⟨_, u5, w5, a7, a8⟩ := eg258_151_96_1 b4 (by decide)
          obtain ⟨e5, W5, fr5, Z5, f315⟩ := ew_nxt hN hb Z3 (by rw [← hC (j + 1), qt]; decide) a7
          have h27 := (eg258_151_105b_0 (a8 e5 W5)).2
          obtain ⟨rk5, n5⟩ := RK3 w5 fr5.1
          obtain ⟨y1, y2, y3, y4, y5, y6⟩ := ih n (pl + 1) (had ||| 2 ^ k) x (j + 2) w5 w1 v (by omega) hs2 (by rw [hs1, hp]) Z5 rk5 n5 h27
          refine ⟨y1, y2, er_f2_t f2a (er_f2_t (er_f2_of fr3) (er_f2_t (er_f2_of fr5) y3)), fun f hf => ?_, y5.trans ((ef_s_a fr5.1 (by decide)).trans e1703), y6⟩
          rw [y4 f hf]
          by_cases q : f = 31
          · rw [q, f315]
            exact fr3o 31 (by omega)
          · rw [fr5.2 f (by omega) (by omega) (by omega) (by omega) (by omega) q]
            exact fr3o f hf
        · rw [if_neg qt] at b4 ⊢
          obtain ⟨_, hr, hW⟩ := eg258_151_27_0 (eg258_151_105_0 (eg258_151_96_0 b4 rfl).2).2 rfl
          injection hr with e5 e6
          rw [e6]
          exact ⟨e5, hW, er_f2_t f2a (er_f2_of fr3), fr3o, e1703, Z3, (RK3 w3 ef_s_refl).1⟩
      · have th : Nat.testBit had k = true := by
          cases e : Nat.testBit had k with
          | true => rfl
          | false => exact absurd e qh
        rw [if_neg (fun x => qh x.2)]
        exact bad (by rw [hk]; exact fun x => qh x.2) (l2 (by decide) (by rw [if_pos th])).2
    · rw [if_neg (fun x => qr (iff.mp x))] at b
      rw [if_neg (fun x => qr x.1)]
      exact bad (fun x => qr x.1) (eg258_151_39_0 b rfl).2
theorem ew_fst {n j : Nat} {w w1 : px_W} {v : Option Value} (hN : N ≤ 200) (hb : ∀ i, i < N → 0 ≤ t i ∧ t i ≤ 255) (hC : ∀ j, C j = er_co t N (er_p t N j)) (hZ : er_Z w t N H M j) (h : ec_E hb_X n 258 0 [(0, .inr (.inl 215))] [] w (v, w1)) : v = none ∧ ec_W hb_A w1 ∧ er_f2 w w1 ∧ (∀ f, 31 ≤ f → ec_fd w1 151 f = ec_fd w 151 f) ∧ ef_a w1 170 = ef_a w 170 ∧ (match er_fi C 4 0 0 999 j with
    | (a, none) => ec_fd w1 151 30 = (er_p t N a : Int)
    | (a, some x) => er_Z w1 t N H M a ∧ er_RK w1 x) := by
  have t3 : ec_tw 3 = 3 := rfl
  have lp : ∀ (k n i : Nat) (y : px_W), i + k = 3 → ec_W hb_A y → ef_s [171] w y → (∀ q, q < i → ef_a y 171 q = 9) → ec_E hb_X n 258 4 [(0, .inr (.inl 215)), (1, .inl 0), (2, .inl (i : Int))] [] y (v, w1) → ∃ y' : px_W, ec_W hb_A y' ∧ ef_s [171] w y' ∧ (∀ q, q < 3 → ef_a y' 171 q = 9) ∧ ec_E hb_X n 258 27 [(0, .inr (.inl 215)), (1, .inl 0), (2, .inl 1), (3, .inl 0)] [] y' (v, w1) := by
    intro k
    induction k with
    | zero =>
      intro n i y hi hW s h9 h
      have l := eg258_151_4_0 h
      rw [ec_twn (n := i) (by omega), t3] at l
      exact ⟨y, hW, s, fun q hq => h9 q (by omega), (l (by omega)).2⟩
    | succ k ih =>
      intro n i y hi hW s h9 h
      have l := eg258_151_4_1 h
      rw [ec_twn (n := i) (by omega), t3] at l
      refine ih n (i + 1) _ (by omega) (ec_W_wr hW) (ef_s_trans s (ef_s_wr List.mem_cons_self)) (fun q hq => ?_) (l (by omega)).2
      have t9 : ec_tw 9 = 9 := rfl
      rw [ef_a_wr (n := 3) hW rfl (by omega) (by omega), t9]
      unfold ef_u
      rw [Int.toNat_natCast]
      by_cases e : q = i
      · rw [if_pos e]
      · rw [if_neg e]
        exact h9 q (by omega)
  obtain ⟨y, Wy, s, h9, h27⟩ := lp 3 n 0 w (by omega) h.1 ef_s_refl (fun q hq => absurd hq (Nat.not_lt_zero _)) (eg258_151_0_0 h).2
  have Fo : ∀ f, ec_fd y 151 f = ec_fd w 151 f := fun f => ef_s_f s (by decide) f
  have f2 : er_f2 w y := ⟨ef_s_mono s (by decide), fun f _ => Fo f⟩
  have Zy : er_Z y t N H M j := er_Z_2 hZ f2 (er_At_s hZ.2.1 (Fo 26) (Fo 27) (Fo 28) (Fo 29)) ((Fo 30).trans hZ.2.2)
  have R : er_RK y 999 := by
    refine ⟨?_, fun q hq => ?_⟩
    · rw [h9 0 (by decide), h9 1 (by decide), h9 2 (by decide)]
      rfl
    · rw [h9 q hq]
      decide
  obtain ⟨y1, y2, y3, y4, y5, y6⟩ := ew_fi27 hN hb hC 4 n 0 0 999 j y w1 v (by omega) (by decide) rfl Zy R (fun k hk _ => h9 k hk) h27
  exact ⟨y1, y2, er_f2_t f2 y3, fun f hf => (y4 f hf).trans (Fo f), y5.trans (ef_s_a s (by decide)), y6⟩
end ER11

end
