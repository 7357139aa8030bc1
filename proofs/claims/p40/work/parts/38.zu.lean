noncomputable section
/-! RULES: the class reads 'first', and a TEXT -/
/-- a LINE of ranks, behind its KINDS -/
def er_fl (C : Nat → Int) (r : Nat × Option Int) : Nat × Option er_L := match r with
  | (a, none) => (a, none)
  | (a, some x) => if C a = 59 then (a + 1, some (1, x, 0, [], false)) else (a, none)
section ER15
variable {C V : Nat → Int} {P : Nat → Nat} {J c : Nat} {H : Bool} {M : Nat → Int}
theorem ew_rf19 (hJ2 : J ≤ 200) (hJ : C J = 300) (hc6 : c ≤ 6) (hCr : ∀ j, 0 ≤ C j ∧ C j ≤ 400) {L : List Int} {ls : List er_L} (hl : ls.length < 8) : ∀ (f n pl had : Nat) (rk : Int) (j : Nat) (w w1 : px_W) (v : Option Value), f + pl = 4 → had < 8 → er_hd had = pl → 999 - 900 * (pl : Int) ≤ rk ∧ rk ≤ 999 → er_K w C V P J c L j → er_KL w c ls → ec_E hb_X n 65 19 [(0, .inr (.inl 201)), (1, .inr (.inl 108)), (2, .inl (had : Int)), (3, .inl rk), (4, .inl (pl : Int))] [] w (v, w1) → v = none ∧ ec_W hb_A w1 ∧ er_k2 c w w1 ∧ (match er_fl C (er_fi C f (pl : Int) had rk j) with
    | (a, none) => ec_fd w1 137 7 = (P a : Int)
    | (a, some q) => er_K w1 C V P J c (L ++ q.2.2.2.1) a ∧ er_KL w1 c (ls ++ [q])) := by
  have t0 : ec_tw 0 = 0 := rfl
  have t1 : ec_tw 1 = 1 := rfl
  have t2 : ec_tw 2 = 2 := rfl
  have t3 : ec_tw 3 = 3 := rfl
  have t313 : ec_tw 313 = 313 := rfl
  intro f
  induction f with
  | zero =>
    intro n pl had rk j w w1 v hf hh hp hr hK hS h
    exfalso
    unfold er_hd at hp
    split at hp <;> split at hp <;> split at hp <;> omega
  | succ f ih =>
    intro n pl had rk j w w1 v hf hh hp hr hK hS h
    have efi : er_fi C (f + 1) (pl : Int) had rk j = if (330 ≤ C j ∧ C j ≤ 332) ∧ Nat.testBit had (C j - 330).toNat = false then
      (if C (j + 1) = 313 then er_fi C f ((pl : Int) + 1) (had ||| 2 ^ (C j - 330).toNat) (rk - (9 - (pl : Int)) * (if C j = 330 then 1 else if C j = 331 then 10 else 100)) (j + 2) else (j + 1, some (rk - (9 - (pl : Int)) * (if C j = 330 then 1 else if C j = 331 then 10 else 100))))
      else (j, none) := rfl
    rw [efi]
    have cj := hCr j
    have pl3 : pl ≤ 3 := by omega
    obtain ⟨a1, _, _, a4, _, _⟩ := er_K_at hJ2 hK
    have l := eg65_137_19_1 h
    rw [ec_twn (n := pl) (by omega), t3, a1] at l
    obtain ⟨_, u, w2, b1, b2⟩ := l (by omega)
    obtain ⟨e2, W2⟩ := ew_within b1
    have tx : ec_tw (C j - 330) = C j - 330 := ec_tw_id (by omega) (by omega)
    rw [tx, t0, t2] at e2
    injection e2 with e2 i2
    rw [i2] at b2
    have b3 := b2 _ e2 W2
    have bad : ec_E hb_X n 65 60 [(0, .inr (.inl 201)), (1, .inr (.inl 108)), (2, .inl (had : Int)), (3, .inl rk), (4, .inl (pl : Int))] [] w (v, w1) → v = none ∧ ec_W hb_A w1 ∧ er_k2 c w w1 ∧ ec_fd w1 137 7 = (P j : Int) := by
      intro h60
      obtain ⟨_, u3, w3, c1, c2⟩ := eg65_137_60_0 h60
      obtain ⟨e3, W3, kf3, h7⟩ := ew_fh hJ2 hK c1
      obtain ⟨_, hr, hW⟩ := eg65_137_64_0 (c2 _ e3 W3)
      injection hr with f1 f2
      rw [f2]
      exact ⟨f1, hW, er_k2_of kf3, h7⟩
    by_cases qr : 330 ≤ C j ∧ C j ≤ 332
    · rw [if_pos (by omega)] at b3
      obtain ⟨k, hk⟩ : ∃ k, (C j - 330).toNat = k := ⟨_, rfl⟩
      have hk3 : k < 3 := by omega
      have ev : C j - 330 = (k : Int) := by omega
      rw [ev] at b3
      rw [hk]
      have tk : ec_tw (k : Int) = k := ec_twn (by omega)
      by_cases qh : Nat.testBit had k = false
      · rw [if_pos ⟨qr, qh⟩]
        have nh : ¬ Nat.testBit had k = true := by
          rw [qh]
          decide
        obtain ⟨hs1, hs2, _⟩ := er_hd_s had hh k hk3 qh
        obtain ⟨Wa, kfa, Ka⟩ := ew_adv hJ2 hJ W2 hK (by omega)
        obtain ⟨d, hd⟩ : ∃ d, (if C j = 330 then (1 : Int) else if C j = 331 then 10 else 100) = d := ⟨_, rfl⟩
        have h105 : ec_E hb_X n 65 105 [(0, .inr (.inl 201)), (1, .inr (.inl 108)), (2, .inl ((had ||| 2 ^ k : Nat) : Int)), (3, .inl rk), (4, .inl (pl : Int)), (5, .inl (k : Int))] [.inl d] (ec_pf w 137 6 (ec_fd w 137 6 + 1)) (v, w1) := by
          have k1 := eg65_137_47_1 b3
          have k2 := eg65_137_47_2 b3
          have k3 := eg65_137_47_3 b3
          have p3 : 2 ^ k ≤ 8 := by
            have : 2 ^ k ≤ 2 ^ 3 := Nat.pow_le_pow_right (by decide) (by omega)
            have e3 : (2 : Nat) ^ 3 = 8 := rfl
            omega
          rw [ec_bitT (by omega) (by omega), t1, tk, t0, ec_shl1 k (by omega), ec_orN (by omega) (by omega)] at k1 k2 k3
          rw [if_neg nh] at k1 k2 k3
          have q3 : k = 0 ∨ k = 1 ∨ k = 2 := by omega
          rcases q3 with e | e | e
          · have ed : d = 1 := by rw [← hd, if_pos (by omega)]
            rw [ed]
            exact (k3 (by decide) (by decide) (by omega)).2
          · have ed : d = 10 := by rw [← hd, if_neg (by omega), if_pos (by omega)]
            rw [ed]
            exact (k2 (by decide) (by decide) (by omega) (by omega)).2
          · have ed : d = 100 := by rw [← hd, if_neg (by omega), if_neg (by omega)]
            rw [ed]
            exact (k1 (by decide) (by decide) (by omega) (by omega)).2
        rw [hd]
        have din : 1 ≤ d ∧ d ≤ 100 := by
          rw [← hd]
          split
          · decide
          · split <;> decide
        obtain ⟨x, hx⟩ : ∃ x, rk - (9 - (pl : Int)) * d = x := ⟨_, rfl⟩
        have xin : 999 - 900 * ((pl + 1 : Nat) : Int) ≤ x ∧ x ≤ 999 := by
          have m1 : 0 ≤ (9 - (pl : Int)) * d := Int.mul_nonneg (by omega) (by omega)
          have m2 : (9 - (pl : Int)) * d ≤ 9 * 100 := Int.mul_le_mul (by omega) din.2 (by omega) (by omega)
          omega
        rw [hx]
        obtain ⟨c1, _, _, c4, _, _⟩ := er_K_at hJ2 Ka
        have k4 := eg65_137_105_0 h105
        have k5 := eg65_137_105_1 h105
        rw [c1, c4, t313, hx] at k4 k5
        by_cases qt : C (j + 1) = 313
        · rw [if_pos qt]
          obtain ⟨Wb, kfb, Kb⟩ := ew_adv hJ2 hJ Wa Ka (by rw [qt]; decide)
          have kab : er_kf c w (ec_pf (ec_pf w 137 6 (ec_fd w 137 6 + 1)) 137 6 (ec_fd (ec_pf w 137 6 (ec_fd w 137 6 + 1)) 137 6 + 1)) := er_kf_t kfa kfb
          obtain ⟨y1, y2, y3, y4⟩ := ih n (pl + 1) (had ||| 2 ^ k) x (j + 2) _ w1 v (by omega) hs2 (by rw [hs1, hp]) xin Kb (er_KL_s hS kab.1) (k4 qt).2
          exact ⟨y1, y2, er_k2_t (er_k2_of kab) y3, y4⟩
        · rw [if_neg qt]
          obtain ⟨_, u5, w5, d1, d2⟩ := eg65_137_152_0 (k5 qt).2
          obtain ⟨z5, e5, W5, kf5, ty, tn⟩ := ew_tkn hJ2 hJ Ka (x := 59) rfl (by decide) d1
          have b5 := d2 _ e5 W5
          have k5' : er_kf c w w5 := er_kf_t kfa kf5
          have efl : er_fl C (j + 1, some x) = if C (j + 1) = 59 then (j + 1 + 1, some (1, x, 0, [], false)) else (j + 1, none) := rfl
          rw [efl]
          by_cases q4 : C (j + 1) = 59
          · rw [if_pos q4]
            obtain ⟨ez, K5⟩ := ty q4
            rw [ez] at b5
            obtain ⟨_, u6, w6, f1, f2⟩ := eg65_137_158_1 b5 (by decide)
            obtain ⟨e6, W6, k6, K6, S6⟩ := ew_aln (q := (1, x, 0, [], false)) hc6 hl K5 (er_KL_s hS k5'.1) rfl (ec_tw_id (a := x) (by omega) (by omega)) rfl f1
            obtain ⟨_, hr', hW⟩ := eg65_137_168_0 (f2 e6 W6)
            injection hr' with g1 g2
            rw [g2]
            refine ⟨g1, hW, er_k2_t (er_k2_of k5') k6, ?_, S6⟩
            rw [List.append_nil]
            exact K6
          · rw [if_neg q4]
            obtain ⟨ez, h7⟩ := tn q4
            rw [ez] at b5
            obtain ⟨_, hr', hW⟩ := eg65_137_158_0 b5 rfl
            injection hr' with g1 g2
            rw [g2]
            exact ⟨g1, hW, er_k2_of k5', h7⟩
      · have th : Nat.testBit had k = true := by
          cases e : Nat.testBit had k with
          | true => rfl
          | false => exact absurd e qh
        rw [if_neg (fun x => qh x.2)]
        have k4 := eg65_137_47_4 b3
        rw [ec_bitT (by omega) (by omega), t1, if_pos th] at k4
        exact bad (k4 (by decide) rfl).2
    · rw [if_neg (by omega)] at b3
      rw [if_neg (fun x => qr x.1)]
      exact bad (eg65_137_47_0 b3 rfl).2
theorem ew_rfst {n j n0 : Nat} {L : List Int} {ls : List er_L} {w w1 : px_W} {v : Option Value} (hJ2 : J ≤ 200) (hJ : C J = 300) (hc6 : c ≤ 6) (hCr : ∀ j, 0 ≤ C j ∧ C j ≤ 400) (hs : C j = 312) (hl : ls.length < 8) (hK : er_K w C V P J c L j) (hS : er_KL w c ls) (h : ec_E hb_X n 65 0 [(0, .inr (.inl 201)), (1, .inr (.inl 108))] [] w (v, w1)) : v = none ∧ ec_W hb_A w1 ∧ er_k2 c w w1 ∧ (match er_li C V H M n0 j with
    | (a, none) => ec_fd w1 137 7 = (P a : Int)
    | (a, some q) => er_K w1 C V P J c (L ++ q.2.2.2.1) a ∧ er_KL w1 c (ls ++ [q])) := by
  have eli : er_li C V H M n0 j = er_fl C (er_fi C 4 ((0 : Nat) : Int) 0 999 (j + 1)) := by
    unfold er_li
    rw [if_neg (by omega), if_pos hs]
    rfl
  rw [eli]
  obtain ⟨Wa, kfa, Ka⟩ := ew_adv hJ2 hJ h.1 hK (by rw [hs]; decide)
  obtain ⟨y1, y2, y3, y4⟩ := ew_rf19 hJ2 hJ hc6 hCr hl 4 n 0 0 999 (j + 1) _ w1 v (by omega) (by decide) rfl (by omega) Ka (er_KL_s hS kfa.1) (eg65_137_0_0 h).2
  exact ⟨y1, y2, er_k2_t (er_k2_of kfa) y3, y4⟩
theorem ew_ri25 (hJ2 : J ≤ 200) (hJ : C J = 300) (hc6 : c ≤ 6) (hCr : ∀ j, 0 ≤ C j ∧ C j ≤ 400) (hVr : ∀ j, -100000 ≤ V j ∧ V j ≤ 100000) (hP : ∀ j, P j ≤ 200) : ∀ (f n j : Nat) (ls : List er_L) (L : List Int) (w w1 : px_W) (v : Option Value), f + ls.length = 8 → er_K w C V P J c L j → er_KL w c ls → ec_E hb_X n 53 25 [(0, .inr (.inl 201)), (1, .inr (.inl 108)), (2, .inl (ls.length : Int))] [] w (v, w1) → ec_W hb_A w1 ∧ er_k2 c w w1 ∧ (match er_rd C V H M f j ls L with
    | (a, none) => v = ec_R (P a : Int)
    | (_, some q) => v = ec_R (-1) ∧ er_KL w1 c q.1 ∧ er_Cs w1 c q.2) := by
  have t8 : ec_tw 8 = 8 := rfl
  have t300 : ec_tw 300 = 300 := rfl
  have u310 : ec_tw 310 = 310 := rfl
  have u312 : ec_tw 312 = 312 := rfl
  have u314 : ec_tw 314 = 314 := rfl
  have tm : ec_tw (-1) = -1 := rfl
  -- behind a FAULT it ends, whatever the round
  have flt : ∀ (n a i : Nat) (w y w1 : px_W) (v : Option Value), i ≤ 9 → er_k2 c w y → ec_fd y 137 7 = (P a : Int) → ec_E hb_X n 53 25 [(0, .inr (.inl 201)), (1, .inr (.inl 108)), (2, .inl (i : Int))] [] y (v, w1) → ec_W hb_A w1 ∧ er_k2 c w w1 ∧ v = ec_R (P a : Int) := by
    intro n a i w y w1 v hi hk h7 h
    have pa := hP a
    have k0 := eg53_137_25_0 h
    have k1 := eg53_137_25_1 h
    have k2 := eg53_137_25_2 h
    rw [h7, ec_twn (n := i) (by omega), t8] at k0 k1 k2
    rw [ec_twn (n := P a) (by omega), tm] at k2
    have fin : (v, w1) = (ec_R (P a : Int), y) → ec_W hb_A y → ec_W hb_A w1 ∧ er_k2 c w w1 ∧ v = ec_R (P a : Int) := by
      intro hr hW
      injection hr with f1 f2
      rw [f2]
      exact ⟨hW, hk, f1⟩
    by_cases q : 8 < (i : Int)
    · obtain ⟨_, hr, hW⟩ := k0 q
      exact fin hr hW
    · by_cases q2 : ec_tw (ec_rd y 139 (ec_tw (ec_fd y 137 6))) = ec_tw 300
      · obtain ⟨_, hr, hW⟩ := k1 (by omega) q2
        exact fin hr hW
      · obtain ⟨_, hr, hW⟩ := k2 (by omega) q2 (by omega)
        exact fin hr hW
  have here : ∀ (n j i : Nat) (s0 : Int) (L : List Int) (w w1 : px_W) (v : Option Value), i ≤ 8 → ec_tw s0 ≠ 310 → ec_tw s0 ≠ 312 → ec_tw s0 ≠ 314 → er_K w C V P J c L j → ec_E hb_X n 53 75 [(0, .inr (.inl 201)), (1, .inr (.inl 108)), (2, .inl (i : Int))] [.inl s0] w (v, w1) → ec_W hb_A w1 ∧ er_k2 c w w1 ∧ v = ec_R (P j : Int) := by
    intro n j i s0 L w w1 v hi n1 n2 n3 hK h
    obtain ⟨_, u2, w2, a1, a2⟩ := eg53_137_75_0 h (by rw [u310]; exact n1) (by rw [u312]; exact n2) (by rw [u314]; exact n3)
    obtain ⟨e2, W2, kf2, h7⟩ := ew_fh hJ2 hK a1
    have h25 := (eg53_137_126_0 (eg53_137_125_0 (a2 _ e2 W2)).2).2
    exact flt n j (i + 1) w w2 w1 v (by omega) (er_k2_of kf2) h7 h25
  intro f
  induction f with
  | zero =>
    intro n j ls L w w1 v hf hK hS h
    have erd : er_rd C V H M 0 j ls L = if C j = 300 then (j, some (ls, L)) else (j, none) := rfl
    rw [erd]
    obtain ⟨a1, _, _, a4, _, _⟩ := er_K_at hJ2 hK
    have h7 := hK.2.2.2.1
    have k1 := eg53_137_25_1 h
    have k3 := eg53_137_25_3 h
    rw [ec_twn (n := ls.length) (by omega), t8, a1, a4, t300] at k1 k3
    rw [h7] at k1 k3
    by_cases q : C j = 300
    · rw [if_pos q]
      obtain ⟨_, hr, hW⟩ := k1 (by omega) q
      injection hr with f1 f2
      rw [f2]
      exact ⟨hW, er_k2_r, f1, hS, hK.2.2.2.2⟩
    · rw [if_neg q]
      have h75 := (k3 (by omega) q rfl (by omega)).2
      exact here n j ls.length 302 L w w1 v (by omega) (by decide) (by decide) (by decide) hK h75
  | succ f ih =>
    intro n j ls L w w1 v hf hK hS h
    have erd : er_rd C V H M (f + 1) j ls L = if C j = 300 then (j, some (ls, L)) else (match er_li C V H M L.length j with
      | (a, none) => (a, none)
      | (a, some q) => er_rd C V H M f a (ls ++ [q]) (L ++ q.2.2.2.1)) := rfl
    rw [erd]
    obtain ⟨a1, _, _, a4, _, _⟩ := er_K_at hJ2 hK
    have h7 := hK.2.2.2.1
    have k1 := eg53_137_25_1 h
    have k4 := eg53_137_25_4 h
    rw [ec_twn (n := ls.length) (by omega), t8, a1, a4, t300] at k1 k4
    rw [h7] at k1 k4
    by_cases q : C j = 300
    · rw [if_pos q]
      obtain ⟨_, hr, hW⟩ := k1 (by omega) q
      injection hr with f1 f2
      rw [f2]
      exact ⟨hW, er_k2_r, f1, hS, hK.2.2.2.2⟩
    · rw [if_neg q]
      have h75 := (k4 (by omega) q rfl (by omega)).2
      have ll : ∀ s : er_L, (ls ++ [s]).length = ls.length + 1 := fun s => by
        rw [List.length_append]
        rfl
      -- behind a line
      have go : ∀ (w2 : px_W), er_k2 c w w2 → (match er_li C V H M L.length j with
          | (a, none) => ec_fd w2 137 7 = (P a : Int)
          | (a, some q) => er_K w2 C V P J c (L ++ q.2.2.2.1) a ∧ er_KL w2 c (ls ++ [q])) → ec_E hb_X n 53 25 [(0, .inr (.inl 201)), (1, .inr (.inl 108)), (2, .inl ((ls.length : Int) + 1))] [] w2 (v, w1) → ec_W hb_A w1 ∧ er_k2 c w w1 ∧ (match (match er_li C V H M L.length j with
          | (a, none) => (a, none)
          | (a, some q) => er_rd C V H M f a (ls ++ [q]) (L ++ q.2.2.2.1)) with
          | (a, none) => v = ec_R (P a : Int)
          | (_, some q) => v = ec_R (-1) ∧ er_KL w1 c q.1 ∧ er_Cs w1 c q.2) := by
        intro w2 k2 m2 h25
        cases e : er_li C V H M L.length j with
        | mk a s =>
          rw [e] at m2
          cases s with
          | none => exact flt n a (ls.length + 1) w w2 w1 v (by omega) k2 m2 h25
          | some s =>
            obtain ⟨K2, S2⟩ : er_K w2 C V P J c (L ++ s.2.2.2.1) a ∧ er_KL w2 c (ls ++ [s]) := m2
            have es : (ls.length : Int) + 1 = ((ls ++ [s]).length : Int) := by
              rw [ll s]
              rfl
            rw [es] at h25
            obtain ⟨y1, y2, y3⟩ := ih n a (ls ++ [s]) (L ++ s.2.2.2.1) w2 w1 v (by rw [ll s]; omega) K2 S2 h25
            exact ⟨y1, er_k2_t k2 y2, y3⟩
      by_cases p0 : C j = 310
      · obtain ⟨_, u2, w2, b1, b2⟩ := eg53_137_75_3 h75 (by rw [a4, u310]; exact p0)
        obtain ⟨e2, W2, k2, m2⟩ := ew_rse (H := H) (M := M) (n0 := L.length) hJ2 hJ hc6 hVr p0 (by omega) hK hS b1
        exact go w2 k2 m2 (eg53_137_126_0 (eg53_137_88_0 (b2 e2 W2)).2).2
      · by_cases p1 : C j = 312
        · obtain ⟨_, u2, w2, b1, b2⟩ := eg53_137_75_2 h75 (by rw [a4, u310]; exact p0) (by rw [a4, u312]; exact p1)
          obtain ⟨e2, W2, k2, m2⟩ := ew_rfst (H := H) (M := M) (n0 := L.length) hJ2 hJ hc6 hCr p1 (by omega) hK hS b1
          exact go w2 k2 m2 (eg53_137_126_0 (eg53_137_103_0 (b2 e2 W2)).2).2
        · by_cases p2 : C j = 314
          · obtain ⟨_, u2, w2, b1, b2⟩ := eg53_137_75_1 h75 (by rw [a4, u310]; exact p0) (by rw [a4, u312]; exact p1) (by rw [a4, u314]; exact p2)
            obtain ⟨e2, W2, k2, m2⟩ := ew_rcm (H := H) (M := M) hJ2 hJ hc6 hCr hVr p2 (by omega) hK hS b1
            exact go w2 k2 m2 (eg53_137_126_0 (eg53_137_118_0 (b2 e2 W2)).2).2
          · have eli : er_li C V H M L.length j = (j, none) := by
              unfold er_li
              rw [if_neg p0, if_neg p1, if_neg p2]
            rw [eli]
            exact here n j ls.length (C j) L w w1 v (by omega) (by rw [a4]; exact p0) (by rw [a4]; exact p1) (by rw [a4]; exact p2) hK h75
end ER15

end
