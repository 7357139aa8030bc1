noncomputable section
/-! RULES: the class reads a condition -/
/-- what a reading method of the class leaves -/
def er_QC (C V : Nat → Int) (P : Nat → Nat) (J c : Nat) (L : List Int) (w w' : px_W) (z : Int) (res : er_R) : Prop := ec_W hb_A w' ∧ er_kf c w w' ∧ match res.2 with
  | none => z = 0 ∧ ec_fd w' 137 7 = (P res.1 : Int)
  | some q => z = 1 ∧ er_K w' C V P J c (L ++ q.1) res.1
def er_EK (C V : Nat → Int) (P : Nat → Nat) (J c m : Nat) (f : Nat → er_R) (o : Int) : Prop := ∀ (n j : Nat) (L : List Int) (w w1 : px_W) (v : Option Value), er_K w C V P J c L j → ec_E hb_X n m 0 [(0, .inr (.inl 201)), (1, .inr (.inl 108)), (2, .inl o)] [] w (v, w1) → ∃ z : Int, v = ec_R z ∧ er_QC C V P J c L w w1 z (f j)
section ER10
variable {C V : Nat → Int} {P : Nat → Nat} {J c : Nat} {H : Bool} {M : Nat → Int}
theorem ew_rts (hJ2 : J ≤ 200) (hJ : C J = 300) (hc6 : c ≤ 6) (hCr : ∀ j, 0 ≤ C j ∧ C j ≤ 400) (hVr : ∀ j, -100000 ≤ V j ∧ V j ≤ 100000) {n j : Nat} {L : List Int} {w w1 : px_W} {v : Option Value} (hK : er_K w C V P J c L j) (h : ec_E hb_X n 71 0 [(0, .inr (.inl 201)), (1, .inr (.inl 108))] [] w (v, w1)) : ∃ z : Int, v = ec_R z ∧ er_QC C V P J c L w w1 z (er_ts C V H M j) := by
  have t0 : ec_tw 0 = 0 := rfl
  have t2 : ec_tw 2 = 2 := rfl
  have t3 : ec_tw 3 = 3 := rfl
  obtain ⟨a1, a2, a3, a4, a5, a6⟩ := er_K_at hJ2 hK
  have cj := hCr j
  have l := eg71_137_0_0 h
  rw [a1, Int.zero_add] at l
  obtain ⟨_, u, w2, b1, b2⟩ := l
  obtain ⟨e2, W2⟩ := ew_within b1
  have tx : ec_tw (C j - 323) = C j - 323 := ec_tw_id (by omega) (by omega)
  rw [tx, t0, t3] at e2
  injection e2 with e2 i2
  rw [i2] at b2
  have b3 := b2 _ e2 W2
  by_cases q : 0 ≤ C j - 323 ∧ C j - 323 ≤ 3
  · rw [if_pos q] at b3
    have hne : C j ≠ 300 := by omega
    obtain ⟨Wa, kfa, Ka⟩ := ew_adv hJ2 hJ W2 hK hne
    by_cases q0 : C j = 323
    · have ex : C j - 323 = 0 := by omega
      rw [ex] at b3
      obtain ⟨_, u4, w4, c1, c2⟩ := eg71_137_22_1 b3 (by decide) rfl
      obtain ⟨e4, W4, kf4, K4⟩ := ew_ast hc6 Ka t0 c1
      obtain ⟨_, hr, hW⟩ := eg71_137_49_0 (c2 e4 W4)
      injection hr with e5 e6
      rw [e6]
      have ets : er_ts C V H M j = (j + 1, some ([0], H)) := by
        unfold er_ts
        rw [if_pos q0]
      rw [ets]
      exact ⟨_, e5, hW, er_kf_t kfa kf4, rfl, K4⟩
    · obtain ⟨_, d2, d3, d4, d5, d6⟩ := er_K_at hJ2 Ka
      have d1 := (er_K_at hJ2 Ka).1
      have cj1 := hCr (j + 1)
      have l2 := eg71_137_22_0 b3
      rw [tx, t0, d1] at l2
      obtain ⟨_, u4, w4, c1, c2⟩ := l2 (by decide) (by omega)
      obtain ⟨e4, W4⟩ := ew_within c1
      have tx3 : ec_tw (C (j + 1) - 60) = C (j + 1) - 60 := ec_tw_id (by omega) (by omega)
      rw [tx3, t0, t2] at e4
      injection e4 with e4 i4
      rw [i4] at c2
      have c3 := c2 _ e4 W4
      by_cases q2 : 0 ≤ C (j + 1) - 60 ∧ C (j + 1) - 60 ≤ 2
      · rw [if_pos q2] at c3
        obtain ⟨Wb, kfb, Kb⟩ := ew_adv hJ2 hJ Wa Ka (by omega)
        obtain ⟨_, u5, w5, f1, f2⟩ := eg71_137_70_0 c3 (by decide)
        obtain ⟨x, e5, W5, kf5, hy, hn⟩ := ew_tnm hJ2 hJ Kb t0 f1
        have f3 := f2 _ e5 W5
        have ets : er_ts C V H M j = if C (j + 2) = 301 ∧ 0 ≤ V (j + 2) then (j + 3, some ([C j - 323 + 8 * (C (j + 1) - 60) + 32 * V (j + 2)], er_sg (C (j + 1)) (M (C j - 324).toNat) (V (j + 2)))) else (j + 2, none) := by
          unfold er_ts
          rw [if_neg q0, if_pos (by omega), if_pos (by omega)]
        rw [ets]
        by_cases q3 : C (j + 2) = 301 ∧ 0 ≤ V (j + 2)
        · obtain ⟨ex, K5⟩ := hy q3
          have ex : x = V (j + 2) := ex
          have vj := hVr (j + 2)
          have l3 := eg71_137_93_0 f3
          have tm : ec_tw (-1) = -1 := rfl
          rw [ex, ec_tw_id (a := V (j + 2)) (by omega) (by omega), tm] at l3
          obtain ⟨_, u6, w6, g1, g2⟩ := l3 (by omega)
          obtain ⟨e6, W6, kf6, K6⟩ := ew_ast hc6 K5 (ec_tw_id (by omega) (by omega)) g1
          obtain ⟨_, hr, hW⟩ := eg71_137_119_0 (g2 e6 W6)
          injection hr with e7 e8
          rw [e8, if_pos q3]
          exact ⟨_, e7, hW, er_kf_t kfa (er_kf_t kfb (er_kf_t kf5 kf6)), rfl, K6⟩
        · obtain ⟨ex, h7⟩ := hn q3
          rw [ex] at f3
          obtain ⟨_, hr, hW⟩ := eg71_137_93_1 f3 rfl
          injection hr with e7 e8
          rw [e8, if_neg q3]
          exact ⟨_, e7, hW, er_kf_t kfa (er_kf_t kfb kf5), rfl, h7⟩
      · rw [if_neg q2] at c3
        obtain ⟨_, u5, w5, f1, f2⟩ := eg71_137_70_1 c3 rfl
        obtain ⟨e5, W5, kf5, h7⟩ := ew_fh hJ2 Ka f1
        obtain ⟨_, hr, hW⟩ := eg71_137_77_0 (f2 _ e5 W5)
        injection hr with e7 e8
        have ets : er_ts C V H M j = (j + 1, none) := by
          unfold er_ts
          rw [if_neg q0, if_pos (by omega), if_neg (by omega)]
        rw [e8, ets]
        exact ⟨_, e7, hW, er_kf_t kfa kf5, rfl, h7⟩
  · rw [if_neg q] at b3
    obtain ⟨_, u5, w5, f1, f2⟩ := eg71_137_22_2 b3 rfl
    obtain ⟨e5, W5, kf5, h7⟩ := ew_fh hJ2 hK f1
    obtain ⟨_, hr, hW⟩ := eg71_137_29_0 (f2 _ e5 W5)
    injection hr with e7 e8
    have ets : er_ts C V H M j = (j, none) := by
      unfold er_ts
      rw [if_neg (by omega), if_neg (by omega)]
    rw [e8, ets]
    exact ⟨_, e7, hW, kf5, rfl, h7⟩
theorem ew_rin {g : Option (Nat → er_R)} {o : Int} (hJ2 : J ≤ 200) (hJ : C J = 300) (hg : (g = none ∧ o = 4) ∨ ∃ f, g = some f ∧ 0 ≤ o ∧ o < 4 ∧ er_EK C V P J c 67 f (o + 1)) {n k : Nat} {L : List Int} {w w1 : px_W} {v : Option Value} (h40 : C k = 40) (hK : er_K w C V P J c L k) (h : ec_E hb_X n 70 0 [(0, .inr (.inl 201)), (1, .inr (.inl 108)), (2, .inl o)] [] w (v, w1)) : ∃ z : Int, v = ec_R z ∧ er_QC C V P J c L w w1 z (er_in C g k) := by
  have t4 : ec_tw 4 = 4 := rfl
  have W := h.1
  rcases hg with ⟨hgn, ho4⟩ | ⟨f, hgs, o0, o4, hf⟩
  · rw [ho4] at h
    obtain ⟨_, u, w2, a1, a2⟩ := eg70_137_0_1 h (Int.le_refl _)
    obtain ⟨e2, W2, kf2, h7⟩ := ew_fh hJ2 hK a1
    obtain ⟨_, hr, hW⟩ := eg70_137_9_0 (a2 _ e2 W2)
    injection hr with e3 e4
    rw [e4, hgn]
    exact ⟨_, e3, hW, kf2, rfl, h7⟩
  · have l := eg70_137_0_0 h
    rw [ec_tw_id (a := o) (by omega) (by omega), t4] at l
    obtain ⟨_, u, w2, a1, a2⟩ := l o4
    obtain ⟨Wa, kfa, Ka⟩ := ew_adv hJ2 hJ W hK (by rw [h40]; decide)
    obtain ⟨z2, e2, W2, kf2, m2⟩ := hf n (k + 1) L _ w2 u Ka a1
    have b := a2 _ e2 W2
    have ein : er_in C g k = (match f (k + 1) with
      | (a, none) => (a, none)
      | (a, some s) => if C a = 41 then (a + 1, some s) else (a, none)) := by
      rw [hgs]
      rfl
    rw [ein]
    cases ef : f (k + 1) with
    | mk a s =>
      rw [ef] at m2
      cases s with
      | none =>
        obtain ⟨ez, h7⟩ : z2 = 0 ∧ ec_fd w2 137 7 = (P a : Int) := m2
        rw [ez] at b
        obtain ⟨_, hr, hW⟩ := eg70_137_44_0 (eg70_137_28_0 b rfl).2
        injection hr with e3 e4
        rw [e4]
        exact ⟨_, e3, hW, er_kf_t kfa kf2, rfl, h7⟩
      | some s =>
        obtain ⟨ez, K2⟩ : z2 = 1 ∧ er_K w2 C V P J c (L ++ s.1) a := m2
        rw [ez] at b
        obtain ⟨_, u3, w3, a3, a4⟩ := eg70_137_28_1 b (by decide)
        obtain ⟨z3, e3, W3, kf3, hy, hn⟩ := ew_tkn hJ2 hJ K2 (x := 41) rfl (by decide) a3
        have b3 := a4 _ e3 W3
        dsimp only
        by_cases q : C a = 41
        · obtain ⟨ez3, K3⟩ := hy q
          rw [ez3] at b3
          obtain ⟨_, hr, hW⟩ := eg70_137_37_1 b3 (by decide)
          injection hr with e4 e5
          rw [e5, if_pos q]
          exact ⟨_, e4, hW, er_kf_t kfa (er_kf_t kf2 kf3), rfl, K3⟩
        · obtain ⟨ez3, h7⟩ := hn q
          rw [ez3] at b3
          obtain ⟨_, hr, hW⟩ := eg70_137_44_0 (eg70_137_37_0 b3 rfl).2
          injection hr with e4 e5
          rw [e5, if_neg q]
          exact ⟨_, e4, hW, er_kf_t kfa (er_kf_t kf2 kf3), rfl, h7⟩
theorem ew_rnt (hJ2 : J ≤ 200) (hJ : C J = 300) {x2 : Int} {L : List Int} : ∀ (f n j i : Nat) (b : Bool) (w : px_W) (r : Option Value × px_W), 200 ≤ f + j → i ≤ j → er_K w C V P J c L j → ec_E hb_X n 69 5 [(0, .inr (.inl 201)), (1, .inr (.inl 108)), (2, .inl x2), (3, .inl (if b = true then 1 else 0)), (4, .inl (i : Int))] [] w r → ∃ w' : px_W, er_kf c w w' ∧ er_K w' C V P J c L (er_nt C f j) ∧ ec_E hb_X n 69 54 [(0, .inr (.inl 201)), (1, .inr (.inl 108)), (2, .inl x2), (3, .inl (if (b != decide ((er_nt C f j - j) % 2 = 1)) = true then 1 else 0))] [] w' r := by
  have t200 : ec_tw 200 = 200 := rfl
  have t322 : ec_tw 322 = 322 := rfl
  have stop : ∀ (n j i : Nat) (b : Bool) (w : px_W) (r : Option Value × px_W), i ≤ j → C j ≠ 322 → er_K w C V P J c L j → ec_E hb_X n 69 5 [(0, .inr (.inl 201)), (1, .inr (.inl 108)), (2, .inl x2), (3, .inl (if b = true then 1 else 0)), (4, .inl (i : Int))] [] w r → ec_E hb_X n 69 54 [(0, .inr (.inl 201)), (1, .inr (.inl 108)), (2, .inl x2), (3, .inl (if (b != decide (0 % 2 = 1)) = true then 1 else 0))] [] w r := by
    intro n j i b w r hi hne hK h
    obtain ⟨a1, _, _, a4, _, _⟩ := er_K_at hJ2 hK
    have hj := hK.2.2.1
    have k0 := eg69_137_5_0 h
    have k1 := eg69_137_5_1 h
    rw [ec_twn (n := i) (by omega), t200] at k0 k1
    rw [a1, a4, t322] at k1
    by_cases q : 200 ≤ i
    · have h2 := (k0 (by omega)).2
      cases b <;> exact h2
    · have h2 := (k1 (by omega) hne).2
      cases b <;> exact h2
  intro f
  induction f with
  | zero =>
    intro n j i b w r hf hi hK h
    have hj := hK.2.2.1
    have ej : j = J := by omega
    refine ⟨w, er_kf_r, hK, ?_⟩
    have e : (er_nt C 0 j - j) = 0 := Nat.sub_self j
    rw [e]
    exact stop n j i b w r hi (by rw [ej, hJ]; decide) hK h
  | succ f ih =>
    intro n j i b w r hf hi hK h
    have ent : er_nt C (f + 1) j = if C j = 322 then er_nt C f (j + 1) else j := rfl
    rw [ent]
    by_cases q : C j = 322
    · rw [if_pos q]
      obtain ⟨a1, _, _, a4, _, _⟩ := er_K_at hJ2 hK
      have hj := hK.2.2.1
      have hne : j ≠ J := fun e => by
        rw [e, hJ] at q
        exact absurd q (by decide)
      have go : ec_E hb_X n 69 37 [(0, .inr (.inl 201)), (1, .inr (.inl 108)), (2, .inl x2), (3, .inl (if b = true then 1 else 0)), (4, .inl (i : Int))] [.inl (if (!b) = true then 1 else 0)] w r := by
        cases b with
        | false =>
          have k := eg69_137_5_3 h
          rw [ec_twn (n := i) (by omega), t200, a1, a4, t322] at k
          exact (k (by omega) q rfl).2
        | true =>
          have k := eg69_137_5_2 h
          rw [ec_twn (n := i) (by omega), t200, a1, a4, t322] at k
          exact (k (by omega) q (by decide)).2
      have h2 := (eg69_137_37_0 go).2
      obtain ⟨Wa, kfa, Ka⟩ := ew_adv hJ2 hJ h.1 hK (by rw [q]; decide)
      obtain ⟨w', q1, q2, q3⟩ := ih n (j + 1) (i + 1) (!b) _ r (by omega) (by omega) Ka h2
      refine ⟨w', er_kf_t kfa q1, q2, ?_⟩
      have ge := (er_nt_ov (C := C) f (j + 1)).1
      have par : ((!b) != decide ((er_nt C f (j + 1) - (j + 1)) % 2 = 1)) = (b != decide ((er_nt C f (j + 1) - j) % 2 = 1)) := by
        by_cases p : (er_nt C f (j + 1) - (j + 1)) % 2 = 1
        · rw [decide_eq_true p, decide_eq_false (by omega)]
          cases b <;> rfl
        · rw [decide_eq_false p, decide_eq_true (by omega)]
          cases b <;> rfl
      rw [← par]
      exact q3
    · rw [if_neg q]
      refine ⟨w, er_kf_r, hK, ?_⟩
      rw [Nat.sub_self]
      exact stop n j i b w r hi q hK h
theorem ew_rone {g : Option (Nat → er_R)} {o : Int} (hJ2 : J ≤ 200) (hJ : C J = 300) (hc6 : c ≤ 6) (hCr : ∀ j, 0 ≤ C j ∧ C j ≤ 400) (hVr : ∀ j, -100000 ≤ V j ∧ V j ≤ 100000) (hg : (g = none ∧ o = 4) ∨ ∃ f, g = some f ∧ 0 ≤ o ∧ o < 4 ∧ er_EK C V P J c 67 f (o + 1)) : er_EK C V P J c 69 (er_on C V H M g) o := by
  intro n j L w w1 v hK h
  have t40 : ec_tw 40 = 40 := rfl
  obtain ⟨w2, kf2, K2, h54⟩ := ew_rnt hJ2 hJ 200 n j 0 false w _ (by omega) (Nat.zero_le _) hK (eg69_137_0_0 h).2
  obtain ⟨k, hk⟩ : ∃ k, er_nt C 200 j = k := ⟨_, rfl⟩
  rw [hk] at K2 h54
  have hx : (if (false != decide ((k - j) % 2 = 1)) = true then (1 : Int) else 0) = (if (k - j) % 2 = 1 then 1 else 0) := by
    by_cases p : (k - j) % 2 = 1
    · rw [decide_eq_true p, if_pos p]
      rfl
    · rw [decide_eq_false p, if_neg p]
      rfl
  rw [hx] at h54
  have eon : er_on C V H M g j = (match (if C k = 40 then er_in C g k else er_ts C V H M k) with
    | (a, none) => (a, none)
    | (a, some s) => if (k - j) % 2 = 1 then (a, some (s.1 ++ [6], !s.2)) else (a, some s)) := by
    unfold er_on
    rw [hk]
    rfl
  rw [eon]
  -- behind what was read
  have fin : ∀ (z : Int) (w3 : px_W) (res : er_R), er_QC C V P J c L w2 w3 z res → ec_E hb_X n 69 82 [(0, .inr (.inl 201)), (1, .inr (.inl 108)), (2, .inl o), (3, .inl (if (k - j) % 2 = 1 then 1 else 0))] [.inl z] w3 (v, w1) → ∃ z : Int, v = ec_R z ∧ er_QC C V P J c L w w1 z (match res with
    | (a, none) => (a, none)
    | (a, some s) => if (k - j) % 2 = 1 then (a, some (s.1 ++ [6], !s.2)) else (a, some s)) := by
    intro z w3 res hQ h82
    obtain ⟨a, s⟩ := res
    cases s with
    | none =>
      obtain ⟨W3, kf3, ez, h7⟩ : ec_W hb_A w3 ∧ er_kf c w2 w3 ∧ z = 0 ∧ ec_fd w3 137 7 = (P a : Int) := hQ
      rw [ez] at h82
      obtain ⟨_, hr, hW⟩ := eg69_137_99_0 (eg69_137_82_0 h82 rfl).2
      injection hr with e3 e4
      rw [e4]
      exact ⟨_, e3, hW, er_kf_t kf2 kf3, rfl, h7⟩
    | some s =>
      obtain ⟨W3, kf3, ez, K3⟩ : ec_W hb_A w3 ∧ er_kf c w2 w3 ∧ z = 1 ∧ er_K w3 C V P J c (L ++ s.1) a := hQ
      rw [ez] at h82
      dsimp only
      by_cases p : (k - j) % 2 = 1
      · rw [if_pos p] at h82
        obtain ⟨_, u4, w4, a3, a4⟩ := eg69_137_82_2 h82 (by decide) (by decide)
        obtain ⟨e4, W4, kf4, K4⟩ := ew_ast hc6 K3 (x := 6) rfl a3
        obtain ⟨_, hr, hW⟩ := eg69_137_99_0 (a4 e4 W4)
        injection hr with e5 e6
        rw [e6, if_pos p]
        rw [List.append_assoc] at K4
        exact ⟨_, e5, hW, er_kf_t kf2 (er_kf_t kf3 kf4), rfl, K4⟩
      · rw [if_neg p] at h82
        obtain ⟨_, hr, hW⟩ := eg69_137_99_0 (eg69_137_82_1 h82 (by decide) rfl).2
        injection hr with e5 e6
        rw [e6, if_neg p]
        exact ⟨_, e5, hW, er_kf_t kf2 kf3, rfl, K3⟩
  obtain ⟨a1, _, _, a4, _, _⟩ := er_K_at hJ2 K2
  have k0 := eg69_137_54_0 h54
  have k1 := eg69_137_54_1 h54
  rw [a1, a4, t40] at k0 k1
  by_cases q40 : C k = 40
  · rw [if_pos q40]
    obtain ⟨_, u3, w3, b1, b2⟩ := k1 q40
    obtain ⟨z3, e3, Q3⟩ := ew_rin hJ2 hJ hg q40 K2 b1
    exact fin z3 w3 _ Q3 (eg69_137_74_0 (b2 _ e3 Q3.1)).2
  · rw [if_neg q40]
    obtain ⟨_, u3, w3, b1, b2⟩ := k0 q40
    obtain ⟨z3, e3, Q3⟩ := ew_rts (H := H) (M := M) hJ2 hJ hc6 hCr hVr K2 b1
    exact fin z3 w3 _ Q3 (b2 _ e3 Q3.1)
theorem ew_rlA {one : Nat → er_R} {o : Int} (hJ2 : J ≤ 200) (hJ : C J = 300) (hc6 : c ≤ 6) (ho1 : er_EK C V P J c 69 one o) (hov : ∀ j, er_ov C j (one j).1) : ∀ (f n j i : Nat) (L s : List Int) (b : Bool) (w w1 : px_W) (v : Option Value), 200 ≤ f + j → i ≤ j → er_K w C V P J c (L ++ s) j → ec_E hb_X n 68 13 [(0, .inr (.inl 201)), (1, .inr (.inl 108)), (2, .inl o), (3, .inl (i : Int))] [] w (v, w1) → ∃ z : Int, v = ec_R z ∧ er_QC C V P J c L w w1 z (er_lp C one 321 4 and f j s b) := by
  have t200 : ec_tw 200 = 200 := rfl
  have tc : ec_tw 321 = 321 := rfl
  have stop : ∀ (n j i : Nat) (L s : List Int) (b : Bool) (w w1 : px_W) (v : Option Value), i ≤ j → C j ≠ 321 → er_K w C V P J c (L ++ s) j → ec_E hb_X n 68 13 [(0, .inr (.inl 201)), (1, .inr (.inl 108)), (2, .inl o), (3, .inl (i : Int))] [] w (v, w1) → ∃ z : Int, v = ec_R z ∧ er_QC C V P J c L w w1 z (j, some (s, b)) := by
    intro n j i L s b w w1 v hi hne hK h
    obtain ⟨a1, _, _, a4, _, _⟩ := er_K_at hJ2 hK
    have hj := hK.2.2.1
    have k0 := eg68_137_13_0 h
    have k1 := eg68_137_13_1 h
    rw [ec_twn (n := i) (by omega), t200] at k0 k1
    rw [a1, a4, tc] at k1
    have h67 : ec_E hb_X n 68 67 [(0, .inr (.inl 201)), (1, .inr (.inl 108)), (2, .inl o)] [] w (v, w1) := by
      by_cases q : 200 ≤ i
      · exact (k0 (by omega)).2
      · exact (k1 (by omega) hne).2
    obtain ⟨_, hr, hW⟩ := eg68_137_67_0 h67
    injection hr with e3 e4
    rw [e4]
    exact ⟨_, e3, hW, er_kf_r, rfl, hK⟩
  intro f
  induction f with
  | zero =>
    intro n j i L s b w w1 v hf hi hK h
    have hj := hK.2.2.1
    have ej : j = J := by omega
    exact stop n j i L s b w w1 v hi (by rw [ej, hJ]; decide) hK h
  | succ f ih =>
    intro n j i L s b w w1 v hf hi hK h
    have elp : er_lp C one 321 4 and (f + 1) j s b = if C j = 321 then (match one (j + 1) with
      | (a, none) => (a, none)
      | (a, some q) => er_lp C one 321 4 and f a (s ++ q.1 ++ [4]) (and b q.2)) else (j, some (s, b)) := rfl
    rw [elp]
    by_cases q : C j = 321
    · rw [if_pos q]
      obtain ⟨a1, _, _, a4, _, _⟩ := er_K_at hJ2 hK
      have hj := hK.2.2.1
      have hne : j ≠ J := fun e => by
        rw [e, hJ] at q
        exact absurd q (by decide)
      have k2 := eg68_137_13_2 h
      rw [ec_twn (n := i) (by omega), t200, a1, a4, tc] at k2
      obtain ⟨_, u2, w2, b1, b2⟩ := k2 (by omega) q
      obtain ⟨Wa, kfa, Ka⟩ := ew_adv hJ2 hJ h.1 hK (by rw [q]; decide)
      obtain ⟨z2, e2, W2, kf2, m2⟩ := ho1 n (j + 1) (L ++ s) _ w2 u2 Ka b1
      have b3 := b2 _ e2 W2
      have ov := hov (j + 1)
      cases e : one (j + 1) with
      | mk a r =>
        rw [e] at m2 ov
        cases r with
        | none =>
          obtain ⟨ez, h7⟩ : z2 = 0 ∧ ec_fd w2 137 7 = (P a : Int) := m2
          rw [ez] at b3
          obtain ⟨_, hr, hW⟩ := eg68_137_51_1 b3 rfl
          injection hr with e3 e4
          rw [e4]
          exact ⟨_, e3, hW, er_kf_t kfa kf2, rfl, h7⟩
        | some r =>
          obtain ⟨ez, K2⟩ : z2 = 1 ∧ er_K w2 C V P J c (L ++ s ++ r.1) a := m2
          rw [ez] at b3
          obtain ⟨_, u3, w3, c1, c2⟩ := eg68_137_51_0 b3 (by decide)
          obtain ⟨e3, W3, kf3, K3⟩ := ew_ast hc6 K2 (x := 4) rfl c1
          have h13 := (eg68_137_61_0 (c2 e3 W3)).2
          have ge : j + 1 ≤ a := ov.1
          have eL : L ++ s ++ r.1 ++ [4] = L ++ (s ++ r.1 ++ [4]) := by
            rw [List.append_assoc, List.append_assoc, List.append_assoc]
          rw [eL] at K3
          obtain ⟨z, hv, hW, hkf, hm⟩ := ih n a (i + 1) L (s ++ r.1 ++ [4]) (and b r.2) w3 w1 v (by omega) (by omega) K3 h13
          exact ⟨z, hv, hW, er_kf_t kfa (er_kf_t kf2 (er_kf_t kf3 hkf)), hm⟩
    · rw [if_neg q]
      exact stop n j i L s b w w1 v hi q hK h
theorem ew_rlC {one : Nat → er_R} {o : Int} (hJ2 : J ≤ 200) (hJ : C J = 300) (hc6 : c ≤ 6) (ho1 : er_EK C V P J c 68 one o) (hov : ∀ j, er_ov C j (one j).1) : ∀ (f n j i : Nat) (L s : List Int) (b : Bool) (w w1 : px_W) (v : Option Value), 200 ≤ f + j → i ≤ j → er_K w C V P J c (L ++ s) j → ec_E hb_X n 67 13 [(0, .inr (.inl 201)), (1, .inr (.inl 108)), (2, .inl o), (3, .inl (i : Int))] [] w (v, w1) → ∃ z : Int, v = ec_R z ∧ er_QC C V P J c L w w1 z (er_lp C one 320 5 or f j s b) := by
  have t200 : ec_tw 200 = 200 := rfl
  have tc : ec_tw 320 = 320 := rfl
  have stop : ∀ (n j i : Nat) (L s : List Int) (b : Bool) (w w1 : px_W) (v : Option Value), i ≤ j → C j ≠ 320 → er_K w C V P J c (L ++ s) j → ec_E hb_X n 67 13 [(0, .inr (.inl 201)), (1, .inr (.inl 108)), (2, .inl o), (3, .inl (i : Int))] [] w (v, w1) → ∃ z : Int, v = ec_R z ∧ er_QC C V P J c L w w1 z (j, some (s, b)) := by
    intro n j i L s b w w1 v hi hne hK h
    obtain ⟨a1, _, _, a4, _, _⟩ := er_K_at hJ2 hK
    have hj := hK.2.2.1
    have k0 := eg67_137_13_0 h
    have k1 := eg67_137_13_1 h
    rw [ec_twn (n := i) (by omega), t200] at k0 k1
    rw [a1, a4, tc] at k1
    have h67 : ec_E hb_X n 67 67 [(0, .inr (.inl 201)), (1, .inr (.inl 108)), (2, .inl o)] [] w (v, w1) := by
      by_cases q : 200 ≤ i
      · exact (k0 (by omega)).2
      · exact (k1 (by omega) hne).2
    obtain ⟨_, hr, hW⟩ := eg67_137_67_0 h67
    injection hr with e3 e4
    rw [e4]
    exact ⟨_, e3, hW, er_kf_r, rfl, hK⟩
  intro f
  induction f with
  | zero =>
    intro n j i L s b w w1 v hf hi hK h
    have hj := hK.2.2.1
    have ej : j = J := by omega
    exact stop n j i L s b w w1 v hi (by rw [ej, hJ]; decide) hK h
  | succ f ih =>
    intro n j i L s b w w1 v hf hi hK h
    have elp : er_lp C one 320 5 or (f + 1) j s b = if C j = 320 then (match one (j + 1) with
      | (a, none) => (a, none)
      | (a, some q) => er_lp C one 320 5 or f a (s ++ q.1 ++ [5]) (or b q.2)) else (j, some (s, b)) := rfl
    rw [elp]
    by_cases q : C j = 320
    · rw [if_pos q]
      obtain ⟨a1, _, _, a4, _, _⟩ := er_K_at hJ2 hK
      have hj := hK.2.2.1
      have hne : j ≠ J := fun e => by
        rw [e, hJ] at q
        exact absurd q (by decide)
      have k2 := eg67_137_13_2 h
      rw [ec_twn (n := i) (by omega), t200, a1, a4, tc] at k2
      obtain ⟨_, u2, w2, b1, b2⟩ := k2 (by omega) q
      obtain ⟨Wa, kfa, Ka⟩ := ew_adv hJ2 hJ h.1 hK (by rw [q]; decide)
      obtain ⟨z2, e2, W2, kf2, m2⟩ := ho1 n (j + 1) (L ++ s) _ w2 u2 Ka b1
      have b3 := b2 _ e2 W2
      have ov := hov (j + 1)
      cases e : one (j + 1) with
      | mk a r =>
        rw [e] at m2 ov
        cases r with
        | none =>
          obtain ⟨ez, h7⟩ : z2 = 0 ∧ ec_fd w2 137 7 = (P a : Int) := m2
          rw [ez] at b3
          obtain ⟨_, hr, hW⟩ := eg67_137_51_1 b3 rfl
          injection hr with e3 e4
          rw [e4]
          exact ⟨_, e3, hW, er_kf_t kfa kf2, rfl, h7⟩
        | some r =>
          obtain ⟨ez, K2⟩ : z2 = 1 ∧ er_K w2 C V P J c (L ++ s ++ r.1) a := m2
          rw [ez] at b3
          obtain ⟨_, u3, w3, c1, c2⟩ := eg67_137_51_0 b3 (by decide)
          obtain ⟨e3, W3, kf3, K3⟩ := ew_ast hc6 K2 (x := 5) rfl c1
          have h13 := (eg67_137_61_0 (c2 e3 W3)).2
          have ge : j + 1 ≤ a := ov.1
          have eL : L ++ s ++ r.1 ++ [5] = L ++ (s ++ r.1 ++ [5]) := by
            rw [List.append_assoc, List.append_assoc, List.append_assoc]
          rw [eL] at K3
          obtain ⟨z, hv, hW, hkf, hm⟩ := ih n a (i + 1) L (s ++ r.1 ++ [5]) (or b r.2) w3 w1 v (by omega) (by omega) K3 h13
          exact ⟨z, hv, hW, er_kf_t kfa (er_kf_t kf2 (er_kf_t kf3 hkf)), hm⟩
    · rw [if_neg q]
      exact stop n j i L s b w w1 v hi q hK h
theorem ew_rall {g : Option (Nat → er_R)} {o : Int} (hJ2 : J ≤ 200) (hJ : C J = 300) (hc6 : c ≤ 6) (ho1 : er_EK C V P J c 69 (er_on C V H M g) o) (hov : ∀ j, er_ov C j (er_on C V H M g j).1) : er_EK C V P J c 68 (er_al C V H M g) o := by
  intro n j L w w1 v hK h
  obtain ⟨_, u2, w2, b1, b2⟩ := eg68_137_0_0 h
  obtain ⟨z2, e2, W2, kf2, m2⟩ := ho1 n j L w w2 u2 hK b1
  have b3 := b2 _ e2 W2
  have edef : er_al C V H M g j = (match er_on C V H M g j with
    | (a, none) => (a, none)
    | (a, some q) => er_lp C (er_on C V H M g) 321 4 and 200 a q.1 q.2) := rfl
  rw [edef]
  cases e : er_on C V H M g j with
  | mk a r =>
    rw [e] at m2
    cases r with
    | none =>
      obtain ⟨ez, h7⟩ : z2 = 0 ∧ ec_fd w2 137 7 = (P a : Int) := m2
      rw [ez] at b3
      obtain ⟨_, hr, hW⟩ := eg68_137_6_1 b3 rfl
      injection hr with e3 e4
      rw [e4]
      exact ⟨_, e3, hW, kf2, rfl, h7⟩
    | some r =>
      obtain ⟨ez, K2⟩ : z2 = 1 ∧ er_K w2 C V P J c (L ++ r.1) a := m2
      rw [ez] at b3
      have h13 := (eg68_137_6_0 b3 (by decide)).2
      obtain ⟨z, hv, hW, hkf, hm⟩ := ew_rlA hJ2 hJ hc6 ho1 hov 200 n a 0 L r.1 r.2 w2 w1 v (by omega) (Nat.zero_le _) K2 h13
      exact ⟨z, hv, hW, er_kf_t kf2 hkf, hm⟩
theorem ew_rcnd {g : Option (Nat → er_R)} {o : Int} (hJ2 : J ≤ 200) (hJ : C J = 300) (hc6 : c ≤ 6) (ho1 : er_EK C V P J c 68 (er_al C V H M g) o) (hov : ∀ j, er_ov C j (er_al C V H M g j).1) : er_EK C V P J c 67 (er_co2 C V H M g) o := by
  intro n j L w w1 v hK h
  obtain ⟨_, u2, w2, b1, b2⟩ := eg67_137_0_0 h
  obtain ⟨z2, e2, W2, kf2, m2⟩ := ho1 n j L w w2 u2 hK b1
  have b3 := b2 _ e2 W2
  have edef : er_co2 C V H M g j = (match er_al C V H M g j with
    | (a, none) => (a, none)
    | (a, some q) => er_lp C (er_al C V H M g) 320 5 or 200 a q.1 q.2) := rfl
  rw [edef]
  cases e : er_al C V H M g j with
  | mk a r =>
    rw [e] at m2
    cases r with
    | none =>
      obtain ⟨ez, h7⟩ : z2 = 0 ∧ ec_fd w2 137 7 = (P a : Int) := m2
      rw [ez] at b3
      obtain ⟨_, hr, hW⟩ := eg67_137_6_1 b3 rfl
      injection hr with e3 e4
      rw [e4]
      exact ⟨_, e3, hW, kf2, rfl, h7⟩
    | some r =>
      obtain ⟨ez, K2⟩ : z2 = 1 ∧ er_K w2 C V P J c (L ++ r.1) a := m2
      rw [ez] at b3
      have h13 := (eg67_137_6_0 b3 (by decide)).2
      obtain ⟨z, hv, hW, hkf, hm⟩ := ew_rlC hJ2 hJ hc6 ho1 hov 200 n a 0 L r.1 r.2 w2 w1 v (by omega) (Nat.zero_le _) K2 h13
      exact ⟨z, hv, hW, er_kf_t kf2 hkf, hm⟩
theorem ew_rcd (hJ2 : J ≤ 200) (hJ : C J = 300) (hc6 : c ≤ 6) (hCr : ∀ j, 0 ≤ C j ∧ C j ≤ 400) (hVr : ∀ j, -100000 ≤ V j ∧ V j ≤ 100000) : ∀ l : Nat, l ≤ 4 → er_EK C V P J c 67 (er_cd C V H M l) (4 - (l : Int))
  | 0, _ => by
    have hg : ∀ f : Nat → er_R, (none : Option (Nat → er_R)) = some f → ∀ j, er_ov C j (f j).1 := fun f hf => by cases hf
    exact ew_rcnd hJ2 hJ hc6 (ew_rall hJ2 hJ hc6 (ew_rone hJ2 hJ hc6 hCr hVr (.inl ⟨rfl, rfl⟩)) (er_on_ov hg)) (er_al_ov hg)
  | l + 1, h => by
    have ih := ew_rcd hJ2 hJ hc6 hCr hVr l (by omega)
    have hg : ∀ f : Nat → er_R, some (er_cd C V H M l) = some f → ∀ j, er_ov C j (f j).1 := fun f hf => by
      injection hf with hf
      rw [← hf]
      exact fun j => er_cd_ov l j
    have eo : (4 - ((l + 1 : Nat) : Int)) + 1 = 4 - (l : Int) := by omega
    exact ew_rcnd hJ2 hJ hc6 (ew_rall hJ2 hJ hc6 (ew_rone hJ2 hJ hc6 hCr hVr (.inr ⟨_, rfl, by omega, by omega, by rw [eo]; exact ih⟩)) (er_on_ov hg)) (er_al_ov hg)
end ER10

end
