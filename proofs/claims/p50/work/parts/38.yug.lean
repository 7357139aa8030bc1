noncomputable section
/-! ACT on both sides -/
def ea_sh (w : px_W) (h : Nat) : Prop := (0 ≤ ef_a w 144 h ∧ ef_a w 144 h ≤ 4 ∧ ef_a w 176 h = ef_a w 144 h + 1 ∧ ef_a w 177 h = ef_a w 145 h ∧ 0 ≤ ef_a w 145 h ∧ ef_a w 145 h ≤ 11 ∧ (ef_a w 144 h = 0 → ef_a w 145 h ≤ 7)) ∨ ((ef_a w 144 h = 6 ∨ (ef_a w 144 h = 5 ∧ 0 ≤ ef_a w 146 h ∧ ef_a w 146 h ≤ 4)) ∧ (ef_a w 176 h = 0 ∨ ef_a w 176 h = 6))
def ea_D (w : px_W) (b k l m : Nat) : Prop := ea_C w b k l m ∧ (∀ c, c < 8 → ef_a w 152 (16 + c) = ef_a w 2 c) ∧ (∀ i, i < b → ef_a w 24 i = ef_a w 152 (216 + 4 * i) ∧ ef_a w 27 i = ef_a w 152 (216 + 4 * i + 3)) ∧ (∀ i, i < k → ef_a w 35 i = ef_a w 152 (284 + i)) ∧ (∀ i, i < l → ef_a w 36 i = ef_a w 152 (294 + 3 * i)) ∧ (∀ i, i < m → ef_a w 41 i = ef_a w 152 (318 + 3 * i + 1)) ∧ ∀ h, h < 4 → ea_sh w h
def ea_kd (w : px_W) (b k l m h : Nat) : Option (Int × Int) :=
  if ef_a w 144 h = 0 then some (1, ef_a w 2 (ef_a w 145 h).toNat)
  else if ef_a w 144 h = 1 then (if ef_a w 145 h < (b : Int) then some (if ef_a w 27 (ef_a w 145 h).toNat = 1 then 3 else 2, ef_a w 24 (ef_a w 145 h).toNat) else none)
  else if ef_a w 144 h = 2 then (if ef_a w 145 h < (k : Int) then some (4, ef_a w 35 (ef_a w 145 h).toNat) else none)
  else if ef_a w 144 h = 3 then (if ef_a w 145 h < (l : Int) then some (5, ef_a w 36 (ef_a w 145 h).toNat) else none)
  else if ef_a w 144 h = 4 then (if ef_a w 145 h < (m : Int) then some (6, ef_a w 41 (ef_a w 145 h).toNat) else none)
  else none
section EA4
variable {n b k l m h : Nat} {w w1 w' : px_W} {v : Option Value} {x x0 x1 x2 x3 K A : Int}
theorem ea_D_cg (s : ef_s [149, 150, 151, 178] w w') (hD : ea_D w b k l m) : ea_D w' b k l m := by
  obtain ⟨hC, h1, h2, h3, h4, h5, h6⟩ := hD
  refine ⟨ea_C_cg (ef_s_f s (by decide) 10) (ef_s_f s (by decide) 7) (ef_s_f s (by decide) 9) (ef_s_f s (by decide) 1) (ef_s_a s (by decide)) hC, ?_, ?_, ?_, ?_, ?_, ?_⟩
  · rw [ef_s_a s (k := 152) (by decide), ef_s_a s (k := 2) (by decide)]
    exact h1
  · rw [ef_s_a s (k := 152) (by decide), ef_s_a s (k := 24) (by decide), ef_s_a s (k := 27) (by decide)]
    exact h2
  · rw [ef_s_a s (k := 152) (by decide), ef_s_a s (k := 35) (by decide)]
    exact h3
  · rw [ef_s_a s (k := 152) (by decide), ef_s_a s (k := 36) (by decide)]
    exact h4
  · rw [ef_s_a s (k := 152) (by decide), ef_s_a s (k := 41) (by decide)]
    exact h5
  · intro h hh
    have z := h6 h hh
    unfold ea_sh at z ⊢
    rw [ef_s_a s (k := 144) (by decide), ef_s_a s (k := 145) (by decide), ef_s_a s (k := 146) (by decide), ef_s_a s (k := 176) (by decide), ef_s_a s (k := 177) (by decide)]
    exact z
theorem ea_kd_cg (s : ef_s [149, 150, 151, 178] w w') : ea_kd w' b k l m h = ea_kd w b k l m h := by
  unfold ea_kd
  rw [ef_s_a s (k := 144) (by decide), ef_s_a s (k := 145) (by decide), ef_s_a s (k := 2) (by decide), ef_s_a s (k := 24) (by decide), ef_s_a s (k := 27) (by decide), ef_s_a s (k := 35) (by decide), ef_s_a s (k := 36) (by decide), ef_s_a s (k := 41) (by decide)]
theorem ea_kd0 (c : ef_a w 144 h = 0) : ea_kd w b k l m h = some (1, ef_a w 2 (ef_a w 145 h).toNat) := by
  unfold ea_kd
  rw [if_pos c]
theorem ea_kd1 (c : ef_a w 144 h = 1) : ea_kd w b k l m h = if ef_a w 145 h < (b : Int) then some (if ef_a w 27 (ef_a w 145 h).toNat = 1 then 3 else 2, ef_a w 24 (ef_a w 145 h).toNat) else none := by
  unfold ea_kd
  rw [if_neg (by omega), if_pos c]
theorem ea_kd2 (c : ef_a w 144 h = 2) : ea_kd w b k l m h = if ef_a w 145 h < (k : Int) then some (4, ef_a w 35 (ef_a w 145 h).toNat) else none := by
  unfold ea_kd
  rw [if_neg (by omega), if_neg (by omega), if_pos c]
theorem ea_kd3 (c : ef_a w 144 h = 3) : ea_kd w b k l m h = if ef_a w 145 h < (l : Int) then some (5, ef_a w 36 (ef_a w 145 h).toNat) else none := by
  unfold ea_kd
  rw [if_neg (by omega), if_neg (by omega), if_neg (by omega), if_pos c]
theorem ea_kd4 (c : ef_a w 144 h = 4) : ea_kd w b k l m h = if ef_a w 145 h < (m : Int) then some (6, ef_a w 41 (ef_a w 145 h).toNat) else none := by
  unfold ea_kd
  rw [if_neg (by omega), if_neg (by omega), if_neg (by omega), if_neg (by omega), if_pos c]
theorem ea_kd5 (c : 5 ≤ ef_a w 144 h) : ea_kd w b k l m h = none := by
  unfold ea_kd
  rw [if_neg (by omega), if_neg (by omega), if_neg (by omega), if_neg (by omega), if_neg (by omega)]
theorem ea_kd_tw (hk : ea_kd w b k l m h = some (K, A)) : ec_tw A = A := by
  unfold ea_kd at hk
  split at hk
  · rw [← (Prod.mk.inj (Option.some.inj hk)).2]
    exact ef_tw _ _ _
  · split at hk
    · split at hk
      · rw [← (Prod.mk.inj (Option.some.inj hk)).2]
        exact ef_tw _ _ _
      · cases hk
    · split at hk
      · split at hk
        · rw [← (Prod.mk.inj (Option.some.inj hk)).2]
          exact ef_tw _ _ _
        · cases hk
      · split at hk
        · split at hk
          · rw [← (Prod.mk.inj (Option.some.inj hk)).2]
            exact ef_tw _ _ _
          · cases hk
        · split at hk
          · split at hk
            · rw [← (Prod.mk.inj (Option.some.inj hk)).2]
              exact ef_tw _ _ _
            · cases hk
          · cases hk
theorem ew_kdA (hD : ea_D w b k l m) (hh : h < 4) (hE : ec_E hb_X n 178 0 [(0, .inr (.inl 64)), (1, .inl (h : Int))] [] w (v, w1)) : ∃ z : Int, (v, w1) = (ec_R z, w) ∧ ec_W hb_A w ∧ ((∃ A : Int, ea_kd w b k l m h = some (z, A) ∧ 1 ≤ z ∧ z ≤ 6) ∨ (ea_kd w b k l m h = none ∧ (z = -1 ∨ (10 ≤ z ∧ z ≤ 14)))) := by
  have th : ec_tw (h : Int) = h := ec_twn (by omega)
  have z0 : ec_tw 0 = 0 := rfl
  have z1 : ec_tw 1 = 1 := rfl
  have z5 : ec_tw 5 = 5 := rfl
  have sh := hD.2.2.2.2.2.2 h hh
  unfold ea_sh at sh
  obtain ⟨hC, _⟩ := hD
  obtain ⟨hb, hk, hl, hm, _⟩ := id hC
  have e0 := eg178_0_0_0 hE
  have e1 := eg178_0_0_1 hE
  rw [th, ef_rd w 144 h, ef_tw w 144 h, z5] at e0 e1
  rw [ef_rd w 146 h] at e1
  rw [ef_rd w 145 h] at e0
  by_cases c5 : ef_a w 144 h = 5
  · obtain ⟨_, hr, hW⟩ := e1 c5
    refine ⟨_, hr, hW, .inr ⟨ea_kd5 (by omega), .inr ?_⟩⟩
    rcases sh with z | ⟨z, _⟩
    · omega
    · omega
  · obtain ⟨_, u, y, a1, a2⟩ := e0 c5
    obtain ⟨e, W⟩ := ew_hmA hC (ef_tw w 144 h) a1
    injection e with e i
    rw [i] at a2
    obtain ⟨_, u2, y2, a3, a4⟩ := eg178_0_45_0 (a2 _ e W)
    obtain ⟨e2, W2⟩ := ew_within a3
    have bc := ea_cn_in (b := b) (k := k) (l := l) (m := m) (x := ef_a w 144 h) hb hk hl hm
    have tc : ec_tw (ea_cn b k l m (ef_a w 144 h) - 1) = ea_cn b k l m (ef_a w 144 h) - 1 := ec_tw_id (by omega) (by omega)
    rw [z0, ef_tw w 145 h, tc] at e2
    injection e2 with e2 i2
    rw [i2] at a4
    have b5 := a4 _ e2 W2
    have cases6 : ef_a w 144 h = 0 ∨ ef_a w 144 h = 1 ∨ ef_a w 144 h = 2 ∨ ef_a w 144 h = 3 ∨ ef_a w 144 h = 4 ∨ ef_a w 144 h = 6 := by
      rcases sh with z | ⟨z, _⟩
      · omega
      · omega
    have no : ¬ (0 ≤ ef_a w 145 h ∧ ef_a w 145 h ≤ ea_cn b k l m (ef_a w 144 h) - 1) → (v, w1) = (ec_R (-1), w) ∧ ec_W hb_A w := by
      intro q
      rw [if_neg q] at b5
      exact (eg178_0_50_7 b5 rfl).2
    rcases cases6 with c | c | c | c | c | c
    · have q : 0 ≤ ef_a w 145 h ∧ ef_a w 145 h ≤ ea_cn b k l m (ef_a w 144 h) - 1 := by
        have e8 : ea_cn b k l m (ef_a w 144 h) = 8 := by rw [c]; rfl
        rw [e8]
        rcases sh with z | ⟨z, _⟩ <;> omega
      rw [if_pos q] at b5
      have l0 := eg178_0_50_0 b5 (by decide)
      rw [ef_tw w 144 h] at l0
      obtain ⟨_, hr, hW⟩ := l0 c
      exact ⟨_, hr, hW, .inl ⟨_, ea_kd0 c, by decide, by decide⟩⟩
    · have e8 : ea_cn b k l m (ef_a w 144 h) = (b : Int) := by rw [c]; rfl
      rw [e8] at b5 no
      by_cases q : ef_a w 145 h < (b : Int)
      · have q' : 0 ≤ ef_a w 145 h ∧ ef_a w 145 h ≤ (b : Int) - 1 := by
          rcases sh with z | ⟨z, _⟩ <;> omega
        rw [if_pos q'] at b5
        have en : ef_a w 145 h = (((ef_a w 145 h).toNat : Nat) : Int) := by omega
        have rd : ec_tw (ec_rd w 27 (ec_tw (ef_a w 145 h))) = ef_a w 27 (ef_a w 145 h).toNat := by
          rw [ef_tw w 145 h]
          have q2 : ec_tw (ec_rd w 27 (((ef_a w 145 h).toNat : Nat) : Int)) = ef_a w 27 (ef_a w 145 h).toNat := ef_tw w 27 _
          rw [← en] at q2
          exact q2
        have l1 := eg178_0_50_1 b5 (by decide)
        have l2 := eg178_0_50_2 b5 (by decide)
        rw [rd, ef_tw w 144 h, z1] at l1 l2
        have kd := ea_kd1 (b := b) (k := k) (l := l) (m := m) c
        rw [if_pos q] at kd
        by_cases d : ef_a w 27 (ef_a w 145 h).toNat = 1
        · rw [if_pos d] at kd
          obtain ⟨_, hr, hW⟩ := l2 c d
          exact ⟨_, hr, hW, .inl ⟨_, kd, by decide, by decide⟩⟩
        · rw [if_neg d] at kd
          obtain ⟨_, hr, hW⟩ := l1 c d
          exact ⟨_, hr, hW, .inl ⟨_, kd, by decide, by decide⟩⟩
      · obtain ⟨hr, hW⟩ := no (by omega)
        refine ⟨_, hr, hW, .inr ⟨?_, .inl rfl⟩⟩
        rw [ea_kd1 c, if_neg q]
    · have e8 : ea_cn b k l m (ef_a w 144 h) = (k : Int) := by rw [c]; rfl
      rw [e8] at b5 no
      by_cases q : ef_a w 145 h < (k : Int)
      · have q' : 0 ≤ ef_a w 145 h ∧ ef_a w 145 h ≤ (k : Int) - 1 := by
          rcases sh with z | ⟨z, _⟩ <;> omega
        rw [if_pos q'] at b5
        have l3 := eg178_0_50_3 b5 (by decide)
        rw [ef_tw w 144 h] at l3
        obtain ⟨_, hr, hW⟩ := l3 c
        refine ⟨_, hr, hW, .inl ⟨ef_a w 35 (ef_a w 145 h).toNat, ?_, by decide, by decide⟩⟩
        rw [ea_kd2 c, if_pos q]
      · obtain ⟨hr, hW⟩ := no (by omega)
        refine ⟨_, hr, hW, .inr ⟨?_, .inl rfl⟩⟩
        rw [ea_kd2 c, if_neg q]
    · have e8 : ea_cn b k l m (ef_a w 144 h) = (l : Int) := by rw [c]; rfl
      rw [e8] at b5 no
      by_cases q : ef_a w 145 h < (l : Int)
      · have q' : 0 ≤ ef_a w 145 h ∧ ef_a w 145 h ≤ (l : Int) - 1 := by
          rcases sh with z | ⟨z, _⟩ <;> omega
        rw [if_pos q'] at b5
        have l3 := eg178_0_50_4 b5 (by decide)
        rw [ef_tw w 144 h] at l3
        obtain ⟨_, hr, hW⟩ := l3 c
        refine ⟨_, hr, hW, .inl ⟨ef_a w 36 (ef_a w 145 h).toNat, ?_, by decide, by decide⟩⟩
        rw [ea_kd3 c, if_pos q]
      · obtain ⟨hr, hW⟩ := no (by omega)
        refine ⟨_, hr, hW, .inr ⟨?_, .inl rfl⟩⟩
        rw [ea_kd3 c, if_neg q]
    · have e8 : ea_cn b k l m (ef_a w 144 h) = (m : Int) := by rw [c]; rfl
      rw [e8] at b5 no
      by_cases q : ef_a w 145 h < (m : Int)
      · have q' : 0 ≤ ef_a w 145 h ∧ ef_a w 145 h ≤ (m : Int) - 1 := by
          rcases sh with z | ⟨z, _⟩ <;> omega
        rw [if_pos q'] at b5
        have l3 := eg178_0_50_5 b5 (by decide)
        rw [ef_tw w 144 h] at l3
        obtain ⟨_, hr, hW⟩ := l3 c
        refine ⟨_, hr, hW, .inl ⟨ef_a w 41 (ef_a w 145 h).toNat, ?_, by decide, by decide⟩⟩
        rw [ea_kd4 c, if_pos q]
      · obtain ⟨hr, hW⟩ := no (by omega)
        refine ⟨_, hr, hW, .inr ⟨?_, .inl rfl⟩⟩
        rw [ea_kd4 c, if_neg q]
    · have e8 : ea_cn b k l m (ef_a w 144 h) = 0 := by rw [c]; rfl
      rw [e8] at no
      obtain ⟨hr, hW⟩ := no (by omega)
      exact ⟨_, hr, hW, .inr ⟨ea_kd5 (by omega), .inl rfl⟩⟩
theorem ew_amA (hD : ea_D w b k l m) (hh : h < 4) (hk : ea_kd w b k l m h = some (K, A)) (hE : ec_E hb_X n 180 0 [(0, .inr (.inl 64)), (1, .inl (ef_a w 144 h)), (2, .inl (ef_a w 145 h))] [] w (v, w1)) : (v, w1) = (ec_R A, w) ∧ ec_W hb_A w := by
  have sh := hD.2.2.2.2.2.2 h hh
  unfold ea_sh at sh
  have rd : ∀ r : Nat, 0 ≤ ef_a w 145 h → ec_rd w r (ec_tw (ef_a w 145 h)) = ef_a w r (ef_a w 145 h).toNat := by
    intro r q
    have en : ef_a w 145 h = (((ef_a w 145 h).toNat : Nat) : Int) := by omega
    rw [ef_tw w 145 h]
    have q2 : ec_rd w r (((ef_a w 145 h).toNat : Nat) : Int) = ef_a w r (ef_a w 145 h).toNat := ef_rd w r _
    rw [← en] at q2
    exact q2
  have g0 := eg180_0_0_0 hE
  have g1 := eg180_0_0_1 hE
  have g2 := eg180_0_0_2 hE
  have g3 := eg180_0_0_3 hE
  have g4 := eg180_0_0_4 hE
  rw [ef_tw w 144 h] at g0 g1 g2 g3 g4
  rcases sh with ⟨s1, s2, s3, s4, s5, s6, s7⟩ | ⟨z, _⟩
  · rw [rd 2 s5] at g0
    rw [rd 24 s5] at g1
    rw [rd 35 s5] at g2
    rw [rd 36 s5] at g3
    rw [rd 41 s5] at g4
    have cases5 : ef_a w 144 h = 0 ∨ ef_a w 144 h = 1 ∨ ef_a w 144 h = 2 ∨ ef_a w 144 h = 3 ∨ ef_a w 144 h = 4 := by omega
    rcases cases5 with c | c | c | c | c
    · rw [ea_kd0 c] at hk
      have e := (Prod.mk.inj (Option.some.inj hk)).2
      rw [← e]
      exact (g0 c).2
    · rw [ea_kd1 c] at hk
      by_cases q : ef_a w 145 h < (b : Int)
      · rw [if_pos q] at hk
        have e := (Prod.mk.inj (Option.some.inj hk)).2
        rw [← e]
        exact (g1 c).2
      · rw [if_neg q] at hk
        cases hk
    · rw [ea_kd2 c] at hk
      by_cases q : ef_a w 145 h < (k : Int)
      · rw [if_pos q] at hk
        have e := (Prod.mk.inj (Option.some.inj hk)).2
        rw [← e]
        exact (g2 c).2
      · rw [if_neg q] at hk
        cases hk
    · rw [ea_kd3 c] at hk
      by_cases q : ef_a w 145 h < (l : Int)
      · rw [if_pos q] at hk
        have e := (Prod.mk.inj (Option.some.inj hk)).2
        rw [← e]
        exact (g3 c).2
      · rw [if_neg q] at hk
        cases hk
    · rw [ea_kd4 c] at hk
      by_cases q : ef_a w 145 h < (m : Int)
      · rw [if_pos q] at hk
        have e := (Prod.mk.inj (Option.some.inj hk)).2
        rw [← e]
        exact (g4 c).2
      · rw [if_neg q] at hk
        cases hk
  · rw [ea_kd5 (by omega)] at hk
    cases hk
theorem ew_kdB (hD : ea_D w b k l m) (hh : h < 4) (hE : ec_E hb_X n 278 0 [(0, .inr (.inl 215)), (1, .inl (h : Int))] [] w (v, w1)) : ∃ z : Int, (v, w1) = (ec_R z, w) ∧ ec_W hb_A w ∧ ((∃ A : Int, ea_kd w b k l m h = some (z, A) ∧ 1 ≤ z ∧ z ≤ 6) ∨ (ea_kd w b k l m h = none ∧ (z = -1 ∨ z = -2))) := by
  have th : ec_tw (h : Int) = h := ec_twn (by omega)
  have z1 : ec_tw 1 = 1 := rfl
  have n7 : ec_tw 7 = ((7 : Nat) : Int) := rfl
  have n9 : ec_tw 9 = ((9 : Nat) : Int) := rfl
  have sh := hD.2.2.2.2.2.2 h hh
  unfold ea_sh at sh
  obtain ⟨hC, _, hBo, _⟩ := hD
  obtain ⟨hb, hk, hl, hm, ⟨_, b2⟩, ⟨_, k2⟩, ⟨_, l2⟩, _, m2⟩ := hC
  have g0 := eg278_151_0_0 hE
  have g1 := eg278_151_0_1 hE
  have g2 := eg278_151_0_2 hE
  have g3 := eg278_151_0_3 hE
  have g4 := eg278_151_0_4 hE
  have g5 := eg278_151_0_5 hE
  have g6 := eg278_151_0_6 hE
  have g7 := eg278_151_0_7 hE
  have g8 := eg278_151_0_8 hE
  rw [th, ef_rd w 176 h, ef_tw w 176 h] at g0 g1 g2 g3 g4 g5 g6 g7 g8
  rw [ef_rd w 177 h] at g1 g2 g3 g4 g5 g6
  rw [n7, ef_rd w 152 7, k2, ef_tw w 177 h, ec_twn (n := k) (by omega)] at g2 g3
  rw [n9, ef_rd w 152 9, m2, ef_tw w 177 h, ec_twn (n := m) (by omega)] at g5 g6
  rcases sh with ⟨s1, s2, s3, s4, s5, s6, s7⟩ | ⟨z, s8⟩
  · rw [s4] at g1 g2 g3 g4 g5 g6
    have cases5 : ef_a w 144 h = 0 ∨ ef_a w 144 h = 1 ∨ ef_a w 144 h = 2 ∨ ef_a w 144 h = 3 ∨ ef_a w 144 h = 4 := by omega
    rcases cases5 with c | c | c | c | c
    · obtain ⟨_, hr, hW⟩ := g0 (by omega)
      exact ⟨_, hr, hW, .inl ⟨_, ea_kd0 c, by decide, by decide⟩⟩
    · obtain ⟨_, u, y, a1, a2⟩ := g1 (by omega)
      obtain ⟨e, W⟩ := ew_boB hb b2 (ef_tw w 145 h) a1
      injection e with e i
      rw [i] at a2
      have b5 := a2 _ e W
      by_cases q : ef_a w 145 h < (b : Int)
      · rw [if_pos ⟨s5, by omega⟩] at b5
        have l1 := eg278_151_59_0 b5 (by decide)
        have l2 := eg278_151_59_1 b5 (by decide)
        obtain ⟨N, hN⟩ : ∃ N : Nat, ef_a w 145 h = (N : Int) := ⟨(ef_a w 145 h).toNat, by omega⟩
        have ep : 216 + 4 * (N : Int) + 3 = ((216 + 4 * N + 3 : Nat) : Int) := by omega
        rw [hN, ep, ec_twn (n := 216 + 4 * N + 3) (by omega), ef_rd w 152 (216 + 4 * N + 3), ef_tw w 152 (216 + 4 * N + 3), z1] at l1 l2
        have kd := ea_kd1 (b := b) (k := k) (l := l) (m := m) c
        have rN : ef_a w 27 N = ef_a w 152 (216 + 4 * N + 3) := (hBo N (by omega)).2
        rw [if_pos q, hN, Int.toNat_natCast, rN] at kd
        by_cases d : ef_a w 152 (216 + 4 * N + 3) = 1
        · rw [if_pos d] at kd
          obtain ⟨_, hr, hW⟩ := l2 d
          exact ⟨_, hr, hW, .inl ⟨_, kd, by decide, by decide⟩⟩
        · rw [if_neg d] at kd
          obtain ⟨_, hr, hW⟩ := l1 d
          exact ⟨_, hr, hW, .inl ⟨_, kd, by decide, by decide⟩⟩
      · rw [if_neg (by omega)] at b5
        obtain ⟨_, hr, hW⟩ := eg278_151_59_2 b5 rfl
        refine ⟨_, hr, hW, .inr ⟨?_, .inl rfl⟩⟩
        rw [ea_kd1 c, if_neg q]
    · by_cases q : ef_a w 145 h < (k : Int)
      · obtain ⟨_, hr, hW⟩ := g3 (by omega) q
        refine ⟨_, hr, hW, .inl ⟨ef_a w 35 (ef_a w 145 h).toNat, ?_, by decide, by decide⟩⟩
        rw [ea_kd2 c, if_pos q]
      · obtain ⟨_, hr, hW⟩ := g2 (by omega) (by omega)
        refine ⟨_, hr, hW, .inr ⟨?_, .inl rfl⟩⟩
        rw [ea_kd2 c, if_neg q]
    · obtain ⟨_, u, y, a1, a2⟩ := g4 (by omega)
      obtain ⟨e, W⟩ := ew_liB hl l2 (ef_tw w 145 h) a1
      injection e with e i
      rw [i] at a2
      have b5 := a2 _ e W
      by_cases q : ef_a w 145 h < (l : Int)
      · rw [if_pos ⟨s5, by omega⟩] at b5
        obtain ⟨_, hr, hW⟩ := eg278_151_112_1 b5 (by decide)
        refine ⟨_, hr, hW, .inl ⟨ef_a w 36 (ef_a w 145 h).toNat, ?_, by decide, by decide⟩⟩
        rw [ea_kd3 c, if_pos q]
      · rw [if_neg (by omega)] at b5
        obtain ⟨_, hr, hW⟩ := eg278_151_112_0 b5 rfl
        refine ⟨_, hr, hW, .inr ⟨?_, .inl rfl⟩⟩
        rw [ea_kd3 c, if_neg q]
    · by_cases q : ef_a w 145 h < (m : Int)
      · obtain ⟨_, hr, hW⟩ := g6 (by omega) q
        refine ⟨_, hr, hW, .inl ⟨ef_a w 41 (ef_a w 145 h).toNat, ?_, by decide, by decide⟩⟩
        rw [ea_kd4 c, if_pos q]
      · obtain ⟨_, hr, hW⟩ := g5 (by omega) (by omega)
        refine ⟨_, hr, hW, .inr ⟨?_, .inl rfl⟩⟩
        rw [ea_kd4 c, if_neg q]
  · rcases s8 with c | c
    · obtain ⟨_, hr, hW⟩ := g8 (by omega)
      exact ⟨_, hr, hW, .inr ⟨ea_kd5 (by omega), .inl rfl⟩⟩
    · obtain ⟨_, hr, hW⟩ := g7 c
      exact ⟨_, hr, hW, .inr ⟨ea_kd5 (by omega), .inr rfl⟩⟩
theorem ew_amB {r : Option Value × px_W} (hD : ea_D w b k l m) (hh : h < 4) (hk : ea_kd w b k l m h = some (K, A)) (f48 : ec_fd w 151 48 = K) (f49 : ec_fd w 151 49 = ef_a w 145 h) (hE : ec_E hb_X n 289 50 [(0, .inr (.inl 215)), (1, .inl x1), (2, .inl x2), (3, .inl x3)] [] w r) : ec_E hb_X n 289 167 [(0, .inr (.inl 215)), (1, .inl x1), (2, .inl x2), (3, .inl x3)] [.inl A, .inr (.inl 215)] w r := by
  have sh := hD.2.2.2.2.2.2 h hh
  unfold ea_sh at sh
  obtain ⟨_, hRo, hBo, hCa, hLi, hWo, _⟩ := hD
  have z1 : ec_tw 1 = 1 := rfl
  have z4 : ec_tw 4 = 4 := rfl
  have z5 : ec_tw 5 = 5 := rfl
  have tK : ec_tw K = K := by
    rw [← f48]
    exact ec_tw_fd w 151 48
  have g0 := eg289_151_50_0 hE
  have g1 := eg289_151_50_1 hE
  have g2 := eg289_151_50_2 hE
  have g3 := eg289_151_50_3 hE
  have g4 := eg289_151_50_4 hE
  rw [f48, f49, tK, z1] at g0 g1 g2 g3 g4
  rw [z4] at g0 g1 g2 g3
  rw [z5] at g0 g1
  rcases sh with ⟨s1, s2, s3, s4, s5, s6, s7⟩ | ⟨z, _⟩
  · obtain ⟨N, hN⟩ : ∃ N : Nat, ef_a w 145 h = (N : Int) := ⟨(ef_a w 145 h).toNat, by omega⟩
    rw [hN] at g0 g1 g2 g3 g4
    have cases5 : ef_a w 144 h = 0 ∨ ef_a w 144 h = 1 ∨ ef_a w 144 h = 2 ∨ ef_a w 144 h = 3 ∨ ef_a w 144 h = 4 := by omega
    rcases cases5 with c | c | c | c | c
    · rw [ea_kd0 c, hN, Int.toNat_natCast] at hk
      obtain ⟨eK, eA⟩ := Prod.mk.inj (Option.some.inj hk)
      have ep : 16 + (N : Int) = ((16 + N : Nat) : Int) := by omega
      have s7' := s7 c
      rw [ep, ec_twn (n := 16 + N) (by omega), ef_rd w 152 (16 + N), hRo N (by omega), eA] at g4
      exact (g4 (by omega)).2
    · rw [ea_kd1 c] at hk
      by_cases q : ef_a w 145 h < (b : Int)
      · rw [if_pos q, hN, Int.toNat_natCast] at hk
        obtain ⟨eK, eA⟩ := Prod.mk.inj (Option.some.inj hk)
        have ep : 216 + 4 * (N : Int) = ((216 + 4 * N : Nat) : Int) := by omega
        have kk : K ≠ 1 ∧ K < 4 := by
          rw [← eK]
          split <;> decide
        rw [ep, ec_twn (n := 216 + 4 * N) (by omega), ef_rd w 152 (216 + 4 * N), ← (hBo N (by omega)).1, eA] at g3
        exact (g3 kk.1 kk.2).2
      · rw [if_neg q] at hk
        cases hk
    · rw [ea_kd2 c] at hk
      by_cases q : ef_a w 145 h < (k : Int)
      · rw [if_pos q, hN, Int.toNat_natCast] at hk
        obtain ⟨eK, eA⟩ := Prod.mk.inj (Option.some.inj hk)
        have ep : 284 + (N : Int) = ((284 + N : Nat) : Int) := by omega
        rw [ep, ec_twn (n := 284 + N) (by omega), ef_rd w 152 (284 + N), ← hCa N (by omega), eA] at g2
        exact (g2 (by omega) (by omega) (by omega)).2
      · rw [if_neg q] at hk
        cases hk
    · rw [ea_kd3 c] at hk
      by_cases q : ef_a w 145 h < (l : Int)
      · rw [if_pos q, hN, Int.toNat_natCast] at hk
        obtain ⟨eK, eA⟩ := Prod.mk.inj (Option.some.inj hk)
        have ep : 294 + 3 * (N : Int) = ((294 + 3 * N : Nat) : Int) := by omega
        rw [ep, ec_twn (n := 294 + 3 * N) (by omega), ef_rd w 152 (294 + 3 * N), ← hLi N (by omega), eA] at g1
        exact (g1 (by omega) (by omega) (by omega) (by omega)).2
      · rw [if_neg q] at hk
        cases hk
    · rw [ea_kd4 c] at hk
      by_cases q : ef_a w 145 h < (m : Int)
      · rw [if_pos q, hN, Int.toNat_natCast] at hk
        obtain ⟨eK, eA⟩ := Prod.mk.inj (Option.some.inj hk)
        have ep : 318 + 3 * (N : Int) + 1 = ((318 + 3 * N + 1 : Nat) : Int) := by omega
        rw [ep, ec_twn (n := 318 + 3 * N + 1) (by omega), ef_rd w 152 (318 + 3 * N + 1), ← hWo N (by omega), eA] at g0
        exact (g0 (by omega) (by omega) (by omega) (by omega)).2
      · rw [if_neg q] at hk
        cases hk
  · rw [ea_kd5 (by omega)] at hk
    cases hk
theorem ew_actA (hD : ea_D w b k l m) (t1 : ec_tw x1 = x1) (t2 : ec_tw x2 = x2) (hE : ec_E hb_X n 168 0 [(0, .inr (.inl 64)), (1, .inl x1), (2, .inl x2), (3, .inl x3)] [] w (v, w1)) : (¬ (((0 ≤ x1 ∧ x1 < 4) ∧ (0 ≤ x2 ∧ x2 ≤ 3)) ∧ ea_kd w b k l m x1.toNat ≠ none) ∧ v = ec_R 0 ∧ ea_fA w w1 ∧ ea_tA w1 []) ∨ (((0 ≤ x1 ∧ x1 < 4) ∧ (0 ≤ x2 ∧ x2 ≤ 3)) ∧ ∃ K A : Int, ea_kd w b k l m x1.toNat = some (K, A) ∧ (1 ≤ K ∧ K ≤ 6) ∧ ∃ (wa y : px_W) (u : Option Value), ea_fA w wa ∧ ea_sA wa K (ef_a w 145 x1.toNat) A 0 [] ∧ ec_E hb_X n 179 0 [(0, .inr (.inl 64)), (1, .inl x2), (2, .inl x3)] [] wa (u, y) ∧ ((∃ z : Int, u = ec_R z) → ec_W hb_A y → v = u ∧ w1 = y)) := by
  have z0 : ec_tw 0 = 0 := rfl
  have z3 : ec_tw 3 = 3 := rfl
  have z10 : ec_tw 10 = 10 := rfl
  have zn : ec_tw (-1) = -1 := rfl
  obtain ⟨_, u, w2, a1, a2⟩ := eg168_0_0_0 hE
  obtain ⟨_, hr, W2⟩ := eg2_149_0_0 a1
  injection hr with e1 e2
  have W0 := hE.1
  have W1 : ec_W hb_A (ec_pf w 149 0 0) := ec_W_pf rfl rfl W0
  rw [← e2] at W2
  have F : ∀ f, ec_fd w2 149 f = if f = 2 then 0 else if f = 0 then 0 else ec_fd w 149 f := by
    intro f
    rw [e2, ec_fd_pf (k := 149) (f := 2) W1 rfl (by decide), ec_fd_pf (k := 149) (f := 0) W0 rfl (by decide), z0]
  have s2 : ef_s [149] w w2 := by
    rw [e2]
    exact ef_s_trans (ef_s_pf List.mem_cons_self) (ef_s_pf List.mem_cons_self)
  have f2 : ea_fA w w2 := ef_s_mono s2 (by decide)
  have tr2 : ea_tA w2 [] := by
    refine ⟨?_, fun i hi => absurd hi (Nat.not_lt_zero _)⟩
    rw [F 0, if_neg (by decide), if_pos rfl]
    rfl
  have s4 : ef_s [149, 150, 151, 178] w w2 := ef_s_mono s2 (by decide)
  have hD2 := ea_D_cg s4 hD
  have ek : ∀ h0 : Nat, ea_kd w2 b k l m h0 = ea_kd w b k l m h0 := fun h0 => ea_kd_cg s4
  have bad : ¬ (((0 ≤ x1 ∧ x1 < 4) ∧ (0 ≤ x2 ∧ x2 ≤ 3)) ∧ ea_kd w b k l m x1.toNat ≠ none) → (v, w1) = (ec_R 0, w2) → ¬ (((0 ≤ x1 ∧ x1 < 4) ∧ (0 ≤ x2 ∧ x2 ≤ 3)) ∧ ea_kd w b k l m x1.toNat ≠ none) ∧ v = ec_R 0 ∧ ea_fA w w1 ∧ ea_tA w1 [] := by
    intro q e
    injection e with g1 g2
    rw [g2]
    exact ⟨q, g1, f2, tr2⟩
  have b0 := a2 e1 W2
  clear a1 a2
  obtain ⟨_, u3, y3, a1, a2⟩ := eg168_0_7_0 b0
  obtain ⟨e, W⟩ := ew_oneA a1
  rw [t1] at e
  injection e with e i
  rw [i] at a2
  have b1 := a2 _ e W
  clear a1 a2 e i
  by_cases p1 : 0 ≤ x1 ∧ x1 < 4
  · rw [if_pos p1] at b1
    obtain ⟨_, u4, y4, a1, a2⟩ := eg168_0_11_1 b1 (by decide)
    obtain ⟨e, W⟩ := ew_within a1
    rw [z0, z3, t2] at e
    injection e with e i
    rw [i] at a2
    have b2 := a2 _ e W
    clear a1 a2 e i
    by_cases p2 : 0 ≤ x2 ∧ x2 ≤ 3
    · rw [if_pos p2] at b2
      obtain ⟨h0, hh⟩ : ∃ h0 : Nat, h0 = x1.toNat := ⟨_, rfl⟩
      have ex : x1 = (h0 : Int) := by omega
      obtain ⟨_, u5, y5, a1, a2⟩ := eg168_0_20_0 b2 (by decide)
      have a1' : ec_E hb_X n 178 0 [(0, .inr (.inl 64)), (1, .inl (h0 : Int))] [] w2 (u5, y5) := by
        rw [← ex]
        exact a1
      obtain ⟨z, e, W, o⟩ := ew_kdA hD2 (by omega) a1'
      rw [ek h0] at o
      injection e with e i
      rw [i] at a2
      have b3 := a2 _ e W
      clear a1 a1' a2 e i
      rw [← hh]
      rcases o with ⟨A, kd, k1, k2⟩ | ⟨kd, oz⟩
      · refine .inr ⟨⟨p1, p2⟩, z, A, kd, ⟨k1, k2⟩, ?_⟩
        have tz : ec_tw z = z := ec_tw_id (by omega) (by omega)
        have th : ec_tw x1 = (h0 : Int) := t1.trans ex
        have l1 := eg168_0_30_1 b3
        rw [tz, zn, z10, th, ef_rd w2 144 h0, ef_rd w2 145 h0] at l1
        obtain ⟨_, u6, y6, a1, a2⟩ := l1 (by omega) (by omega)
        obtain ⟨e, W⟩ := ew_amA hD2 (by omega) ((ek h0).trans kd) a1
        injection e with e i
        rw [i] at a2
        have b4 := a2 _ e W
        clear a1 a2 e i
        obtain ⟨_, u7, y7, a1, a2⟩ := eg168_0_81_0 b4
        obtain ⟨_, hr7, W7⟩ := eg3_149_0_0 a1
        injection hr7 with g1 g2
        rw [← g2] at W7
        have b5 := a2 g1 W7
        obtain ⟨_, u8, y8, a3, a4⟩ := eg168_0_84_0 b5
        have Wa : ec_W hb_A (ec_pf w2 149 3 z) := ec_W_pf rfl rfl W2
        have Wb : ec_W hb_A (ec_pf (ec_pf w2 149 3 z) 149 4 (ef_a w2 145 h0)) := ec_W_pf rfl rfl Wa
        have F7 : ∀ f, ec_fd y7 149 f = if f = 5 then ec_tw A else if f = 4 then ef_a w2 145 h0 else if f = 3 then z else ec_fd w2 149 f := by
          intro f
          rw [g2, ec_fd_pf (k := 149) (f := 5) Wb rfl (by decide), ec_fd_pf (k := 149) (f := 4) Wa rfl (by decide), ec_fd_pf (k := 149) (f := 3) W2 rfl (by decide), ef_tw, tz]
        have s7 : ef_s [149] w2 y7 := by
          rw [g2]
          exact ef_s_trans (ef_s_trans (ef_s_pf List.mem_cons_self) (ef_s_pf List.mem_cons_self)) (ef_s_pf List.mem_cons_self)
        have tA : ec_tw A = A := ea_kd_tw kd
        refine ⟨y7, y8, u8, ea_fA_t f2 (ef_s_mono s7 (by decide)), ⟨?_, ?_, ?_, ?_, ?_, ?_⟩, a3, fun hz W8 => ?_⟩
        · rw [F7 3, if_neg (by decide), if_neg (by decide), if_pos rfl]
        · rw [F7 4, if_neg (by decide), if_pos rfl, ef_s_a s2 (by decide)]
        · rw [F7 5, if_pos rfl, tA]
        · rw [F7 2, if_neg (by decide), if_neg (by decide), if_neg (by decide), F 2, if_pos rfl]
        · rw [F7 0, if_neg (by decide), if_neg (by decide), if_neg (by decide), F 0, if_neg (by decide), if_pos rfl]
          rfl
        · intro i hi
          exact absurd hi (Nat.not_lt_zero _)
        · obtain ⟨zz, hzz⟩ := hz
          obtain ⟨_, hr9, _⟩ := eg168_0_90_0 (a4 zz hzz W8)
          injection hr9 with q1 q2
          exact ⟨q1.trans hzz.symm, q2⟩
      · refine .inl ?_
        have q : ¬ (((0 ≤ x1 ∧ x1 < 4) ∧ (0 ≤ x2 ∧ x2 ≤ 3)) ∧ ea_kd w b k l m x1.toNat ≠ none) := by
          rw [← hh]
          exact fun z => z.2 kd
        rw [hh]
        rcases oz with c | c
        · obtain ⟨_, hr, _⟩ := eg168_0_30_0 b3 (by rw [c])
          exact bad q hr
        · have tz : ec_tw z = z := ec_tw_id (by omega) (by omega)
          have l2 := eg168_0_30_2 b3
          rw [tz, zn, z10] at l2
          obtain ⟨_, hr, _⟩ := l2 (by omega) (by omega)
          exact bad q hr
    · rw [if_neg p2] at b2
      obtain ⟨_, hr, _⟩ := eg168_0_20_1 b2 rfl
      exact .inl (bad (fun z => p2 z.1.2) hr)
  · rw [if_neg p1] at b1
    obtain ⟨_, hr, _⟩ := eg168_0_11_0 b1 rfl
    exact .inl (bad (fun z => p1 z.1.1) hr)
theorem ew_actB (hD : ea_D w b k l m) (t1 : ec_tw x1 = x1) (t2 : ec_tw x2 = x2) (hE : ec_E hb_X n 289 0 [(0, .inr (.inl 215)), (1, .inl x1), (2, .inl x2), (3, .inl x3)] [] w (v, w1)) : (¬ (((0 ≤ x1 ∧ x1 < 4) ∧ (0 ≤ x2 ∧ x2 ≤ 3)) ∧ ea_kd w b k l m x1.toNat ≠ none) ∧ v = ec_R 0 ∧ ea_fB w w1 ∧ ea_tB w1 []) ∨ (((0 ≤ x1 ∧ x1 < 4) ∧ (0 ≤ x2 ∧ x2 ≤ 3)) ∧ ∃ K A : Int, ea_kd w b k l m x1.toNat = some (K, A) ∧ ∃ wb : px_W, ea_fB w wb ∧ ea_sB wb K (ef_a w 145 x1.toNat) A 0 [] ∧ ec_E hb_X n 289 175 [(0, .inr (.inl 215)), (1, .inl x1), (2, .inl x2), (3, .inl x3)] [] wb (v, w1)) := by
  have z0 : ec_tw 0 = 0 := rfl
  have z3 : ec_tw 3 = 3 := rfl
  have W0 := hE.1
  obtain ⟨w2, e2⟩ : ∃ w2, w2 = ec_pf w 151 47 0 := ⟨_, rfl⟩
  have W2 : ec_W hb_A w2 := by
    rw [e2]
    exact ec_W_pf rfl rfl W0
  have F : ∀ f, ec_fd w2 151 f = if f = 47 then 0 else ec_fd w 151 f := by
    intro f
    rw [e2, ec_fd_pf (k := 151) (f := 47) W0 rfl (by decide), z0]
  have s2 : ef_s [151] w w2 := by
    rw [e2]
    exact ef_s_pf List.mem_cons_self
  have f2 : ea_fB w w2 := by
    refine ⟨ef_s_mono s2 (by decide), fun f hf => ?_⟩
    rw [F f, if_neg (by omega)]
  have tr2 : ea_tB w2 [] := by
    refine ⟨?_, fun i hi => absurd hi (Nat.not_lt_zero _)⟩
    rw [F 47, if_pos rfl]
    rfl
  have s4 : ef_s [149, 150, 151, 178] w w2 := ef_s_mono s2 (by decide)
  have hD2 := ea_D_cg s4 hD
  have ek : ∀ h0 : Nat, ea_kd w2 b k l m h0 = ea_kd w b k l m h0 := fun h0 => ea_kd_cg s4
  have bad : ¬ (((0 ≤ x1 ∧ x1 < 4) ∧ (0 ≤ x2 ∧ x2 ≤ 3)) ∧ ea_kd w b k l m x1.toNat ≠ none) → (v, w1) = (ec_R 0, w2) → ¬ (((0 ≤ x1 ∧ x1 < 4) ∧ (0 ≤ x2 ∧ x2 ≤ 3)) ∧ ea_kd w b k l m x1.toNat ≠ none) ∧ v = ec_R 0 ∧ ea_fB w w1 ∧ ea_tB w1 [] := by
    intro q e
    injection e with g1 g2
    rw [g2]
    exact ⟨q, g1, f2, tr2⟩
  have l0 := eg289_151_0_0 hE
  rw [← e2] at l0
  obtain ⟨_, u3, y3, a1, a2⟩ := l0
  obtain ⟨e, W⟩ := ew_fourB a1
  rw [t1] at e
  injection e with e i
  rw [i] at a2
  have b1 := a2 _ e W
  clear a1 a2 e i
  by_cases p1 : 0 ≤ x1 ∧ x1 < 4
  · rw [if_pos p1] at b1
    obtain ⟨_, u4, y4, a1, a2⟩ := eg289_151_9_1 b1 (by decide)
    obtain ⟨e, W⟩ := ew_in a1
    rw [z0, z3, t2] at e
    injection e with e i
    rw [i] at a2
    have b2 := a2 _ e W
    clear a1 a2 e i
    by_cases p2 : 0 ≤ x2 ∧ x2 ≤ 3
    · rw [if_pos p2] at b2
      obtain ⟨h0, hh⟩ : ∃ h0 : Nat, h0 = x1.toNat := ⟨_, rfl⟩
      have ex : x1 = (h0 : Int) := by omega
      have th : ec_tw x1 = (h0 : Int) := t1.trans ex
      obtain ⟨_, u5, y5, a1, a2⟩ := eg289_151_18_1 b2 (by decide)
      have a1' : ec_E hb_X n 278 0 [(0, .inr (.inl 215)), (1, .inl (h0 : Int))] [] w2 (u5, y5) := by
        rw [← ex]
        exact a1
      obtain ⟨z, e, W, o⟩ := ew_kdB hD2 (by omega) a1'
      rw [ek h0] at o
      injection e with e i
      rw [i] at a2
      have b3 := a2 _ e W
      clear a1 a1' a2 e i
      rw [← hh]
      have tz : ec_tw z = z := by
        rcases o with ⟨_, _, k1, k2⟩ | ⟨_, oz⟩
        · exact ec_tw_id (by omega) (by omega)
        · exact ec_tw_id (by omega) (by omega)
      have m0 := eg289_151_26_0 b3
      have m1 := eg289_151_26_1 b3
      rw [tz, z0] at m0 m1
      rcases o with ⟨A, kd, k1, k2⟩ | ⟨kd, oz⟩
      · refine .inr ⟨⟨p1, p2⟩, z, A, kd, ?_⟩
        have h31 := (m0 (by omega)).2
        obtain ⟨_, u6, y6, a1, a2⟩ := eg289_151_31_0 h31
        have a1' : ec_E hb_X n 278 0 [(0, .inr (.inl 215)), (1, .inl (h0 : Int))] [] w2 (u6, y6) := by
          rw [← ex]
          exact a1
        obtain ⟨z', e, W, o'⟩ := ew_kdB hD2 (by omega) a1'
        rw [ek h0, kd] at o'
        have ez : z' = z := by
          rcases o' with ⟨A', kd', _⟩ | ⟨kd', _⟩
          · exact ((Prod.mk.inj (Option.some.inj kd')).1).symm
          · cases kd'
        rw [ez] at e
        injection e with e i
        rw [i] at a2
        have b4 := a2 _ e W
        have h50 := (eg289_151_37_0 b4).2
        rw [th] at h50
        obtain ⟨y7, hy7⟩ : ∃ y, y = ec_pf w2 151 48 z := ⟨_, rfl⟩
        have W7 : ec_W hb_A y7 := by
          rw [hy7]
          exact ec_W_pf rfl rfl W2
        have s7 : ef_s [151] w2 y7 := by
          rw [hy7]
          exact ef_s_pf List.mem_cons_self
        rw [← hy7, ef_rd y7 177 h0, ef_s_a s7 (k := 177) (by decide)] at h50
        obtain ⟨y8, hy8⟩ : ∃ y, y = ec_pf y7 151 49 (ef_a w2 177 h0) := ⟨_, rfl⟩
        have W8 : ec_W hb_A y8 := by
          rw [hy8]
          exact ec_W_pf rfl rfl W7
        have s8 : ef_s [151] y7 y8 := by
          rw [hy8]
          exact ef_s_pf List.mem_cons_self
        rw [← hy8] at h50
        have s78 : ef_s [151] w2 y8 := ef_s_trans s7 s8
        have F8 : ∀ f, ec_fd y8 151 f = if f = 49 then ef_a w2 177 h0 else if f = 48 then z else ec_fd w2 151 f := by
          intro f
          rw [hy8, ec_fd_pf (k := 151) (f := 49) W7 rfl (by decide), hy7, ec_fd_pf (k := 151) (f := 48) W2 rfl (by decide), ef_tw, tz]
        have e177 : ef_a w2 177 h0 = ef_a w2 145 h0 := by
          have sh := hD2.2.2.2.2.2.2 h0 (by omega)
          rcases sh with z9 | ⟨z9, _⟩
          · exact z9.2.2.2.1
          · have n5 : ea_kd w2 b k l m h0 = none := ea_kd5 (by omega)
            rw [ek h0, kd] at n5
            cases n5
        have hD8 := ea_D_cg (ef_s_mono s78 (by decide)) hD2
        have kd8 : ea_kd y8 b k l m h0 = some (z, A) := (ea_kd_cg (ef_s_mono s78 (by decide))).trans ((ek h0).trans kd)
        have h167 := ew_amB hD8 (by omega) kd8 (by rw [F8 48, if_neg (by decide), if_pos rfl]) (by rw [F8 49, if_pos rfl, e177, ef_s_a s78 (by decide)]) h50
        have h175 := (eg289_151_167_0 h167).2
        have tA : ec_tw A = A := ea_kd_tw kd
        obtain ⟨y9, hy9⟩ : ∃ y, y = ec_pf y8 151 50 A := ⟨_, rfl⟩
        have W9 : ec_W hb_A y9 := by
          rw [hy9]
          exact ec_W_pf rfl rfl W8
        rw [← hy9] at h175
        obtain ⟨ya, hya⟩ : ∃ y, y = ec_pf y9 151 51 0 := ⟨_, rfl⟩
        rw [← hya] at h175
        have sA : ef_s [151] y8 ya := by
          rw [hya, hy9]
          exact ef_s_trans (ef_s_pf List.mem_cons_self) (ef_s_pf List.mem_cons_self)
        have FA : ∀ f, ec_fd ya 151 f = if f = 51 then 0 else if f = 50 then A else ec_fd y8 151 f := by
          intro f
          rw [hya, ec_fd_pf (k := 151) (f := 51) W9 rfl (by decide), hy9, ec_fd_pf (k := 151) (f := 50) W8 rfl (by decide), tA, z0]
        refine ⟨ya, ⟨ef_s_mono (ef_s_trans (ef_s_trans s2 s78) sA) (by decide), fun f hf => ?_⟩, ⟨?_, ?_, ?_, ?_, ?_, ?_⟩, h175⟩
        · rw [FA f, if_neg (by omega), if_neg (by omega), F8 f, if_neg (by omega), if_neg (by omega), F f, if_neg (by omega)]
        · rw [FA 48, if_neg (by decide), if_neg (by decide), F8 48, if_neg (by decide), if_pos rfl]
        · rw [FA 49, if_neg (by decide), if_neg (by decide), F8 49, if_pos rfl, e177, ef_s_a s2 (by decide)]
        · rw [FA 50, if_neg (by decide), if_pos rfl]
        · rw [FA 51, if_pos rfl]
        · rw [FA 47, if_neg (by decide), if_neg (by decide), F8 47, if_neg (by decide), if_neg (by decide), F 47, if_pos rfl]
          rfl
        · intro i hi
          exact absurd hi (Nat.not_lt_zero _)
      · refine .inl ?_
        have q : ¬ (((0 ≤ x1 ∧ x1 < 4) ∧ (0 ≤ x2 ∧ x2 ≤ 3)) ∧ ea_kd w b k l m x1.toNat ≠ none) := by
          rw [← hh]
          exact fun z => z.2 kd
        rw [hh]
        obtain ⟨_, hr, _⟩ := m1 (by omega)
        exact bad q hr
    · rw [if_neg p2] at b2
      obtain ⟨_, hr, _⟩ := eg289_151_18_0 b2 rfl
      exact .inl (bad (fun z => p2 z.1.2) hr)
  · rw [if_neg p1] at b1
    obtain ⟨_, hr, _⟩ := eg289_151_9_0 b1 rfl
    exact .inl (bad (fun z => p1 z.1.1) hr)
end EA4
/-- THE TRACE is the same on both sides -/
def ea_Tr (w : px_W) : Prop := ∃ t : List Int, t.length ≤ 30 ∧ ea_tA w t ∧ ea_tB w t
theorem ea_RR_f {w w' : px_W} (s : ef_s [149, 150, 151, 178] w w') (f : ec_fd w' 151 2 = ec_fd w 151 2) (hR : ea_RR w) : ea_RR w' := by
  obtain ⟨⟨⟨h1, h2, h3⟩, h4⟩, ⟨h5, h6⟩, h7, h8⟩ := hR
  have P : ∀ {Q : ej_T} {FL RL DL : List (Nat × Nat)}, ej_dep FL RL DL Q → (∀ q ∈ FL, q.1 ∉ [149, 150, 151, 178]) → (∀ q ∈ RL, q.1 ∉ [149, 150, 151, 178]) → (∀ q ∈ FL, q.1 + 58 ∉ [149, 150, 151, 178]) → (∀ q ∈ RL, q.1 + 58 ∉ [149, 150, 151, 178]) → ej_RR Q w → ej_RR Q w' := by
    intro Q FL RL DL hd n1 n2 n3 n4 hQ
    exact ⟨ej_P_of hd (fun q hq => ef_s_f s (n1 q hq) q.2) (fun q hq p _ => congrFun (ef_s_a s (n2 q hq)) p) (fun q _ p _ _ => congrFun (ef_s_a s (by decide)) p) hQ.1, eb_kcg hd n3 n4 (by decide) (by decide) s f hQ.2⟩
  refine ⟨⟨⟨?_, ?_, ?_⟩, P ed_dep (by decide) (by decide) (by decide) (by decide) h4⟩, ⟨P em_dep (by decide) (by decide) (by decide) (by decide) h5, P es_dep (by decide) (by decide) (by decide) (by decide) h6⟩, P eb_dep (by decide) (by decide) (by decide) (by decide) h7, ?_⟩
  · exact eh_hu_st (fun f _ => ef_s_f s (by decide) f) (fun k p k1 k2 _ => congrFun (ef_s_a s (fun e => by simp only [List.mem_cons, List.not_mem_nil, or_false] at e; omega)) p) (fun p _ _ => congrFun (ef_s_a s (by decide)) p) h1
  · exact eh_wd_st (ef_s_f s (by decide) 8) (ef_s_f s (by decide) 9) (fun p _ => congrFun (ef_s_a s (by decide)) p) h2
  · exact eh_kp_s s (by decide) f h3
  · refine ea_H_cg (fun k i hk _ => congrFun (ef_s_a s (fun e => ?_)) i) h8
    simp only [List.mem_cons, List.not_mem_nil, or_false] at e
    omega
theorem ea_actX {xs : List Int32} {n : Nat} {w wA wB : px_W} {vA vB : Option Value} {x1 x2 x3 : Int} (hR : ea_RR w) (r1 : -2147483648 ≤ x1 ∧ x1 ≤ 2147483647) (r2 : -2147483648 ≤ x2 ∧ x2 ≤ 2147483647) (hA : ec_F (hb_XL xs) n 168 [.inr (.inl 64), .inl x1, .inl x2, .inl x3] w (vA, wA)) (hB : ec_F (hb_XL xs) n 289 [.inr (.inl 215), .inl x1, .inl x2, .inl x3] wA (vB, wB)) : vA = vB ∧ ea_RR wB ∧ ea_Tr wB := by
  obtain ⟨b, k, l, m, hC, c1, c2, c3, c4, c5⟩ := ea_C_of hR
  have hD : ea_D w b k l m := ⟨hC, c1, c2, c3, c4, c5, hR.2.2.2⟩
  have t1 : ec_tw x1 = x1 := ec_tw_id r1.1 r1.2
  have t2 : ec_tw x2 = x2 := ec_tw_id r2.1 r2.2
  have tr : ∀ {t : List Int}, ea_fB wA wB → ea_tA wA t → ea_tA wB t := by
    intro t f h
    refine ⟨(ef_s_f f.1 (by decide) 0).trans h.1, fun i hi => ?_⟩
    rw [ef_s_a f.1 (by decide)]
    exact h.2 i hi
  have both : ea_fA w wA → ea_fB wA wB → ea_RR wB := by
    intro f g
    exact ea_RR_f (ef_s_trans (ef_s_mono f (by decide)) (ef_s_mono g.1 (by decide))) ((g.2 2 (by decide)).trans (ef_s_f f (by decide) 2)) hR
  rcases ew_actA hD t1 t2 (hb_FE hA) with ⟨p, eA, fA, tA⟩ | ⟨p, K, A, kd, hK, wa, y, u, fa, SA, hE, fin⟩
  · have hD' := ea_D_cg (ef_s_mono fA (by decide)) hD
    have ek : ea_kd wA b k l m x1.toNat = ea_kd w b k l m x1.toNat := ea_kd_cg (ef_s_mono fA (by decide))
    rcases ew_actB hD' t1 t2 (hb_FE hB) with ⟨_, eB, fB, tB⟩ | ⟨p2, K, A, kd, _⟩
    · exact ⟨eA.trans eB.symm, both fA fB, [], by decide, tr fB tA, tB⟩
    · refine absurd ⟨p2, fun z => ?_⟩ p
      rw [ek, z] at kd
      cases kd
  · have iK : K = 1 ∨ K = 2 ∨ K = 3 ∨ K = 4 ∨ K = 5 ∨ K = 6 := by omega
    have ix : x2 = 0 ∨ x2 = 1 ∨ x2 = 2 ∨ x2 = 3 := by omega
    have rA : ec_tw A = A := ea_kd_tw kd
    have rN : ec_tw (ef_a w 145 x1.toNat) = ef_a w 145 x1.toNat := ef_tw _ _ _
    -- the class has ended, whatever the reference does
    obtain ⟨endA, wy, fy⟩ := ea_endW iK ix rA rN SA hE
    obtain ⟨e1, e2⟩ := fin endA wy
    have fA : ea_fA w wA := by
      rw [e2]
      exact ea_fA_t fa fy
    have hD' := ea_D_cg (ef_s_mono fA (by decide)) hD
    have ek : ea_kd wA b k l m x1.toNat = ea_kd w b k l m x1.toNat := ea_kd_cg (ef_s_mono fA (by decide))
    rcases ew_actB hD' t1 t2 (hb_FE hB) with ⟨p2, _⟩ | ⟨_, K', A', kd', wb, fb, SB, hE2⟩
    · refine absurd ⟨p, fun z => ?_⟩ p2
      rw [ek, kd] at z
      cases z
    · rw [ek, kd] at kd'
      obtain ⟨q1, q2⟩ := Prod.mk.inj (Option.some.inj kd')
      rw [← q1, ← q2, ef_s_a (ef_s_mono (S := [149, 150]) (T := [149, 150, 151, 178]) fA (by decide)) (k := 145) (by decide)] at SB
      obtain ⟨ev, _, _, ⟨t, ht, ta, tb⟩, g1, g2⟩ := ea_ans iK ix rA rN SA SB hE hE2
      refine ⟨e1.trans ev, both fA (ea_fB_t fb g2), t, by omega, tr (ea_fB_t fb g2) ?_, tb⟩
      rw [e2]
      exact ta

end
