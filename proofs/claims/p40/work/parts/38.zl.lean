noncomputable section
/-! RULES: the reference reads a condition -/
section ER7
variable {N : Nat} {t : Nat → Int} {H : Bool} {M : Nat → Int} {C V : Nat → Int}
theorem er_At_s {w w' : px_W} {i : Nat} (h : er_At w t N i) (f26 : ec_fd w' 151 26 = ec_fd w 151 26) (f27 : ec_fd w' 151 27 = ec_fd w 151 27) (f28 : ec_fd w' 151 28 = ec_fd w 151 28) (f29 : ec_fd w' 151 29 = ec_fd w 151 29) : er_At w' t N i := ⟨f27.trans h.1, f26.trans h.2.1, f28.trans h.2.2.1, fun q => f29.trans (h.2.2.2 q)⟩
theorem er_tk_r (hb : ∀ i, i < N → 0 ≤ t i ∧ t i ≤ 255) {i : Nat} : (er_tk t N i = 2 ∧ 10 ≤ er_tt t N i ∧ er_tt t N i ≤ 12) ↔ (324 ≤ er_co t N i ∧ er_co t N i ≤ 326) := by
  have w10 := er_tk_w (i := i) hb (k := 10) (by decide)
  have w11 := er_tk_w (i := i) hb (k := 11) (by decide)
  have w12 := er_tk_w (i := i) hb (k := 12) (by decide)
  have c10 : er_cc 10 = 324 := rfl
  have c11 : er_cc 11 = 325 := rfl
  have c12 : er_cc 12 = 326 := rfl
  rw [c10] at w10
  rw [c11] at w11
  rw [c12] at w12
  constructor
  · rintro ⟨h1, h2, h3⟩
    have q : er_tt t N i = 10 ∨ er_tt t N i = 11 ∨ er_tt t N i = 12 := by omega
    rcases q with q | q | q
    · have := w10.mp ⟨h1, q⟩
      omega
    · have := w11.mp ⟨h1, q⟩
      omega
    · have := w12.mp ⟨h1, q⟩
      omega
  · rintro ⟨h1, h2⟩
    have q : er_co t N i = 324 ∨ er_co t N i = 325 ∨ er_co t N i = 326 := by omega
    rcases q with q | q | q
    · have a := w10.mpr q
      exact ⟨a.1, by have := a.2; omega, by have := a.2; omega⟩
    · have a := w11.mpr q
      exact ⟨a.1, by have := a.2; omega, by have := a.2; omega⟩
    · have a := w12.mpr q
      exact ⟨a.1, by have := a.2; omega, by have := a.2; omega⟩
theorem er_tt_r (hb : ∀ i, i < N → 0 ≤ t i ∧ t i ≤ 255) {i : Nat} (h : 324 ≤ er_co t N i ∧ er_co t N i ≤ 326) : er_tt t N i = er_co t N i - 314 := by
  have q : er_co t N i = 324 ∨ er_co t N i = 325 ∨ er_co t N i = 326 := by omega
  rcases q with q | q | q
  · have a := (er_tk_w (i := i) hb (k := 10) (by decide)).mpr q
    have := a.2
    omega
  · have a := (er_tk_w (i := i) hb (k := 11) (by decide)).mpr q
    have := a.2
    omega
  · have a := (er_tk_w (i := i) hb (k := 12) (by decide)).mpr q
    have := a.2
    omega
theorem ew_225 {n : Nat} {x1 x2 x3 x4 s0 : Int} {w : px_W} {r : Option Value × px_W} (h4 : x4 = 60 ∨ x4 = 61 ∨ x4 = 62) (h : ec_E hb_X n 255 225 [(0, .inr (.inl 215)), (1, .inl x1), (2, .inl x2), (3, .inl x3), (4, .inl x4)] [.inl s0] w r) : ec_E hb_X n 255 288 [(0, .inr (.inl 215)), (1, .inl x1), (2, .inl (if er_sg x4 (ec_tw x3) (ec_tw s0) = true then 1 else 0))] [] w r := by
  rcases h4 with rfl | rfl | rfl
  · by_cases q : ec_tw x3 < ec_tw s0
    · have e : er_sg 60 (ec_tw x3) (ec_tw s0) = true := decide_eq_true q
      rw [e]
      exact (eg255_151_280_0 (eg255_151_225_5 h rfl q).2).2
    · have e : er_sg 60 (ec_tw x3) (ec_tw s0) = false := decide_eq_false q
      rw [e]
      exact (eg255_151_280_0 (eg255_151_225_4 h rfl (by omega)).2).2
  · by_cases q : ec_tw x3 = ec_tw s0
    · have e : er_sg 61 (ec_tw x3) (ec_tw s0) = true := decide_eq_true q
      rw [e]
      exact (eg255_151_280_0 (eg255_151_225_3 h (by decide) rfl q).2).2
    · have e : er_sg 61 (ec_tw x3) (ec_tw s0) = false := decide_eq_false q
      rw [e]
      exact (eg255_151_280_0 (eg255_151_225_2 h (by decide) rfl q).2).2
  · by_cases q : ec_tw s0 < ec_tw x3
    · have e : er_sg 62 (ec_tw x3) (ec_tw s0) = true := decide_eq_true q
      rw [e]
      exact (eg255_151_280_0 (eg255_151_225_1 h (by decide) (by decide) q).2).2
    · have e : er_sg 62 (ec_tw x3) (ec_tw s0) = false := decide_eq_false q
      rw [e]
      exact (eg255_151_280_0 (eg255_151_225_0 h (by decide) (by decide) (by omega)).2).2
theorem ew_288 {n : Nat} {x1 x2 : Int} {w w1 : px_W} {v : Option Value} (h : ec_E hb_X n 255 288 [(0, .inr (.inl 215)), (1, .inl x1), (2, .inl x2)] [] w (v, w1)) : w1 = w ∧ ec_W hb_A w ∧ v = ec_R (if ec_tw x2 = ec_tw x1 then 0 else 1) := by
  by_cases q : ec_tw x2 = ec_tw x1
  · obtain ⟨_, hr, hW⟩ := eg255_151_288_0 h q
    injection hr with e1 e2
    rw [if_pos q]
    exact ⟨e2, hW, e1⟩
  · obtain ⟨_, hr, hW⟩ := eg255_151_288_1 h q
    injection hr with e1 e2
    rw [if_neg q]
    exact ⟨e2, hW, e1⟩
theorem ew_sgl {g : Option (Nat → er_R)} {o : Int} (hN : N ≤ 200) (hb : ∀ i, i < N → 0 ≤ t i ∧ t i ≤ 255) (hC : ∀ j, C j = er_co t N (er_p t N j)) (hV : ∀ j, V j = er_va t N (er_p t N j)) (hg : (g = none ∧ o = 4) ∨ ∃ f, g = some f ∧ 0 ≤ o ∧ o < 4 ∧ er_EC t N H M 257 f (o + 1)) : er_EC t N H M 255 (er_on C V H M g) o := by
  intro n j w w1 v hZ ho h
  have t0 : ec_tw 0 = 0 := rfl
  have t4 : ec_tw 4 = 4 := rfl
  have t40 : ec_tw 40 = 40 := rfl
  have t41 : ec_tw 41 = 41 := rfl
  have eC : (fun j => er_co t N (er_p t N j)) = C := funext (fun j => (hC j).symm)
  obtain ⟨w2, fr2, o2, Z2, h30⟩ := ew_nots hN hb 200 n j false w _ (by omega) hZ (eg255_151_0_0 h).2
  rw [eC] at Z2 h30
  obtain ⟨k, hk⟩ : ∃ k, er_nt C 200 j = k := ⟨_, rfl⟩
  rw [hk] at Z2 h30
  have hx : (if (false != decide ((k - j) % 2 = 1)) = true then (1 : Int) else 0) = (if (k - j) % 2 = 1 then 1 else 0) := by
    by_cases p : (k - j) % 2 = 1
    · rw [decide_eq_true p, if_pos p]
      rfl
    · rw [decide_eq_false p, if_neg p]
      rfl
  rw [hx] at h30
  have o3 : ec_fd w2 151 31 = o := o2.trans ho
  have g30 := Z2.2.2
  have g28 := Z2.2.1.2.2.1
  have g27 := Z2.2.1.1
  have ck := hC k
  have eon : er_on C V H M g j = (match (if C k = 40 then er_in C g k else er_ts C V H M k) with
    | (a, none) => (a, none)
    | (a, some s) => if (k - j) % 2 = 1 then (a, some (s.1 ++ [6], !s.2)) else (a, some s)) := by
    unfold er_on
    rw [hk]
    rfl
  -- a FAULT at token a
  have finF : ∀ (a : Nat) (z : Int), (if C k = 40 then er_in C g k else er_ts C V H M k) = (a, none) → v = ec_R z → ec_W hb_A w1 → er_fr w2 w1 → ec_fd w1 151 31 = o → ec_fd w1 151 30 = (er_p t N a : Int) → ∃ z : Int, v = ec_R z ∧ er_Q t N H M w w1 z (er_on C V H M g j) := by
    intro a z hr hv hW hf h31 h30'
    refine ⟨z, hv, hW, er_fr_t fr2 hf, h31.trans ho.symm, ?_⟩
    rw [eon, hr]
    exact h30'
  -- all is well up to token a
  have finS : ∀ (a : Nat) (s : List Int × Bool) (w3 : px_W), (if C k = 40 then er_in C g k else er_ts C V H M k) = (a, some s) → er_fr w2 w3 → ec_fd w3 151 31 = o → er_Z w3 t N H M a → ec_E hb_X n 255 288 [(0, .inr (.inl 215)), (1, .inl (if (k - j) % 2 = 1 then 1 else 0)), (2, .inl (if s.2 = true then 1 else 0))] [] w3 (v, w1) → ∃ z : Int, v = ec_R z ∧ er_Q t N H M w w1 z (er_on C V H M g j) := by
    intro a s w3 hr hf h31 hZ3 h288
    obtain ⟨e1, W1, e2⟩ := ew_288 h288
    rw [e1]
    refine ⟨_, e2, W1, er_fr_t fr2 hf, h31.trans ho.symm, ?_⟩
    rw [eon, hr]
    by_cases p : (k - j) % 2 = 1
    · dsimp only
      rw [if_pos p]
      refine ⟨hZ3, ?_⟩
      rw [if_pos p]
      cases hs : s.2 with
      | true => rfl
      | false => rfl
    · dsimp only
      rw [if_neg p]
      refine ⟨hZ3, ?_⟩
      rw [if_neg p]
      cases hs : s.2 with
      | true => rfl
      | false => rfl
  by_cases q40 : C k = 40
  · have tk : er_tk t N (er_p t N k) = 40 := (er_tk_s hb (by omega)).mpr (by rw [← ck]; exact q40)
    rw [tk] at g28
    have gin : (if C k = 40 then er_in C g k else er_ts C V H M k) = er_in C g k := if_pos q40
    rcases hg with ⟨hgn, ho4⟩ | ⟨f, hgs, o0, o4, hf⟩
    · have l := eg255_151_30_3 h30
      rw [g30, g28, o3, ho4] at l
      obtain ⟨_, u, w3, a1, a2⟩ := l (by decide) rfl rfl
      obtain ⟨e1, W1, fr3, f30, f31⟩ := ew_wrg g30 a1
      obtain ⟨_, hr, hW⟩ := eg255_151_60_0 (a2 e1 W1)
      injection hr with e3 e4
      refine finF k 0 (by rw [gin, hgn]; rfl) e3 (by rw [e4]; exact hW) (by rw [e4]; exact fr3) (by rw [e4]; exact f31.trans o3) ?_
      rw [e4]
      exact f30.trans g27
    · have l := eg255_151_30_2 h30
      have to : ec_tw o = o := ec_tw_id (by omega) (by omega)
      rw [g30, g28, o3, to, t4] at l
      obtain ⟨_, u, w3, a1, a2⟩ := l (by decide) rfl (by omega)
      have Wp : ec_W hb_A (ec_pf w2 151 31 (o + 1)) := a1.1
      have F : ∀ x, ec_fd (ec_pf w2 151 31 (o + 1)) 151 x = if x = 31 then ec_tw (o + 1) else ec_fd w2 151 x := fun x => ec_fd_pf (k := 151) (f := 31) h30.1 rfl (by decide)
      have Fo : ∀ x, x ≠ 31 → ec_fd (ec_pf w2 151 31 (o + 1)) 151 x = ec_fd w2 151 x := fun x hx => by rw [F x, if_neg hx]
      have frp : er_fr w2 (ec_pf w2 151 31 (o + 1)) := ⟨ef_s_pf (by decide), fun x _ _ _ _ _ a => Fo x a⟩
      have Zp : er_Z (ec_pf w2 151 31 (o + 1)) t N H M k := er_Z_s Z2 frp (er_At_s Z2.2.1 (Fo 26 (by decide)) (Fo 27 (by decide)) (Fo 28 (by decide)) (Fo 29 (by decide))) ((Fo 30 (by decide)).trans g30)
      obtain ⟨e3, W3, fr3, Z3, f31⟩ := ew_nxt hN hb Zp (by rw [← ck, q40]; decide) a1
      have op1 : ec_fd w3 151 31 = o + 1 := by
        rw [f31, F 31, if_pos rfl]
        exact ec_tw_id (by omega) (by omega)
      obtain ⟨_, u4, w4, a3, a4⟩ := eg255_151_76_0 (a2 e3 W3)
      obtain ⟨z4, e4, W4, fr4, f314, m4⟩ := hf n (k + 1) w3 w4 u4 Z3 op1 a3
      have b := a4 _ e4 W4
      have fr24 : er_fr w2 w4 := er_fr_t frp (er_fr_t fr3 fr4)
      have op4 : ec_fd w4 151 31 = o + 1 := f314.trans op1
      -- one '(' less
      have shut : ∀ (w5 : px_W) (x : Int), ec_W hb_A w5 → ec_fd w5 151 31 = o + 1 → ec_E hb_X n 255 112 [(0, .inr (.inl 215)), (1, .inl (if (k - j) % 2 = 1 then 1 else 0)), (2, .inl x)] [] w5 (v, w1) → ∃ w6 : px_W, er_fr w5 w6 ∧ ec_fd w6 151 31 = o ∧ (∀ y, y ≠ 31 → ec_fd w6 151 y = ec_fd w5 151 y) ∧ ec_E hb_X n 255 288 [(0, .inr (.inl 215)), (1, .inl (if (k - j) % 2 = 1 then 1 else 0)), (2, .inl x)] [] w6 (v, w1) := by
        intro w5 x W5 hop h5
        have h6 := (eg255_151_112_0 h5).2
        rw [hop] at h6
        have F6 : ∀ y, ec_fd (ec_pf w5 151 31 (o + 1 - 1)) 151 y = if y = 31 then ec_tw (o + 1 - 1) else ec_fd w5 151 y := fun y => ec_fd_pf (k := 151) (f := 31) W5 rfl (by decide)
        refine ⟨_, ⟨ef_s_pf (by decide), fun y _ _ _ _ _ a => by rw [F6 y, if_neg a]⟩, ?_, fun y hy => by rw [F6 y, if_neg hy], h6⟩
        rw [F6 31, if_pos rfl, ec_tw_id (by omega) (by omega)]
        omega
      have ein : er_in C g k = (match f (k + 1) with
        | (a, none) => (a, none)
        | (a, some s) => if C a = 41 then (a + 1, some s) else (a, none)) := by
        rw [hgs]
        rfl
      cases ef : f (k + 1) with
      | mk a s =>
        rw [ef] at m4 ein
        cases s with
        | none =>
          have h30' : ec_fd w4 151 30 = (er_p t N a : Int) := m4
          have l1 := eg255_151_80_0 b
          rw [ec_tw_fd, h30', t0] at l1
          have l2 := eg255_151_101_0 (l1 (by omega)).2
          rw [ec_tw_fd, h30', t0] at l2
          obtain ⟨w6, fr6, f316, fo6, h6⟩ := shut w4 _ W4 op4 (l2 (by omega)).2
          obtain ⟨e6, W6, e7⟩ := ew_288 h6
          refine finF a _ (by rw [gin, ein]) e7 (by rw [e6]; exact W6) (by rw [e6]; exact er_fr_t fr24 fr6) (by rw [e6]; exact f316) ?_
          rw [e6, fo6 30 (by decide)]
          exact h30'
        | some s =>
          obtain ⟨Z4, ez4⟩ : er_Z w4 t N H M a ∧ z4 = (if s.2 = true then 1 else 0) := m4
          have g30a := Z4.2.2
          have g28a := Z4.2.1.2.2.1
          have g27a := Z4.2.1.1
          by_cases q41 : C a = 41
          · have tka : er_tk t N (er_p t N a) = 41 := (er_tk_s hb (by omega)).mpr (by rw [← hC a]; exact q41)
            rw [tka] at g28a
            have l1 := eg255_151_80_1 b
            rw [g30a, g28a] at l1
            have l2 := eg255_151_101_1 (l1 (by decide) rfl).2
            rw [g30a] at l2
            obtain ⟨_, u5, w5, a5, a6⟩ := l2 (by decide)
            obtain ⟨e5, W5, fr5, Z5, f315⟩ := ew_nxt hN hb Z4 (by rw [← hC a, q41]; decide) a5
            obtain ⟨w6, fr6, f316, fo6, h6⟩ := shut w5 _ W5 (f315.trans op4) (a6 e5 W5)
            rw [ez4] at h6
            exact finS (a + 1) s w6 (by rw [gin, ein]; exact if_pos q41) (er_fr_t fr24 (er_fr_t fr5 fr6)) f316 (er_Z_s Z5 fr6 (er_At_s Z5.2.1 (fo6 26 (by decide)) (fo6 27 (by decide)) (fo6 28 (by decide)) (fo6 29 (by decide))) ((fo6 30 (by decide)).trans Z5.2.2)) h6
          · have tka : er_tk t N (er_p t N a) ≠ 41 := fun e => q41 (by rw [hC a]; exact (er_tk_s hb (by omega)).mp e)
            have tt : ec_tw (er_tk t N (er_p t N a)) = er_tk t N (er_p t N a) := by
              rw [← g28a]
              exact ec_tw_fd _ _ _
            have l1 := eg255_151_80_2 b
            rw [g30a, g28a, tt, t41] at l1
            obtain ⟨_, u5, w5, a5, a6⟩ := l1 (by decide) tka
            obtain ⟨e5, W5, fr5, f305, f315⟩ := ew_wrg g30a a5
            have h305 : ec_fd w5 151 30 = (er_p t N a : Int) := f305.trans g27a
            have l2 := eg255_151_101_0 (a6 e5 W5)
            rw [ec_tw_fd, h305, t0] at l2
            obtain ⟨w6, fr6, f316, fo6, h6⟩ := shut w5 _ W5 (f315.trans op4) (l2 (by omega)).2
            obtain ⟨e6, W6, e7⟩ := ew_288 h6
            refine finF a _ (by rw [gin, ein]; exact if_neg q41) e7 (by rw [e6]; exact W6) (by rw [e6]; exact er_fr_t fr24 (er_fr_t fr5 fr6)) (by rw [e6]; exact f316) ?_
            rw [e6, fo6 30 (by decide)]
            exact h305
  · have tk : er_tk t N (er_p t N k) ≠ 40 := fun e => q40 (by rw [ck]; exact (er_tk_s hb (by omega)).mp e)
    have tt : ec_tw (er_tk t N (er_p t N k)) = er_tk t N (er_p t N k) := by
      rw [← g28]
      exact ec_tw_fd _ _ _
    have gin : (if C k = 40 then er_in C g k else er_ts C V H M k) = er_ts C V H M k := if_neg q40
    have l := eg255_151_30_1 h30
    rw [g30, g28, tt, t40] at l
    have h125 := (l (by decide) tk).2
    obtain ⟨_, u, w3, a1, a2⟩ := eg255_151_125_0 h125
    obtain ⟨i1, W1, e1⟩ := ew_isw1 (k := 9) hb (by decide) Z2 a1
    rw [← i1] at a2 W1
    have c9 : er_cc 9 = 323 := rfl
    rw [c9, ← ck] at e1
    have b := a2 _ e1 W1
    by_cases q9 : C k = 323
    · rw [if_pos q9] at b
      obtain ⟨_, u4, w4, a3, a4⟩ := eg255_151_133_1 b (by decide)
      obtain ⟨e4, W4, fr4, Z4, f314⟩ := ew_nxt hN hb Z2 (by rw [← ck, q9]; decide) a3
      have h288 := (eg255_151_145_0 (a4 e4 W4)).2
      rw [Z2.1.2.2.1] at h288
      refine finS (k + 1) ([0], H) w4 ?_ fr4 (f314.trans o3) Z4 h288
      rw [gin]
      unfold er_ts
      rw [if_pos q9]
    · rw [if_neg q9] at b
      obtain ⟨_, u4, w4, a3, a4⟩ := eg255_151_133_0 b rfl
      obtain ⟨i4, W4, e4⟩ := ew_isw Z2 (lo := 10) (hi := 12) rfl rfl a3
      rw [← i4] at a4 W4
      have iff := er_tk_r hb (i := er_p t N k)
      rw [← ck] at iff
      have b4 := a4 _ e4 W4
      by_cases qr : 324 ≤ C k ∧ C k ≤ 326
      · rw [if_pos (iff.mpr qr)] at b4
        have g29 : ec_fd w2 151 29 = C k - 314 := by
          rw [Z2.2.1.2.2.2 (.inl (iff.mpr qr).1), er_tt_r hb (by rw [← ck]; exact qr), ← ck]
        have l4 := eg255_151_156_1 b4 (by decide)
        have ev : C k - 314 - 10 = (((C k - 324).toNat : Nat) : Int) := by omega
        have lt3 : (C k - 324).toNat < 3 := by omega
        rw [g29, ev, ec_twn (n := (C k - 324).toNat) (by omega), ef_rd w2 169 (C k - 324).toNat, Z2.1.2.2.2 _ lt3] at l4
        obtain ⟨_, u5, w5, a5, a6⟩ := l4
        obtain ⟨e5, W5, fr5, Z5, f315⟩ := ew_nxt hN hb Z2 (by rw [← ck]; omega) a5
        have h176 := a6 e5 W5
        have g30b := Z5.2.2
        have g28b := Z5.2.1.2.2.1
        have g27b := Z5.2.1.1
        have ck1 := hC (k + 1)
        have sgn : ∀ z : Int, (z = 60 ∨ z = 61 ∨ z = 62) → (er_tk t N (er_p t N (k + 1)) = z ↔ C (k + 1) = z) := fun z hz => by
          rw [ck1]
          exact er_tk_s hb (by omega)
        have ttb : ec_tw (er_tk t N (er_p t N (k + 1))) = er_tk t N (er_p t N (k + 1)) := by
          rw [← g28b]
          exact ec_tw_fd _ _ _
        have u60 : ec_tw 60 = 60 := rfl
        have u61 : ec_tw 61 = 61 := rfl
        have u62 : ec_tw 62 = 62 := rfl
        -- behind a sign
        have sign : ∀ z : Int, (z = 60 ∨ z = 61 ∨ z = 62) → C (k + 1) = z → ec_E hb_X n 255 216 [(0, .inr (.inl 215)), (1, .inl (if (k - j) % 2 = 1 then 1 else 0)), (2, .inl 0), (3, .inl (M (C k - 324).toNat)), (4, .inl z)] [] w5 (v, w1) → ∃ z : Int, v = ec_R z ∧ er_Q t N H M w w1 z (er_on C V H M g j) := by
          intro z hz hcz h216
          obtain ⟨_, u6, w6, a7, a8⟩ := eg255_151_216_0 h216
          obtain ⟨e6, W6, fr6, Z6, f316⟩ := ew_nxt hN hb Z5 (by rw [← ck1]; omega) a7
          obtain ⟨_, u7, w7, a9, a10⟩ := eg255_151_220_0 (a8 e6 W6)
          obtain ⟨x, e7, W7, fr7, f317, hy, hn⟩ := ew_num hN hb (Int.le_refl 0) rfl Z6 a9
          have h288 := ew_225 hz (a10 _ e7 W7)
          have ck2 : er_co t N (er_p t N (k + 1 + 1)) = C (k + 2) := (hC (k + 2)).symm
          have vk2 : er_va t N (er_p t N (k + 1 + 1)) = V (k + 2) := (hV (k + 2)).symm
          rw [ck2, vk2] at hy hn
          have ets : er_ts C V H M k = if C (k + 2) = 301 ∧ 0 ≤ V (k + 2) then (k + 3, some ([C k - 323 + 8 * (C (k + 1) - 60) + 32 * V (k + 2)], er_sg (C (k + 1)) (M (C k - 324).toNat) (V (k + 2)))) else (k + 2, none) := by
            unfold er_ts
            rw [if_neg q9, if_pos qr, if_pos (by omega)]
          have frx : er_fr w2 w7 := er_fr_t fr5 (er_fr_t fr6 fr7)
          have f31x : ec_fd w7 151 31 = o := f317.trans (f316.trans (f315.trans o3))
          by_cases q3 : C (k + 2) = 301 ∧ 0 ≤ V (k + 2)
          · obtain ⟨ex, Z7⟩ := hy q3
            have tM : ec_tw (M (C k - 324).toNat) = M (C k - 324).toNat := by
              rw [← Z2.1.2.2.2 _ lt3]
              exact ef_tw _ _ _
            have tV : ec_tw (V (k + 2)) = V (k + 2) := by
              have c2 := (er_C_lt hN hb (j := k + 2) (by rw [← hC (k + 2), q3.1]; decide)).1
              have tk3 := (er_tk_n (i := er_p t N (k + 2)) hb (Int.le_refl 0)).mpr ⟨by rw [← hC (k + 2)]; exact q3.1, by rw [← hV (k + 2)]; exact q3.2⟩
              rw [hV (k + 2), ← er_tt_v hb tk3.1, ← Z6.2.1.2.2.2 (.inr tk3.1)]
              exact ec_tw_fd _ _ _
            rw [ex, tM, tV, ← hcz] at h288
            exact finS (k + 3) ([C k - 323 + 8 * (C (k + 1) - 60) + 32 * V (k + 2)], er_sg (C (k + 1)) (M (C k - 324).toNat) (V (k + 2))) w7 (by rw [gin, ets, if_pos q3]) frx f31x Z7 h288
          · have h30' := hn q3
            obtain ⟨e8, W8, e9⟩ := ew_288 h288
            refine finF (k + 2) _ (by rw [gin, ets, if_neg q3]) e9 (by rw [e8]; exact W8) (by rw [e8]; exact frx) (by rw [e8]; exact f31x) ?_
            rw [e8]
            exact h30'
        have k1 := eg255_151_176_1 h176
        have k2 := eg255_151_176_2 h176
        have k3 := eg255_151_176_3 h176
        have k4 := eg255_151_176_4 h176
        rw [g30b, g28b, ttb, u60] at k1
        rw [g30b, g28b, ttb, u60, u61] at k2
        rw [g30b, g28b, ttb, u60, u61, u62] at k3 k4
        by_cases z0 : C (k + 1) = 60
        · have s0 := (sgn 60 (by omega)).mpr z0
          have h216 := (k1 (by decide) s0).2
          rw [s0] at h216
          exact sign 60 (by omega) z0 h216
        · have n0 : er_tk t N (er_p t N (k + 1)) ≠ 60 := fun e => z0 ((sgn 60 (by omega)).mp e)
          by_cases z1 : C (k + 1) = 61
          · have s1 := (sgn 61 (by omega)).mpr z1
            have h216 := (k2 (by decide) n0 s1).2
            rw [s1] at h216
            exact sign 61 (by omega) z1 h216
          · have n1 : er_tk t N (er_p t N (k + 1)) ≠ 61 := fun e => z1 ((sgn 61 (by omega)).mp e)
            by_cases z2 : C (k + 1) = 62
            · have s2 := (sgn 62 (by omega)).mpr z2
              have h216 := (k3 (by decide) n0 n1 s2).2
              rw [s2] at h216
              exact sign 62 (by omega) z2 h216
            · have n2 : er_tk t N (er_p t N (k + 1)) ≠ 62 := fun e => z2 ((sgn 62 (by omega)).mp e)
              obtain ⟨_, u6, w6, a7, a8⟩ := eg255_151_210_0 (k4 (by decide) n0 n1 n2).2
              obtain ⟨e6, W6, fr6, f306, f316⟩ := ew_wrg g30b a7
              obtain ⟨_, hr, hW⟩ := eg255_151_214_0 (a8 e6 W6)
              injection hr with e8 e9
              refine finF (k + 1) 0 ?_ e8 (by rw [e9]; exact hW) (by rw [e9]; exact er_fr_t fr5 fr6) (by rw [e9]; exact f316.trans (f315.trans o3)) ?_
              · rw [gin]
                unfold er_ts
                rw [if_neg q9, if_pos qr, if_neg (by omega)]
              · rw [e9]
                exact f306.trans g27b
      · rw [if_neg (fun x => qr (iff.mp x))] at b4
        obtain ⟨_, u5, w5, a5, a6⟩ := eg255_151_156_0 b4 rfl
        obtain ⟨e5, W5, fr5, f305, f315⟩ := ew_wrg g30 a5
        obtain ⟨e6, W6, e7⟩ := ew_288 (a6 e5 W5)
        refine finF k _ ?_ e7 (by rw [e6]; exact W6) (by rw [e6]; exact fr5) (by rw [e6]; exact f315.trans o3) ?_
        · rw [gin]
          unfold er_ts
          rw [if_neg q9, if_neg qr]
        · rw [e6]
          exact f305.trans g27
end ER7

end
