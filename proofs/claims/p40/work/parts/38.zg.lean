noncomputable section
/-! RULES: the reference's conditions -/
/-- what may change while it reads -/
def er_fr (w w' : px_W) : Prop := ef_s [151] w w' ∧ ∀ f, f ≠ 26 → f ≠ 27 → f ≠ 28 → f ≠ 29 → f ≠ 30 → f ≠ 31 → ec_fd w' 151 f = ec_fd w 151 f
theorem er_fr_r {w : px_W} : er_fr w w := ⟨ef_s_refl, fun _ _ _ _ _ _ _ => rfl⟩
theorem er_fr_t {w w1 w2 : px_W} (h1 : er_fr w w1) (h2 : er_fr w1 w2) : er_fr w w2 := ⟨ef_s_trans h1.1 h2.1, fun f a b c d e g => (h2.2 f a b c d e g).trans (h1.2 f a b c d e g)⟩
/-- it stands at token j, and there was no FAULT -/
def er_Z (w : px_W) (t : Nat → Int) (N : Nat) (H : Bool) (M : Nat → Int) (j : Nat) : Prop := (er_Le w ∧ er_Sr w N t ∧ ec_fd w 151 32 = (if H = true then 1 else 0) ∧ ∀ q, q < 3 → ef_a w 169 q = M q) ∧ er_At w t N (er_p t N j) ∧ ec_fd w 151 30 = -1
theorem er_Z_s {w w' : px_W} {t : Nat → Int} {N j k : Nat} {H : Bool} {M : Nat → Int} (h : er_Z w t N H M j) (hf : er_fr w w') (ha : er_At w' t N (er_p t N k)) (h30 : ec_fd w' 151 30 = -1) : er_Z w' t N H M k := by
  obtain ⟨⟨h1, h2, h3, h4⟩, _, _⟩ := h
  refine ⟨⟨fun y hy => ?_, er_Sr_s h2 hf.1 (hf.2 25 (by decide) (by decide) (by decide) (by decide) (by decide) (by decide)) (hf.2 24 (by decide) (by decide) (by decide) (by decide) (by decide) (by decide)), (hf.2 32 (by decide) (by decide) (by decide) (by decide) (by decide) (by decide)).trans h3, fun q hq => ?_⟩, ha, h30⟩
  · rw [ef_s_a hf.1 (by decide)]
    exact h1 y hy
  · rw [ef_s_a hf.1 (by decide)]
    exact h4 q hq
section ER6
variable {N : Nat} {t : Nat → Int} {H : Bool} {M : Nat → Int}
theorem er_p_ge {j : Nat} : er_p t N j < N → j ≤ er_p t N j := by
  induction j with
  | zero => exact fun _ => Nat.zero_le _
  | succ j ih =>
    intro h
    by_cases q : er_p t N j < N
    · have h1 := ih q
      have h2 := er_p_lt q
      omega
    · exfalso
      have e : er_p t N (j + 1) = N := if_neg q
      omega
theorem er_C_lt (hN : N ≤ 200) (hb : ∀ i, i < N → 0 ≤ t i ∧ t i ≤ 255) {j : Nat} (h : er_co t N (er_p t N j) ≠ 300) : er_p t N j < N ∧ j < 200 := by
  have c : er_p t N j < N := by
    by_cases q : er_p t N j < N
    · exact q
    · exact absurd ((er_co_end hb).mpr (by omega)) h
  have := er_p_ge c
  exact ⟨c, by omega⟩
theorem ew_nxt {j n : Nat} {w w1 : px_W} {v : Option Value} (hN : N ≤ 200) (hb : ∀ i, i < N → 0 ≤ t i ∧ t i ≤ 255) (hZ : er_Z w t N H M j) (hc : er_co t N (er_p t N j) ≠ 300) (h : ec_E hb_X n 249 0 [(0, .inr (.inl 215))] [] w (v, w1)) : v = none ∧ ec_W hb_A w1 ∧ er_fr w w1 ∧ er_Z w1 t N H M (j + 1) ∧ ec_fd w1 151 31 = ec_fd w 151 31 := by
  have c := (er_C_lt hN hb hc).1
  have eb := er_en_b (t := t) c
  have f26 : ec_fd w 151 26 = (er_en t N (er_p t N j) : Int) := by
    rw [hZ.2.1.2.1]
    unfold er_af
    rw [if_pos c]
  obtain ⟨q1, q2, q3, q4, q5⟩ := ew_next hN hb eb.2 hZ.1.1 hZ.1.2.1 f26 h
  rw [← er_p_s c] at q5
  have fr : er_fr w w1 := ⟨q3, fun f a b c d _ _ => q4 f a b c d⟩
  exact ⟨q1, q2, fr, er_Z_s hZ fr q5 ((q4 30 (by decide) (by decide) (by decide) (by decide)).trans hZ.2.2), q4 31 (by decide) (by decide) (by decide) (by decide)⟩
theorem ew_isw {j n : Nat} {w w1 : px_W} {v : Option Value} {lo hi : Int} (hZ : er_Z w t N H M j) (tl : ec_tw lo = lo) (th : ec_tw hi = hi) (h : ec_E hb_X n 252 0 [(0, .inr (.inl 215)), (1, .inl lo), (2, .inl hi)] [] w (v, w1)) : w = w1 ∧ ec_W hb_A w1 ∧ v = ec_R (if er_tk t N (er_p t N j) = 2 ∧ lo ≤ er_tt t N (er_p t N j) ∧ er_tt t N (er_p t N j) ≤ hi then 1 else 0) := by
  have t0 : ec_tw 0 = 0 := rfl
  have t2 : ec_tw 2 = 2 := rfl
  obtain ⟨_, ⟨g27, g26, g28, g29⟩, g30⟩ := hZ
  have fin : ∀ z : Int, (v, w1) = (ec_R z, w) → ec_W hb_A w → z = (if er_tk t N (er_p t N j) = 2 ∧ lo ≤ er_tt t N (er_p t N j) ∧ er_tt t N (er_p t N j) ≤ hi then 1 else 0) → w = w1 ∧ ec_W hb_A w1 ∧ v = ec_R (if er_tk t N (er_p t N j) = 2 ∧ lo ≤ er_tt t N (er_p t N j) ∧ er_tt t N (er_p t N j) ≤ hi then 1 else 0) := by
    intro z hr hW hz
    injection hr with e1 e2
    rw [e2, ← hz]
    exact ⟨rfl, hW, e1⟩
  have k1 := eg252_151_0_1 h
  have k2 := eg252_151_0_2 h
  rw [ec_tw_fd, g30, t0, ec_tw_fd, g28, t2] at k1 k2
  by_cases q : er_tk t N (er_p t N j) = 2
  · obtain ⟨_, u, w2, a1, a2⟩ := k2 (by decide) q
    rw [g29 (.inl q)] at a1
    have tt : ec_tw (er_tt t N (er_p t N j)) = er_tt t N (er_p t N j) := by
      rw [← g29 (.inl q)]
      exact ec_tw_fd _ _ _
    obtain ⟨e1, W1⟩ := ew_in a1
    rw [tt, tl, th] at e1
    injection e1 with e1 i1
    rw [i1] at a2
    have b := a2 _ e1 W1
    by_cases q2 : lo ≤ er_tt t N (er_p t N j) ∧ er_tt t N (er_p t N j) ≤ hi
    · rw [if_pos q2] at b
      obtain ⟨_, hr, hW⟩ := eg252_151_24_1 b (by decide)
      exact fin _ hr hW (by rw [if_pos ⟨q, q2⟩])
    · rw [if_neg q2] at b
      obtain ⟨_, hr, hW⟩ := eg252_151_31_0 (eg252_151_24_0 b rfl).2
      exact fin _ hr hW (by rw [if_neg (fun x => q2 x.2)])
  · obtain ⟨_, hr, hW⟩ := eg252_151_31_0 (k1 (by decide) q).2
    exact fin _ hr hW (by rw [if_neg (fun x => q x.1)])
theorem ew_isw1 {j n k : Nat} {w w1 : px_W} {v : Option Value} (hb : ∀ i, i < N → 0 ≤ t i ∧ t i ≤ 255) (hk : k < 16) (hZ : er_Z w t N H M j) (h : ec_E hb_X n 252 0 [(0, .inr (.inl 215)), (1, .inl (k : Int)), (2, .inl (k : Int))] [] w (v, w1)) : w = w1 ∧ ec_W hb_A w1 ∧ v = ec_R (if er_co t N (er_p t N j) = er_cc k then 1 else 0) := by
  obtain ⟨a, b, c⟩ := ew_isw hZ (ec_twn (by omega)) (ec_twn (by omega)) h
  refine ⟨a, b, ?_⟩
  rw [c]
  have iff := er_tk_w (i := er_p t N j) hb hk
  by_cases q : er_co t N (er_p t N j) = er_cc k
  · have q2 := iff.mpr q
    rw [if_pos q, if_pos ⟨q2.1, by omega, by omega⟩]
  · rw [if_neg q, if_neg (fun x => q (iff.mp ⟨x.1, by omega⟩))]
/-- behind a FAULT nothing is a word -/
theorem ew_isf {n : Nat} {w w1 : px_W} {v : Option Value} {lo hi : Int} (hf : 0 ≤ ec_fd w 151 30) (h : ec_E hb_X n 252 0 [(0, .inr (.inl 215)), (1, .inl lo), (2, .inl hi)] [] w (v, w1)) : w = w1 ∧ ec_W hb_A w1 ∧ v = ec_R 0 := by
  have t0 : ec_tw 0 = 0 := rfl
  obtain ⟨_, hr, hW⟩ := eg252_151_31_0 (eg252_151_0_0 h (by rw [ec_tw_fd, t0]; exact hf)).2
  injection hr with e1 e2
  rw [e2]
  exact ⟨rfl, hW, e1⟩
theorem ew_wrg {n : Nat} {w w1 : px_W} {v : Option Value} (hf : ec_fd w 151 30 = -1) (h : ec_E hb_X n 251 0 [(0, .inr (.inl 215))] [] w (v, w1)) : v = none ∧ ec_W hb_A w1 ∧ er_fr w w1 ∧ ec_fd w1 151 30 = ec_fd w 151 27 ∧ ec_fd w1 151 31 = ec_fd w 151 31 := by
  have hW : ec_W hb_A w := h.1
  have t0 : ec_tw 0 = 0 := rfl
  obtain ⟨_, hr, hW'⟩ := eg251_151_19_0 (eg251_151_0_1 h (by rw [ec_tw_fd, t0, hf]; decide)).2
  injection hr with e1 e2
  have F : ∀ g, ec_fd (ec_pf w 151 30 (ec_fd w 151 27)) 151 g = if g = 30 then ec_tw (ec_fd w 151 27) else ec_fd w 151 g := fun g => ec_fd_pf (k := 151) (f := 30) hW rfl (by decide)
  rw [e2]
  exact ⟨e1, hW', ⟨ef_s_pf (by decide), fun f _ _ _ _ a _ => by rw [F f, if_neg a]⟩, by rw [F 30, if_pos rfl, ec_tw_fd], by rw [F 31, if_neg (by decide)]⟩
theorem ew_wrf {n : Nat} {w w1 : px_W} {v : Option Value} (hf : 0 ≤ ec_fd w 151 30) (h : ec_E hb_X n 251 0 [(0, .inr (.inl 215))] [] w (v, w1)) : v = none ∧ ec_W hb_A w1 ∧ er_fr w w1 ∧ ec_fd w1 151 30 = ec_fd w 151 30 ∧ ec_fd w1 151 31 = ec_fd w 151 31 := by
  have hW : ec_W hb_A w := h.1
  have t0 : ec_tw 0 = 0 := rfl
  obtain ⟨_, hr, hW'⟩ := eg251_151_19_0 (eg251_151_0_0 h (by rw [ec_tw_fd, t0]; exact hf)).2
  injection hr with e1 e2
  have F : ∀ g, ec_fd (ec_pf w 151 30 (ec_fd w 151 30)) 151 g = if g = 30 then ec_tw (ec_fd w 151 30) else ec_fd w 151 g := fun g => ec_fd_pf (k := 151) (f := 30) hW rfl (by decide)
  rw [e2]
  exact ⟨e1, hW', ⟨ef_s_pf (by decide), fun f _ _ _ _ a _ => by rw [F f, if_neg a]⟩, by rw [F 30, if_pos rfl, ec_tw_fd], by rw [F 31, if_neg (by decide)]⟩
theorem er_tt_v {i : Nat} (hb : ∀ i, i < N → 0 ≤ t i ∧ t i ≤ 255) (h : er_tk t N i = 3) : er_tt t N i = er_va t N i := by
  have h0 := h
  unfold er_tk at h
  by_cases c : i < N
  · rw [if_pos c] at h
    by_cases qD : er_dg (t i) = true
    · exact er_tt_n h0 c qD
    · rw [if_neg qD] at h
      have bi := hb i c
      split at h
      · split at h <;> exact absurd h (by decide)
      · unfold er_sp at h
        split at h
        · rename_i z
          simp only [Bool.or_eq_true, decide_eq_true_eq] at z
          omega
        · exact absurd h (by decide)
  · rw [if_neg c] at h
    exact absurd h (by decide)
theorem ew_num {j n : Nat} {w w1 : px_W} {v : Option Value} {z : Int} (hN : N ≤ 200) (hb : ∀ i, i < N → 0 ≤ t i ∧ t i ≤ 255) (hz : 0 ≤ z) (tz : ec_tw z = z) (hZ : er_Z w t N H M j) (h : ec_E hb_X n 254 0 [(0, .inr (.inl 215)), (1, .inl z)] [] w (v, w1)) : ∃ x : Int, v = ec_R x ∧ ec_W hb_A w1 ∧ er_fr w w1 ∧ ec_fd w1 151 31 = ec_fd w 151 31 ∧ ((er_co t N (er_p t N j) = 301 ∧ z ≤ er_va t N (er_p t N j)) → x = er_va t N (er_p t N j) ∧ er_Z w1 t N H M (j + 1)) ∧ (¬ (er_co t N (er_p t N j) = 301 ∧ z ≤ er_va t N (er_p t N j)) → ec_fd w1 151 30 = (er_p t N j : Int)) := by
  have t0 : ec_tw 0 = 0 := rfl
  have t3 : ec_tw 3 = 3 := rfl
  have hZ0 := hZ
  obtain ⟨_, ⟨g27, g26, g28, g29⟩, g30⟩ := hZ
  have iff := er_tk_n (i := er_p t N j) hb hz
  have bad : ∀ x2 : Int, ¬ (er_co t N (er_p t N j) = 301 ∧ z ≤ er_va t N (er_p t N j)) → ec_E hb_X n 254 25 [(0, .inr (.inl 215)), (1, .inl z), (2, .inl x2)] [] w (v, w1) → ∃ x : Int, v = ec_R x ∧ ec_W hb_A w1 ∧ er_fr w w1 ∧ ec_fd w1 151 31 = ec_fd w 151 31 ∧ ((er_co t N (er_p t N j) = 301 ∧ z ≤ er_va t N (er_p t N j)) → x = er_va t N (er_p t N j) ∧ er_Z w1 t N H M (j + 1)) ∧ (¬ (er_co t N (er_p t N j) = 301 ∧ z ≤ er_va t N (er_p t N j)) → ec_fd w1 151 30 = (er_p t N j : Int)) := by
    intro x2 hno h2
    obtain ⟨_, u, w2, a1, a2⟩ := eg254_151_25_0 h2
    obtain ⟨e1, W1, fr, f30, f31⟩ := ew_wrg g30 a1
    obtain ⟨_, hr, hW⟩ := eg254_151_29_0 (a2 e1 W1)
    injection hr with e3 e4
    rw [e4]
    exact ⟨_, e3, hW, fr, f31, fun y => absurd y hno, fun _ => f30.trans g27⟩
  have k1 := eg254_151_0_1 h
  have k2 := eg254_151_0_2 h
  have k3 := eg254_151_0_3 h
  have ttk : ec_tw (er_tk t N (er_p t N j)) = er_tk t N (er_p t N j) := by
    rw [← g28]
    exact ec_tw_fd _ _ _
  simp only [ec_tw_fd, g30, t0, g28, t3, tz, ttk] at k1 k2 k3
  by_cases q : er_tk t N (er_p t N j) = 3
  · have g := g29 (.inr q)
    rw [g] at k2 k3
    by_cases q2 : z ≤ er_tt t N (er_p t N j)
    · have hc := iff.mp ⟨q, q2⟩
      obtain ⟨_, u, w2, a1, a2⟩ := k2 (by decide) q q2
      obtain ⟨e1, W1, fr, Z1, f31⟩ := ew_nxt hN hb hZ0 (by rw [hc.1]; decide) a1
      obtain ⟨_, hr, hW⟩ := eg254_151_35_0 (a2 e1 W1)
      injection hr with e3 e4
      rw [e4]
      exact ⟨_, e3, hW, fr, f31, fun _ => ⟨er_tt_v hb q, Z1⟩, fun y => absurd hc y⟩
    · exact bad _ (fun x => q2 (iff.mpr x).2) (k3 (by decide) q (by omega)).2
  · exact bad _ (fun x => q (iff.mpr x).1) (k1 (by decide) q).2
/-- what a reading method leaves -/
def er_Q (t : Nat → Int) (N : Nat) (H : Bool) (M : Nat → Int) (w w' : px_W) (z : Int) (res : er_R) : Prop := ec_W hb_A w' ∧ er_fr w w' ∧ ec_fd w' 151 31 = ec_fd w 151 31 ∧ match res.2 with
  | none => ec_fd w' 151 30 = (er_p t N res.1 : Int)
  | some q => er_Z w' t N H M res.1 ∧ z = (if q.2 = true then 1 else 0)
/-- a condition, when so many are open -/
def er_EC (t : Nat → Int) (N : Nat) (H : Bool) (M : Nat → Int) (m : Nat) (f : Nat → er_R) (o : Int) : Prop := ∀ (n j : Nat) (w w1 : px_W) (v : Option Value), er_Z w t N H M j → ec_fd w 151 31 = o → ec_E hb_X n m 0 [(0, .inr (.inl 215))] [] w (v, w1) → ∃ z : Int, v = ec_R z ∧ er_Q t N H M w w1 z (f j)
theorem ew_nots (hN : N ≤ 200) (hb : ∀ i, i < N → 0 ≤ t i ∧ t i ≤ 255) : ∀ (f n j : Nat) (b : Bool) (w : px_W) (r : Option Value × px_W), 200 ≤ f + j → er_Z w t N H M j → ec_E hb_X n 255 2 [(0, .inr (.inl 215)), (1, .inl (if b = true then 1 else 0))] [] w r → ∃ w' : px_W, er_fr w w' ∧ ec_fd w' 151 31 = ec_fd w 151 31 ∧ er_Z w' t N H M (er_nt (fun j => er_co t N (er_p t N j)) f j) ∧ ec_E hb_X n 255 30 [(0, .inr (.inl 215)), (1, .inl (if (b != decide ((er_nt (fun j => er_co t N (er_p t N j)) f j - j) % 2 = 1)) = true then 1 else 0))] [] w' r := by
  intro f
  induction f with
  | zero =>
    intro n j b w r hf hZ h
    obtain ⟨_, u, w1, a1, a2⟩ := eg255_151_2_0 h
    obtain ⟨i1, W1, e1⟩ := ew_isw1 (k := 8) hb (by decide) hZ a1
    rw [← i1] at a2 W1
    have hne : ¬ er_co t N (er_p t N j) = er_cc 8 := fun e => by
      have := (er_C_lt hN hb (j := j) (by rw [e]; decide)).2
      omega
    rw [if_neg hne] at e1
    have b2 := (eg255_151_10_0 (a2 _ e1 W1) rfl).2
    refine ⟨w, er_fr_r, rfl, hZ, ?_⟩
    have e : (er_nt (fun j => er_co t N (er_p t N j)) 0 j - j) = 0 := Nat.sub_self j
    rw [e]
    cases b <;> exact b2
  | succ f ih =>
    intro n j b w r hf hZ h
    obtain ⟨_, u, w1, a1, a2⟩ := eg255_151_2_0 h
    obtain ⟨i1, W1, e1⟩ := ew_isw1 (k := 8) hb (by decide) hZ a1
    rw [← i1] at a2 W1
    have ent : er_nt (fun j => er_co t N (er_p t N j)) (f + 1) j = if er_co t N (er_p t N j) = 322 then er_nt (fun j => er_co t N (er_p t N j)) f (j + 1) else j := rfl
    have c8 : er_cc 8 = 322 := rfl
    by_cases q : er_co t N (er_p t N j) = er_cc 8
    · rw [if_pos q] at e1
      have b2 := a2 _ e1 W1
      have go : ec_E hb_X n 255 22 [(0, .inr (.inl 215)), (1, .inl (if b = true then 1 else 0))] [.inl (if (!b) = true then 1 else 0)] w r := by
        cases b with
        | false => exact (eg255_151_10_2 b2 (by decide) rfl).2
        | true => exact (eg255_151_10_1 b2 (by decide) (by decide)).2
      obtain ⟨_, u2, w2, a3, a4⟩ := eg255_151_22_0 go
      obtain ⟨e2, W2, fr, Z2, f31⟩ := ew_nxt hN hb hZ (by rw [q]; decide) a3
      obtain ⟨w', q1, q2, q3, q4⟩ := ih n (j + 1) (!b) w2 r (by omega) Z2 (eg255_151_27_0 (a4 e2 W2)).2
      rw [ent, if_pos (q.trans c8)]
      refine ⟨w', er_fr_t fr q1, q2.trans f31, q3, ?_⟩
      have ge := (er_nt_ov (C := fun j => er_co t N (er_p t N j)) f (j + 1)).1
      have par : ((!b) != decide ((er_nt (fun j => er_co t N (er_p t N j)) f (j + 1) - (j + 1)) % 2 = 1)) = (b != decide ((er_nt (fun j => er_co t N (er_p t N j)) f (j + 1) - j) % 2 = 1)) := by
        by_cases p : (er_nt (fun j => er_co t N (er_p t N j)) f (j + 1) - (j + 1)) % 2 = 1
        · rw [decide_eq_true p, decide_eq_false (by omega)]
          cases b <;> rfl
        · rw [decide_eq_false p, decide_eq_true (by omega)]
          cases b <;> rfl
      rw [← par]
      exact q4
    · rw [if_neg q] at e1
      have b2 := (eg255_151_10_0 (a2 _ e1 W1) rfl).2
      rw [ent, if_neg (fun e => q (e.trans c8.symm))]
      refine ⟨w, er_fr_r, rfl, hZ, ?_⟩
      rw [Nat.sub_self]
      cases b <;> exact b2
end ER6

end
