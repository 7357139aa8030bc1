noncomputable section
/-! THE ORDER: the class's search -/
def eo_V (E : Nat → Nat → Int) (p Se : Nat → Int) (bn gn : Nat) (Lo : Nat → Int) : Int := eq_mn (eq_C Se p (fun g => eq_M (E g) Lo bn) bn gn) (ef_ss Se bn (2 ^ bn - 1)) (2 ^ bn)
theorem eq_M_up {e L L' : Nat → Int} {bn b : Nat} (h : ∀ j, j < bn → L j ≤ L' j) (hb : Nat.testBit (eq_M e L bn) b = true) : Nat.testBit (eq_M e L' bn) b = true := by
  have hl : b < bn := by
    by_cases q : b < bn
    · exact q
    · have h1 := Nat.ge_two_pow_of_testBit hb
      have h2 : 2 ^ bn ≤ 2 ^ b := Nat.pow_le_pow_right (by decide) (by omega)
      have h3 := eq_M_lt (E := e) (L := L) (bn := bn)
      omega
  rw [eq_M_bit hl] at hb ⊢
  have h1 := of_decide_eq_true hb
  have h2 := h b hl
  exact decide_eq_true (by omega)
theorem eq_mn_up {f f' : Nat → Int} {a : Int} : ∀ k, (∀ x, x < k → f x ≤ f' x) → eq_mn f a k ≤ eq_mn f' a k
  | 0, _ => Int.le_refl _
  | k + 1, h => by
    have h1 := eq_mn_up (a := a) k (fun x hx => h x (by omega))
    have h2 := h k (by omega)
    show min (eq_mn f a k) (f k) ≤ min (eq_mn f' a k) (f' k)
    omega
theorem eo_V_up {E : Nat → Nat → Int} {p Se : Nat → Int} {bn gn : Nat} (hp : ∀ g, g < gn → 0 ≤ p g) (L L' : Nat → Int) (h : ∀ j, j < bn → L j ≤ L' j) : eo_V E p Se bn gn L ≤ eo_V E p Se bn gn L' := by
  refine eq_mn_up (2 ^ bn) (fun x _ => ?_)
  have := eq_sm_le (p := p) (c := fun g => !(eq_in (eq_M (E g) L bn) x)) (c' := fun g => !(eq_in (eq_M (E g) L' bn) x)) gn hp (fun g _ e => by
    have e1 : (!(eq_in (eq_M (E g) L bn) x)) = true := e
    show (!(eq_in (eq_M (E g) L' bn) x)) = true
    cases t : eq_in (eq_M (E g) L' bn) x with
    | false => rfl
    | true =>
      have t2 : eq_in (eq_M (E g) L bn) x = true := eq_in_ok.mpr (fun b hb => eq_in_ok.mp t b (eq_M_up h hb))
      rw [t2] at e1
      cases e1)
  show ef_ss Se bn x + eq_sm p (fun g => !(eq_in (eq_M (E g) L bn) x)) gn ≤ ef_ss Se bn x + eq_sm p (fun g => !(eq_in (eq_M (E g) L' bn) x)) gn
  omega
theorem eo_V_cg {E : Nat → Nat → Int} {p Se : Nat → Int} {bn gn : Nat} (hp : ∀ g, g < gn → 0 ≤ p g) {L L' : Nat → Int} (h : ∀ j, j < bn → L j = L' j) : eo_V E p Se bn gn L = eo_V E p Se bn gn L' := by
  have h1 := eo_V_up (E := E) (Se := Se) hp L L' (fun j hj => Int.le_of_eq (h j hj))
  have h2 := eo_V_up (E := E) (Se := Se) hp L' L (fun j hj => Int.le_of_eq (h j hj).symm)
  omega
section EO2
variable {gn bn N : Nat} {E : Nat → Nat → Int} {p Se T : Nat → Int} {now lab : Int}
/-- what doesn't change in the search -/
def eo_St (gn bn N : Nat) (E : Nat → Nat → Int) (p Se : Nat → Int) (now lab : Int) (w : px_W) : Prop := (ec_fd w 126 5 = (gn : Int) ∧ ec_fd w 126 6 = (bn : Int) ∧ ec_fd w 126 14 = (N : Int) ∧ ec_fd w 126 15 = now ∧ ec_fd w 126 16 = lab) ∧ (∀ g b, g < gn → b < bn → ef_a w 133 (g * 8 + b) = E g b) ∧ (∀ g, g < gn → ef_a w 130 g = p g) ∧ ∀ y, y < 2 ^ bn → ef_a w 134 y = ef_ss Se bn y
theorem eo_St_s {w w' : px_W} (h : eo_St gn bn N E p Se now lab w) (hs : ef_s eq_S6 w w') (hf : ∀ f, f ≠ 3 → ec_fd w' 126 f = ec_fd w 126 f) : eo_St gn bn N E p Se now lab w' := by
  obtain ⟨⟨h1, h2, h3, h4, h5⟩, h6, h7, h8⟩ := h
  refine ⟨⟨(hf 5 (by decide)).trans h1, (hf 6 (by decide)).trans h2, (hf 14 (by decide)).trans h3, (hf 15 (by decide)).trans h4, (hf 16 (by decide)).trans h5⟩, ?_, ?_, ?_⟩
  · rw [ef_s_a hs (by decide)]
    exact h6
  · rw [ef_s_a hs (by decide)]
    exact h7
  · rw [ef_s_a hs (by decide)]
    exact h8
/-- what does -/
def eo_Dy (bn N d : Nat) (Lo pk : Nat → Int) (b : eo_B) (w : px_W) : Prop := (∀ j, j < bn → ef_a w 132 j = Lo j) ∧ (∀ i, i < d → ef_a w 136 i = pk i) ∧ ec_fd w 126 3 = b.1 ∧ ∀ i, i < N → ef_a w 129 i = b.2 i
theorem eo_lb {m j0 : Nat} (hm : m < 256) (h8 : j0 < 8) (hj : Nat.testBit m j0 = true) (hl : ∀ i, i < j0 → Nat.testBit m i = false) : ∀ (k n i : Nat) (w w1 : px_W) (v : Option Value), i + k = j0 → ec_E hb_X n 175 2 [(0, .inl (m : Int)), (1, .inl (i : Int))] [] w (v, w1) → w = w1 ∧ ec_W hb_A w1 ∧ v = ec_R (j0 : Int) := by
  intro k
  induction k with
  | zero =>
    intro n i w w1 v hik h
    have hi : i = j0 := by omega
    have t0 : ec_tw 0 = 0 := rfl
    have t31 : ec_tw 31 = 31 := rfl
    have j := eg175_2_1 h
    rw [hi, ec_bitT (by omega) (by omega), t0, t31, ec_twn (n := j0) (by omega)] at j
    obtain ⟨_, hr, hW⟩ := j (by omega) (by rw [if_pos hj]; decide)
    injection hr with e1 e2
    rw [e2]
    exact ⟨rfl, hW, e1⟩
  | succ k ih =>
    intro n i w w1 v hik h
    have t0 : ec_tw 0 = 0 := rfl
    have t31 : ec_tw 31 = 31 := rfl
    have j := eg175_2_2 h
    rw [ec_bitT (by omega) (by omega), t0, t31, ec_twn (n := i) (by omega)] at j
    exact ih n (i + 1) w w1 v (by omega) (j (by omega) (by rw [hl i (by omega)]; rfl)).2
theorem eo_one {m : Nat} : ∀ k, eo_cn m k = 1 → ∃ j, j < k ∧ Nat.testBit m j = true ∧ (∀ i, i < k → i ≠ j → Nat.testBit m i = false)
  | 0, h => by
    have : eo_cn m 0 = 0 := rfl
    omega
  | k + 1, h => by
    have e : eo_cn m (k + 1) = eo_cn m k + (if Nat.testBit m k = true then 1 else 0) := rfl
    by_cases q : Nat.testBit m k = true
    · rw [if_pos q] at e
      refine ⟨k, by omega, q, fun i hi hne => et_bf (fun t => ?_)⟩
      have := eo_cn_lt t (by omega : i < k)
      omega
    · rw [if_neg q] at e
      have hk : eo_cn m k = 1 := by omega
      obtain ⟨j, j1, j2, j3⟩ := eo_one k hk
      refine ⟨j, by omega, j2, fun i hi hne => ?_⟩
      by_cases c : i = k
      · rw [c]
        exact et_bf q
      · exact j3 i (by omega) hne
theorem eo_ch_one {C : Nat → eo_B → eo_B} {m j : Nat} {b : eo_B} (hj : Nat.testBit m j = true) : ∀ k, (∀ i, i < k → i ≠ j → Nat.testBit m i = false) → eo_ch C m k b = if j < k then C j b else b
  | 0, _ => by rw [if_neg (Nat.not_lt_zero _)]; rfl
  | k + 1, h => by
    have ih := eo_ch_one (C := C) (b := b) hj k (fun i hi => h i (by omega))
    show (if Nat.testBit m k = true then C k (eo_ch C m k b) else eo_ch C m k b) = _
    by_cases q : k = j
    · rw [q] at ih ⊢
      rw [if_pos hj, ih, if_neg (Nat.lt_irrefl _), if_pos (by omega)]
    · rw [h k (by omega) q, if_neg (by decide), ih]
      by_cases c : j < k
      · rw [if_pos c, if_pos (by omega)]
      · rw [if_neg c, if_neg (by omega)]
theorem ew_pick (h8 : bn ≤ 8) (h10 : gn ≤ 10) (hN : N ≤ 6) (hp : ∀ g, g < gn → 0 ≤ p g ∧ p g ≤ 50) (hS : ∀ b, b < bn → 0 ≤ Se b ∧ Se b ≤ 65) (hnow : 0 ≤ now ∧ now ≤ 999) (hlab : 1 ≤ lab ∧ lab ≤ 30) (hT : ∀ i, T i = now + (i : Int) * lab) : ∀ (r n d m : Nat) (Lo pk : Nat → Int) (b : eo_B) (w : px_W) (z : Option Value × px_W), d + (r + 1) = N → m < 2 ^ bn → eo_cn m bn = r + 1 → eo_St gn bn N E p Se now lab w → eo_Dy bn N d Lo pk b w → (∀ j, j < bn → Nat.testBit m j = true → Lo j = T N) → ec_E hb_X n 107 0 [(0, .inr (.inl 190)), (1, .inl (d : Int)), (2, .inl (m : Int))] [] w z → ∃ w' : px_W, z = (none, w') ∧ ec_W hb_A w' ∧ ef_s eq_S6 w w' ∧ (∀ f, f ≠ 3 → ec_fd w' 126 f = ec_fd w 126 f) ∧ eo_Dy bn N d Lo pk (eo_tr (eo_V E p Se bn gn) T N bn (r + 1) Lo m pk b) w' := by
  have p8 := eq_pw h8
  have hV := eo_V_up (E := E) (Se := Se) (bn := bn) (fun g hg => (hp g hg).1)
  have hTm : ∀ i, i ≤ N → T i ≤ T N := by
    intro i hi
    rw [hT i, hT N]
    have : (i : Int) * lab ≤ (N : Int) * lab := Int.mul_le_mul_of_nonneg_right (by omega) (by omega)
    omega
  have Tin : ∀ i, i ≤ N → 0 ≤ T i ∧ T i ≤ 2000 := by
    intro i hi
    rw [hT i]
    have h1 : 0 ≤ (i : Int) * lab := Int.mul_nonneg (by omega) (by omega)
    have h2 : (i : Int) * lab ≤ 6 * 30 := Int.mul_le_mul (by omega) (by omega) (by omega) (by omega)
    omega
  have Vin : ∀ L, 0 ≤ eo_V E p Se bn gn L ∧ eo_V E p Se bn gn L ≤ 1020 := by
    intro L
    have ss := eq_ss_in (Se := Se) (x := 2 ^ bn - 1) bn hS
    have lo := eq_mn_ge (f := eq_C Se p (fun g => eq_M (E g) L bn) bn gn) (a := ef_ss Se bn (2 ^ bn - 1)) (z := 0) (2 ^ bn) ss.1 (fun x _ => (eq_C_in h8 h10 hS hp).1)
    have hi := (eq_mn_le (f := eq_C Se p (fun g => eq_M (E g) L bn) bn gn) (a := ef_ss Se bn (2 ^ bn - 1)) (2 ^ bn)).1
    unfold eo_V
    omega
  -- ahead of the choice
  have pre : ∀ (n d m : Nat) (Lo pk : Nat → Int) (b : eo_B) (w : px_W) (z : Option Value × px_W), eo_St gn bn N E p Se now lab w → eo_Dy bn N d Lo pk b w → ec_E hb_X n 107 0 [(0, .inr (.inl 190)), (1, .inl (d : Int)), (2, .inl (m : Int))] [] w z → ∃ w' : px_W, ec_W hb_A w' ∧ ef_s [128, 135] w w' ∧ eo_St gn bn N E p Se now lab w' ∧ eo_Dy bn N d Lo pk b w' ∧ ec_E hb_X n 107 8 [(0, .inr (.inl 190)), (1, .inl (d : Int)), (2, .inl (m : Int))] [.inl (eo_V E p Se bn gn Lo)] w' z := by
    intro n d m Lo pk b w z hSt hDy h
    have hSt0 := hSt
    obtain ⟨⟨f5, f6, f14, f15, f16⟩, e133, e130, e134⟩ := hSt
    obtain ⟨y1, y2, y3, y4⟩ := hDy
    obtain ⟨_, v1, w1, a1, a2⟩ := eg107_126_0_0 h
    obtain ⟨w1', e1, W1, s1, c1⟩ := ew_fb2 h10 h8 gn n 0 w _ (by omega) f5 f6 (eg99_126_0_0 a1).2
    injection e1 with e1 i1
    subst i1
    obtain ⟨_, v2, w2, a3, a4⟩ := eg107_126_4_0 (a2 e1 W1)
    have hMS : ew_MS gn bn (fun g => eq_M (E g) Lo bn) p Se w1 := by
      refine ⟨⟨h10, h8⟩, (ef_s_f s1 (by decide) 5).trans f5, (ef_s_f s1 (by decide) 6).trans f6, fun g hg => ⟨?_, eq_M_lt⟩, fun g hg => ⟨by rw [ef_s_a s1 (by decide)]; exact e130 g hg, hp g hg⟩, by rw [ef_s_a s1 (by decide)]; exact e134, hS⟩
      rw [c1 g, if_pos ⟨Nat.zero_le _, hg⟩, ef_cb_cg bn 0 0 (E' := E g) (L' := Lo) (fun j _ hj => by rw [e133 g j hg (by omega), y1 j (by omega)]), ef_cb_M h8]
    obtain ⟨w2', e2, W2, s2, _⟩ := ew_mostA hMS a3
    injection e2 with e2 i2
    subst i2
    have S12 : ef_s [128, 135] w w2 := ef_s_trans (ef_s_mono s1 (by decide)) (ef_s_mono s2 (by decide))
    refine ⟨w2, W2, S12, eo_St_s hSt0 (ef_s_mono S12 (by decide)) (fun f _ => ef_s_f S12 (by decide) f), ⟨?_, ?_, ?_, ?_⟩, a4 _ e2 W2⟩
    · rw [ef_s_a S12 (by decide)]
      exact y1
    · rw [ef_s_a S12 (by decide)]
      exact y2
    · rw [ef_s_f S12 (by decide)]
      exact y3
    · rw [ef_s_a S12 (by decide)]
      exact y4
  intro r
  induction r with
  | zero =>
    intro n d m Lo pk b w z hd hm hc hSt hDy hl h
    obtain ⟨w2, W2, S2, St2, Dy2, a⟩ := pre n d m Lo pk b w z hSt hDy h
    have f14 := St2.1.2.2.1
    have f3 := Dy2.2.2.1
    have vin := Vin Lo
    have bin := ec_fd_in w2 126 3
    rw [f3] at bin
    have td : ec_tw (d : Int) = d := ec_twn (by omega)
    have tN : ec_tw ((N : Int) - 1) = (N : Int) - 1 := ec_tw_id (by omega) (by omega)
    have tv : ec_tw (eo_V E p Se bn gn Lo) = eo_V E p Se bn gn Lo := ec_tw_id (by omega) (by omega)
    have j0 := eg107_126_8_0 a
    have j2 := eg107_126_8_2 a
    rw [tv, f3, ec_tw_id (a := b.1) bin.1 bin.2] at j0 j2
    rw [f14, td, ec_twn (n := N) (by omega), tN] at j2
    by_cases c1 : eo_V E p Se bn gn Lo ≤ b.1
    · obtain ⟨_, hz, _⟩ := j0 c1
      refine ⟨w2, hz, W2, ef_s_mono S2 (by decide), fun f _ => ef_s_f S2 (by decide) f, ?_⟩
      rw [eo_no hV hTm 1 Lo pk m b (by omega) (fun j hj hb => Int.le_of_eq (hl j hj hb).symm) c1]
      exact Dy2
    · obtain ⟨_, v3, w3, a3, a4⟩ := j2 (by omega) (by omega) (by omega)
      obtain ⟨q, q1, q2, q3⟩ := eo_one bn hc
      obtain ⟨i3, W3, e3⟩ := eo_lb (by omega) (by omega) q2 (fun i hi => q3 i (by omega) (by omega)) q n 0 w2 w3 v3 (by omega) (eg175_0_0 a3).2
      subst i3
      have k45 := (eg107_126_45_0 (a4 _ e3 W3)).2
      rw [td] at k45
      obtain ⟨v4, w4, a5, a6⟩ := k45
      obtain ⟨w4', e4, W4, s4, p4⟩ := ew_cp136_129 a5
      injection e4 with e4 i4
      subst i4
      obtain ⟨_, hz, _⟩ := eg107_126_62_0 (a6 e4 W4)
      have Wx : ec_W hb_A (ec_wr w2 136 (d : Int) (q : Int)) := ec_W_wr W2
      have e136 : ∀ i, ef_a (ec_pf (ec_wr w2 136 (d : Int) (q : Int)) 126 3 (eo_V E p Se bn gn Lo)) 136 i = if i = d then (q : Int) else ef_a w2 136 i := by
        intro i
        rw [ef_s_a (ef_s_pf (S := [126]) List.mem_cons_self) (by decide), ef_a_wr (n := 6) W2 rfl (by omega) (by omega), ec_twn (n := q) (by omega)]
        unfold ef_u
        rw [Int.toNat_natCast]
      have eu : eo_tr (eo_V E p Se bn gn) T N bn (0 + 1) Lo m pk b = (eo_V E p Se bn gn Lo, ef_u pk d (q : Int)) := by
        show eo_ch (fun j b => eo_up b (eo_V E p Se bn gn (ef_u Lo j (T (N - 0)))) (ef_u pk (N - (0 + 1)) (j : Int))) m bn b = _
        rw [eo_ch_one q2 bn q3, if_pos q1]
        show eo_up b (eo_V E p Se bn gn (ef_u Lo q (T (N - 0)))) (ef_u pk (N - (0 + 1)) (q : Int)) = _
        have e1 : N - (0 + 1) = d := by omega
        have e2 : eo_V E p Se bn gn (ef_u Lo q (T (N - 0))) = eo_V E p Se bn gn Lo := by
          refine eo_V_cg (fun g hg => (hp g hg).1) (fun j hj => ?_)
          unfold ef_u
          split
          · rename_i e
            rw [e, hl q q1 q2]
            rfl
          · rfl
        rw [e1, e2]
        unfold eo_up
        rw [if_pos (by omega)]
      have S24 : ef_s eq_S6 w2 w4 := ef_s_trans (ef_s_trans (ef_s_wr (by decide)) (ef_s_pf (by decide))) (ef_s_mono s4 (by decide))
      have g4 : ∀ f, ec_fd w4 126 f = if f = 3 then eo_V E p Se bn gn Lo else ec_fd w2 126 f := by
        intro f
        rw [ef_s_f s4 (by decide), ec_fd_pf (k := 126) (f := 3) Wx rfl (by decide), tv, ec_fd_wr_o (by decide)]
      refine ⟨w4, hz, W4, ef_s_trans (ef_s_mono S2 (by decide)) S24, fun f hf => by rw [g4 f, if_neg hf]; exact ef_s_f S2 (by decide) f, ?_⟩
      rw [eu]
      refine ⟨fun j hj => ?_, fun i hi => ?_, ?_, fun i hi => ?_⟩
      · rw [ef_s_a s4 (by decide), ef_s_a (ef_s_pf (S := [126]) List.mem_cons_self) (by decide), ef_a_wr_o (by decide)]
        exact Dy2.1 j hj
      · rw [ef_s_a s4 (by decide), e136 i, if_neg (by omega)]
        exact Dy2.2.1 i hi
      · rw [g4 3, if_pos rfl]
      · rw [p4, e136 i]
        show (if i = d then (q : Int) else ef_a w2 136 i) = ef_u pk d (q : Int) i
        unfold ef_u
        by_cases c : i = d
        · rw [if_pos c, if_pos c]
        · rw [if_neg c, if_neg c]
          exact Dy2.2.1 i (by omega)
  | succ r ihr =>
    intro n d m Lo pk b w z hd hm hc hSt hDy hl h
    obtain ⟨w2, W2, S2, St2, Dy2, a⟩ := pre n d m Lo pk b w z hSt hDy h
    have f14 := St2.1.2.2.1
    have f3 := Dy2.2.2.1
    have vin := Vin Lo
    have bin := ec_fd_in w2 126 3
    rw [f3] at bin
    have td : ec_tw (d : Int) = d := ec_twn (by omega)
    have t1 : ec_tw 1 = 1 := rfl
    have tN : ec_tw ((N : Int) - 1) = (N : Int) - 1 := ec_tw_id (by omega) (by omega)
    have tv : ec_tw (eo_V E p Se bn gn Lo) = eo_V E p Se bn gn Lo := ec_tw_id (by omega) (by omega)
    have j0 := eg107_126_8_0 a
    have j1 := eg107_126_8_1 a
    rw [tv, f3, ec_tw_id (a := b.1) bin.1 bin.2] at j0 j1
    rw [f14, td, ec_twn (n := N) (by omega), tN] at j1
    by_cases c1 : eo_V E p Se bn gn Lo ≤ b.1
    · obtain ⟨_, hz, _⟩ := j0 c1
      refine ⟨w2, hz, W2, ef_s_mono S2 (by decide), fun f _ => ef_s_f S2 (by decide) f, ?_⟩
      rw [eo_no hV hTm (r + 1 + 1) Lo pk m b (by omega) (fun j hj hb => Int.le_of_eq (hl j hj hb).symm) c1]
      exact Dy2
    · have h66 := (j1 (by omega) (by omega) (by omega)).2
      have lp : ∀ (k n j : Nat) (y : px_W) (z : Option Value × px_W), j + k = bn → ec_W hb_A y → eo_St gn bn N E p Se now lab y → eo_Dy bn N d Lo pk (eo_ch (fun j b => eo_tr (eo_V E p Se bn gn) T N bn (r + 1) (ef_u Lo j (T (N - (r + 1)))) (eo_rm m j) (ef_u pk (N - (r + 1 + 1)) (j : Int)) b) m j b) y → ec_E hb_X n 107 66 [(0, .inr (.inl 190)), (1, .inl (d : Int)), (2, .inl (m : Int)), (3, .inl (eo_V E p Se bn gn Lo)), (4, .inl (j : Int))] [] y z → ∃ w' : px_W, z = (none, w') ∧ ec_W hb_A w' ∧ ef_s eq_S6 y w' ∧ (∀ f, f ≠ 3 → ec_fd w' 126 f = ec_fd y 126 f) ∧ eo_Dy bn N d Lo pk (eo_ch (fun j b => eo_tr (eo_V E p Se bn gn) T N bn (r + 1) (ef_u Lo j (T (N - (r + 1)))) (eo_rm m j) (ef_u pk (N - (r + 1 + 1)) (j : Int)) b) m bn b) w' := by
        intro k
        induction k with
        | zero =>
          intro n j y z hj hW hSt hDy h
          have ej : j = bn := by omega
          rw [ej] at hDy
          obtain ⟨_, hz, _⟩ := eg107_126_66_0 h (by rw [hSt.1.2.1, ej]; exact Int.le_refl _)
          exact ⟨y, hz, hW, ef_s_refl, fun _ _ => rfl, hDy⟩
        | succ k ihk =>
          intro n j y z hj hW hSt hDy h
          have tj : ec_tw (j : Int) = j := ec_twn (by omega)
          have g3 := hDy.2.2.1
          have g6 := hSt.1.2.1
          have gin := ec_fd_in y 126 3
          rw [g3] at gin
          have l1 := eg107_126_66_1 h
          have l2 := eg107_126_66_2 h
          have l3 := eg107_126_66_3 h
          rw [tj, g6, ec_twn (n := bn) (by omega), tv, g3, ec_tw_id gin.1 gin.2] at l1 l2 l3
          rw [ec_bitT (by omega) (by omega), t1] at l2 l3
          by_cases q1 : eo_V E p Se bn gn Lo ≤ (eo_ch (fun j b => eo_tr (eo_V E p Se bn gn) T N bn (r + 1) (ef_u Lo j (T (N - (r + 1)))) (eo_rm m j) (ef_u pk (N - (r + 1 + 1)) (j : Int)) b) m j b).1
          · obtain ⟨_, hz, _⟩ := l1 (by omega) q1
            have rest : ∀ i, eo_ch (fun j b => eo_tr (eo_V E p Se bn gn) T N bn (r + 1) (ef_u Lo j (T (N - (r + 1)))) (eo_rm m j) (ef_u pk (N - (r + 1 + 1)) (j : Int)) b) m (j + i) b = eo_ch (fun j b => eo_tr (eo_V E p Se bn gn) T N bn (r + 1) (ef_u Lo j (T (N - (r + 1)))) (eo_rm m j) (ef_u pk (N - (r + 1 + 1)) (j : Int)) b) m j b ∨ bn < j + i := by
              intro i
              induction i with
              | zero => exact .inl rfl
              | succ i ihi =>
                by_cases hbi : bn < j + (i + 1)
                · exact .inr hbi
                · rcases ihi with ihi | ihi
                  · refine .inl ?_
                    show (if Nat.testBit m (j + i) = true then eo_tr (eo_V E p Se bn gn) T N bn (r + 1) (ef_u Lo (j + i) (T (N - (r + 1)))) (eo_rm m (j + i)) (ef_u pk (N - (r + 1 + 1)) ((j + i : Nat) : Int)) (eo_ch (fun j b => eo_tr (eo_V E p Se bn gn) T N bn (r + 1) (ef_u Lo j (T (N - (r + 1)))) (eo_rm m j) (ef_u pk (N - (r + 1 + 1)) (j : Int)) b) m (j + i) b) else eo_ch (fun j b => eo_tr (eo_V E p Se bn gn) T N bn (r + 1) (ef_u Lo j (T (N - (r + 1)))) (eo_rm m j) (ef_u pk (N - (r + 1 + 1)) (j : Int)) b) m (j + i) b) = _
                    rw [ihi]
                    by_cases t : Nat.testBit m (j + i) = true
                    · rw [if_pos t]
                      refine eo_no hV hTm (r + 1) _ _ _ _ (eq_mk_lt 8) (fun x hx hb => ?_) (Int.le_trans (hV _ Lo (fun x hx => ?_)) q1)
                      · rw [eo_rm_bit (by omega), Bool.and_eq_true] at hb
                        have hne : x ≠ j + i := fun e => by
                          rw [decide_eq_true e] at hb
                          exact Bool.noConfusion hb.2
                        unfold ef_u
                        rw [if_neg hne]
                        exact Int.le_of_eq (hl x hx hb.1).symm
                      · unfold ef_u
                        split
                        · rename_i e
                          rw [e, hl (j + i) (by omega) t]
                          exact hTm _ (by omega)
                        · exact Int.le_refl _
                    · rw [if_neg t]
                  · omega
            have hbn := rest (bn - j)
            have e : j + (bn - j) = bn := by omega
            rw [e] at hbn
            rcases hbn with hbn | hbn
            · exact ⟨y, hz, hW, ef_s_refl, fun _ _ => rfl, by rw [hbn]; exact hDy⟩
            · omega
          · have es : eo_ch (fun j b => eo_tr (eo_V E p Se bn gn) T N bn (r + 1) (ef_u Lo j (T (N - (r + 1)))) (eo_rm m j) (ef_u pk (N - (r + 1 + 1)) (j : Int)) b) m (j + 1) b = if Nat.testBit m j = true then eo_tr (eo_V E p Se bn gn) T N bn (r + 1) (ef_u Lo j (T (N - (r + 1)))) (eo_rm m j) (ef_u pk (N - (r + 1 + 1)) (j : Int)) (eo_ch (fun j b => eo_tr (eo_V E p Se bn gn) T N bn (r + 1) (ef_u Lo j (T (N - (r + 1)))) (eo_rm m j) (ef_u pk (N - (r + 1 + 1)) (j : Int)) b) m j b) else eo_ch (fun j b => eo_tr (eo_V E p Se bn gn) T N bn (r + 1) (ef_u Lo j (T (N - (r + 1)))) (eo_rm m j) (ef_u pk (N - (r + 1 + 1)) (j : Int)) b) m j b := rfl
            by_cases q2 : Nat.testBit m j = true
            · rw [if_pos q2] at es
              obtain ⟨_, v5, w5, b1, b2⟩ := l3 (by omega) (by omega) (by rw [if_pos q2])
              have eN1 : N - (r + 1) = d + 1 := by omega
              have eN2 : N - (r + 1 + 1) = d := by omega
              have Wa : ec_W hb_A (ec_wr y 136 (d : Int) (j : Int)) := ec_W_wr hW
              have eT : now + ((d : Int) + 1) * lab = T (d + 1) := by
                rw [hT (d + 1)]
                rfl
              have eTN : now + (N : Int) * lab = T N := (hT N).symm
              have Td := Tin (d + 1) (by omega)
              have TN := Tin N (Nat.le_refl _)
              have f15 : ec_fd (ec_wr y 136 (d : Int) (j : Int)) 126 15 = now := (ec_fd_wr_o (by decide)).trans hSt.1.2.2.2.1
              have f16 : ec_fd (ec_wr y 136 (d : Int) (j : Int)) 126 16 = lab := (ec_fd_wr_o (by decide)).trans hSt.1.2.2.2.2
              rw [td, f15, f16, eT, et_clear j (by omega) m (by omega)] at b1
              have SA : ef_s [132, 136] y (ec_wr (ec_wr y 136 (d : Int) (j : Int)) 132 (j : Int) (T (d + 1))) := ef_s_trans (ef_s_wr (by decide)) (ef_s_wr (by decide))
              have fA : ∀ f, ec_fd (ec_wr (ec_wr y 136 (d : Int) (j : Int)) 132 (j : Int) (T (d + 1))) 126 f = ec_fd y 126 f := fun f => ef_s_f SA (by decide) f
              have hcn := eo_rm_cn (by omega) q2 bn
              rw [if_pos (by omega : j < bn)] at hcn
              have Dy5 : eo_Dy bn N (d + 1) (ef_u Lo j (T (d + 1))) (ef_u pk d (j : Int)) (eo_ch (fun j b => eo_tr (eo_V E p Se bn gn) T N bn (r + 1) (ef_u Lo j (T (N - (r + 1)))) (eo_rm m j) (ef_u pk (N - (r + 1 + 1)) (j : Int)) b) m j b) (ec_wr (ec_wr y 136 (d : Int) (j : Int)) 132 (j : Int) (T (d + 1))) := by
                refine ⟨fun i hi => ?_, fun i hi => ?_, ?_, ?_⟩
                · rw [ef_a_wr (n := 8) Wa rfl (by omega) (by omega), ec_tw_id (a := T (d + 1)) (by omega) (by omega), ef_a_wr_o (by decide)]
                  unfold ef_u
                  rw [Int.toNat_natCast]
                  split
                  · rfl
                  · exact hDy.1 i hi
                · rw [ef_a_wr_o (by decide), ef_a_wr (n := 6) hW rfl (by omega) (by omega), tj]
                  unfold ef_u
                  rw [Int.toNat_natCast]
                  split
                  · rfl
                  · exact hDy.2.1 i (by omega)
                · rw [fA 3]
                  exact hDy.2.2.1
                · rw [ef_s_a SA (by decide)]
                  exact hDy.2.2.2
              obtain ⟨w5', e5, W5, S5, f5, D5⟩ := ihr n (d + 1) (eo_rm m j) _ _ _ _ _ (by omega) (eo_rm_lt h8 hm) (by omega) (eo_St_s hSt (ef_s_mono SA (by decide)) (fun f _ => fA f)) Dy5 (fun i hi hb => by
                rw [eo_rm_bit (by omega), Bool.and_eq_true] at hb
                have hne : i ≠ j := fun e => by
                  rw [decide_eq_true e] at hb
                  exact Bool.noConfusion hb.2
                unfold ef_u
                rw [if_neg hne]
                exact hl i hi hb.1) b1
              injection e5 with e5 i5
              subst i5
              have f5' : ∀ f, f ≠ 3 → ec_fd w5 126 f = ec_fd y 126 f := fun f hf => (f5 f hf).trans (fA f)
              have b3 := (eg107_126_136_0 (b2 e5 W5)).2
              rw [tj, f5' 15 (by decide), f5' 14 (by decide), f5' 16 (by decide), hSt.1.2.2.2.1, hSt.1.2.2.1, hSt.1.2.2.2.2, eTN] at b3
              have S6 : ef_s eq_S6 y (ec_wr w5 132 (j : Int) (T N)) := ef_s_trans (ef_s_mono SA (by decide)) (ef_s_trans S5 (ef_s_wr (by decide)))
              have f6 : ∀ f, f ≠ 3 → ec_fd (ec_wr w5 132 (j : Int) (T N)) 126 f = ec_fd y 126 f := fun f hf => (ec_fd_wr_o (by decide)).trans (f5' f hf)
              have Dy6 : eo_Dy bn N d Lo pk (eo_ch (fun j b => eo_tr (eo_V E p Se bn gn) T N bn (r + 1) (ef_u Lo j (T (N - (r + 1)))) (eo_rm m j) (ef_u pk (N - (r + 1 + 1)) (j : Int)) b) m (j + 1) b) (ec_wr w5 132 (j : Int) (T N)) := by
                rw [es, eN1, eN2]
                rw [eN1, eN2] at D5
                refine ⟨fun i hi => ?_, fun i hi => ?_, ?_, ?_⟩
                · rw [ef_a_wr (n := 8) W5 rfl (by omega) (by omega), ec_tw_id (a := T N) (by omega) (by omega)]
                  unfold ef_u
                  rw [Int.toNat_natCast]
                  by_cases c : i = j
                  · rw [if_pos c, c, hl j (by omega) q2]
                  · rw [if_neg c, D5.1 i hi]
                    unfold ef_u
                    rw [if_neg c]
                · rw [ef_a_wr_o (by decide), D5.2.1 i (by omega)]
                  unfold ef_u
                  rw [if_neg (by omega)]
                · rw [ec_fd_wr_o (by decide)]
                  exact D5.2.2.1
                · rw [ef_a_wr_o (by decide)]
                  exact D5.2.2.2
              obtain ⟨w', hz, hW', S', f', D'⟩ := ihk n (j + 1) _ z (by omega) (ec_W_wr W5) (eo_St_s hSt S6 f6) Dy6 b3
              exact ⟨w', hz, hW', ef_s_trans S6 S', fun f hf => (f' f hf).trans (f6 f hf), D'⟩
            · rw [if_neg q2] at es
              exact ihk n (j + 1) y z (by omega) hW hSt (by rw [es]; exact hDy) (l2 (by omega) (by omega) (by rw [if_neg q2]; decide)).2
      obtain ⟨w', hz, hW', S', f', D'⟩ := lp bn n 0 w2 z (by omega) W2 St2 Dy2 h66
      exact ⟨w', hz, hW', ef_s_trans (ef_s_mono S2 (by decide)) S', fun f hf => (f' f hf).trans (ef_s_f S2 (by decide) f), D'⟩
end EO2

end
