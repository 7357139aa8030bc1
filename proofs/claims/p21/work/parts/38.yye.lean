noncomputable section
/-! THE ORDER: the reference, order by order -/
theorem ec_rm_nn {a b : Nat} (ha : a < 2147483648) (hb : 0 < b) (hb2 : b < 2147483648) : ec_rm (a : Int) (b : Int) = ((a % b : Nat) : Int) := by
  have hd : ec_dv (a : Int) (b : Int) = ((a / b : Nat) : Int) := ec_dv_nn (by omega) (by omega) (by omega) (by omega)
  have e1 : Int32.ofInt (a : Int) / Int32.ofInt (b : Int) = Int32.ofInt ((a / b : Nat) : Int) := by
    rw [← hd]
    exact (Int32.ofInt_toInt _).symm
  show (Int32.ofInt (a : Int) - Int32.ofInt (a : Int) / Int32.ofInt (b : Int) * Int32.ofInt (b : Int)).toInt = _
  rw [e1, ← Int32.ofInt_mul, ← Int32.ofInt_sub]
  have e2 : ((a : Int) - ((a / b : Nat) : Int) * (b : Int)) = ((a % b : Nat) : Int) := by
    have h := Nat.div_add_mod a b
    have h2 : ((b * (a / b) + a % b : Nat) : Int) = (a : Int) := by rw [h]
    rw [Int.natCast_add, Int.natCast_mul] at h2
    rw [Int.mul_comm]
    omega
  rw [e2]
  exact ec_twn (Nat.lt_of_le_of_lt (Nat.mod_le _ _) ha)
theorem ec_dv_N {a b : Nat} (ha : a < 2147483648) (hb : 0 < b) (hb2 : b < 2147483648) : ec_dv (a : Int) (b : Int) = ((a / b : Nat) : Int) := ec_dv_nn (by omega) (by omega) (by omega) (by omega)
theorem eo_f_6 {r : Nat} (h : r ≤ 6) : eo_f r ≤ 720 := by
  have q : r = 0 ∨ r = 1 ∨ r = 2 ∨ r = 3 ∨ r = 4 ∨ r = 5 ∨ r = 6 := by omega
  rcases q with rfl | rfl | rfl | rfl | rfl | rfl | rfl <;> decide
/-- not used below -/
def eo_un (u : Nat) : Nat → Nat
  | 0 => 0
  | a + 1 => eo_un u a + (if Nat.testBit u a = true then 0 else 1)
theorem eo_un_lt {u a : Nat} (h : ¬ Nat.testBit u a = true) : ∀ k, eo_un u a < eo_un u (a + 1 + k)
  | 0 => by
    show eo_un u a < eo_un u a + (if Nat.testBit u a = true then 0 else 1)
    rw [if_neg h]
    omega
  | k + 1 => by
    have ih := eo_un_lt h k
    show eo_un u a < eo_un u (a + 1 + k) + (if Nat.testBit u (a + 1 + k) = true then 0 else 1)
    omega
theorem eo_un_le {u a : Nat} : ∀ k, eo_un u a ≤ eo_un u (a + k)
  | 0 => Nat.le_refl _
  | k + 1 => by
    have ih := eo_un_le (u := u) (a := a) k
    show eo_un u a ≤ eo_un u (a + k) + (if Nat.testBit u (a + k) = true then 0 else 1)
    omega
theorem eo_cn_gap {m x : Nat} : ∀ k, (∀ j, x ≤ j → j < x + k → Nat.testBit m j = false) → eo_cn m (x + k) = eo_cn m x
  | 0, _ => rfl
  | k + 1, h => by
    show eo_cn m (x + k) + (if Nat.testBit m (x + k) = true then 1 else 0) = eo_cn m x
    rw [eo_cn_gap k (fun j h1 h2 => h j h1 (by omega)), h (x + k) (by omega) (by omega)]
    rfl
/-- boats by their numbers in a list -/
def eo_ls (N bn : Nat) (ls : Nat → Nat) (u m : Nat) : Prop := (∀ a, a < N → Nat.testBit m (ls a) = !(Nat.testBit u a)) ∧ ∀ j, Nat.testBit m j = true → ∃ a, a < N ∧ ls a = j
theorem eo_ls_cn {N bn u m : Nat} {ls : Nat → Nat} (hs : ∀ a a', a < a' → a' < N → ls a < ls a') (h : eo_ls N bn ls u m) : ∀ a, a < N → eo_cn m (ls a) = eo_un u a := by
  intro a
  induction a with
  | zero =>
    intro h0
    have g := eo_cn_gap (m := m) (x := 0) (ls 0) (fun j _ hj => et_bf (fun t => by
      obtain ⟨a', h1, h2⟩ := h.2 j t
      by_cases q : a' = 0
      · rw [q] at h2
        omega
      · have := hs 0 a' (by omega) h1
        omega))
    rw [Nat.zero_add] at g
    exact g
  | succ a ih =>
    intro h0
    have ih := ih (by omega)
    have hlt := hs a (a + 1) (by omega) h0
    have g := eo_cn_gap (m := m) (x := ls a + 1) (ls (a + 1) - (ls a + 1)) (fun j h1 h2 => et_bf (fun t => by
      obtain ⟨a', q1, q2⟩ := h.2 j t
      rcases Nat.lt_trichotomy a' a with q | q | q
      · have := hs a' a q (by omega)
        omega
      · rw [q] at q2
        omega
      · by_cases q3 : a' = a + 1
        · rw [q3] at q2
          omega
        · have := hs (a + 1) a' (by omega) q1
          omega))
    have e : ls a + 1 + (ls (a + 1) - (ls a + 1)) = ls (a + 1) := by omega
    rw [e] at g
    have e2 : eo_cn m (ls a + 1) = eo_cn m (ls a) + (if Nat.testBit m (ls a) = true then 1 else 0) := rfl
    have e3 : eo_un u (a + 1) = eo_un u a + (if Nat.testBit u a = true then 0 else 1) := rfl
    rw [g, e2, e3, ih, h.1 a (by omega)]
    cases Nat.testBit u a <;> rfl
theorem eo_ex {m s : Nat} : ∀ c, s < eo_cn m c → ∃ j, Nat.testBit m j = true ∧ j < c ∧ eo_cn m j = s := by
  intro c
  induction c with
  | zero => intro q; exact absurd q (Nat.not_lt_zero _)
  | succ c ihc =>
    intro q
    have q2 : s < eo_cn m c + (if Nat.testBit m c = true then 1 else 0) := q
    by_cases q3 : s < eo_cn m c
    · obtain ⟨j, a, b, d⟩ := ihc q3
      exact ⟨j, a, by omega, d⟩
    · by_cases q4 : Nat.testBit m c = true
      · rw [if_pos q4] at q2
        exact ⟨c, q4, by omega, by omega⟩
      · rw [if_neg q4] at q2
        omega
section EO3
variable {N bn : Nat} {T : Nat → Int} {ls : Nat → Nat}
theorem ew_fo59 {u a0 s0 : Nat} {x1 x2 x3 x4 x6 : Int} (hu : u < 64) (ha : a0 < 6) (hq : ¬ Nat.testBit u a0 = true) (hs : eo_un u a0 = s0) : ∀ (k n a : Nat) (w : px_W) (r : Option Value × px_W), a + k = a0 → ec_E hb_X n 225 59 [(0, .inr (.inl 215)), (1, .inl x1), (2, .inl x2), (3, .inl x3), (4, .inl x4), (5, .inl (u : Int)), (6, .inl x6), (7, .inl ((s0 : Int) - (eo_un u a : Int))), (8, .inl (a : Int))] [] w r → ec_E hb_X n 225 102 [(0, .inr (.inl 215)), (1, .inl x1), (2, .inl x2), (3, .inl x3), (4, .inl x4), (5, .inl (u : Int)), (6, .inl x6), (7, .inl ((s0 : Int) - (eo_un u a0 : Int))), (8, .inl (a0 : Int))] [] w r := by
  have t0 : ec_tw 0 = 0 := rfl
  have t1 : ec_tw 1 = 1 := rfl
  have ub : ∀ a, eo_un u a ≤ a := by
    intro a
    induction a with
    | zero => exact Nat.le_refl _
    | succ a ih =>
      show eo_un u a + (if Nat.testBit u a = true then 0 else 1) ≤ a + 1
      split <;> omega
  have u0 := ub a0
  intro k
  induction k with
  | zero =>
    intro n a w r hk h
    have ea : a = a0 := by omega
    subst ea
    have j := eg225_151_59_1 h
    rw [ec_bitT (by omega) (by omega), t1, t0, ec_tw_id (by omega) (by omega)] at j
    exact (j (by rw [if_neg hq]; decide) (by omega)).2
  | succ k ih =>
    intro n a w r hk h
    have e : eo_un u (a + 1) = eo_un u a + (if Nat.testBit u a = true then 0 else 1) := rfl
    have ua := ub a
    by_cases q : Nat.testBit u a = true
    · rw [if_pos q] at e
      have j := eg225_151_59_0 h
      rw [ec_bitT (by omega) (by omega), t1] at j
      have h75 := (j (by rw [if_pos q])).2
      have j2 := eg225_151_75_1 h75
      rw [ec_bitT (by omega) (by omega), t1] at j2
      have h3 := (eg225_151_93_0 (j2 (by rw [if_pos q])).2).2
      have e2 : (s0 : Int) - (eo_un u a : Int) - 0 = (s0 : Int) - (eo_un u (a + 1) : Int) := by
        rw [e]
        omega
      rw [e2] at h3
      exact ih n (a + 1) w r (by omega) h3
    · rw [if_neg q] at e
      have hl := eo_un_lt q (a0 - (a + 1))
      have ee : a + 1 + (a0 - (a + 1)) = a0 := by omega
      rw [ee] at hl
      have j := eg225_151_59_2 h
      rw [ec_bitT (by omega) (by omega), t1, t0, ec_tw_id (by omega) (by omega)] at j
      have h75 := (j (by rw [if_neg q]; decide) (by omega)).2
      have j2 := eg225_151_75_0 h75
      rw [ec_bitT (by omega) (by omega), t1] at j2
      have h3 := (eg225_151_93_0 (j2 (by rw [if_neg q]; decide)).2).2
      have e2 : (s0 : Int) - (eo_un u a : Int) - 1 = (s0 : Int) - (eo_un u (a + 1) : Int) := by
        rw [e]
        omega
      rw [e2] at h3
      exact ih n (a + 1) w r (by omega) h3
theorem ew_fo31 {x1 : Int} (hN : N ≤ 6) (h8 : bn ≤ 8) (hb : ∀ a, a < N → ls a < bn) (hs : ∀ a a', a < a' → a' < N → ls a < ls a') : ∀ (r n i u m kk : Nat) (Lo pk : Nat → Int) (w : px_W) (z : Option Value × px_W), i + r = N → u < 2 ^ N → m < 2 ^ bn → eo_ls N bn ls u m → eo_cn m bn = r → kk < eo_f r → (∀ a, a < N → ef_a w 165 a = (ls a : Int)) → (∀ q, q < i → ef_a w 166 q = pk q) → ec_W hb_A w → ec_E hb_X n 225 31 [(0, .inr (.inl 215)), (1, .inl x1), (2, .inl (N : Int)), (3, .inl (eo_f r : Int)), (4, .inl (kk : Int)), (5, .inl (u : Int)), (6, .inl (i : Int))] [] w z → ∃ w' : px_W, z = (none, w') ∧ ec_W hb_A w' ∧ ef_s [166] w w' ∧ ∀ q, q < N → ef_a w' 166 q = (eo_LP T N bn r Lo pk m kk).2 q := by
  have p8 := eq_pw h8
  intro r
  induction r with
  | zero =>
    intro n i u m kk Lo pk w z hi hu hm hl hc hk e165 e166 hW h
    have ei : i = N := by omega
    obtain ⟨_, hz, _⟩ := eg225_151_31_0 h (by rw [ei]; exact Int.le_refl _)
    exact ⟨w, hz, hW, ef_s_refl, fun q hq => e166 q (by omega)⟩
  | succ r ih =>
    intro n i u m kk Lo pk w z hi hu hm hl hc hk e165 e166 hW h
    have f6 := eo_f_6 (r := r) (by omega)
    have f6' := eo_f_6 (r := r + 1) (by omega)
    have fp := eo_f_pos r
    have ti : ec_tw (i : Int) = i := ec_twn (by omega)
    have pN : 2 ^ N ≤ 64 := Nat.pow_le_pow_right (n := 2) (by decide) (i := N) (j := 6) hN
    have j := eg225_151_31_1 h
    have eNi : (N : Int) - (i : Int) = ((r + 1 : Nat) : Int) := by omega
    have efr : eo_f (r + 1) / (r + 1) = eo_f r := by
      show (r + 1) * eo_f r / (r + 1) = eo_f r
      exact Nat.mul_div_cancel_left _ (Nat.succ_pos r)
    rw [ti, ec_twn (n := N) (by omega), eNi, ec_dv_N (by omega) (by omega) (by omega), efr, ec_dv_N (by omega) fp (by omega), ec_rm_nn (by omega) fp (by omega)] at j
    have h59 := (j (by omega)).2
    -- which it is
    have hk2 : kk / eo_f r < eo_cn m bn := by
      rw [hc]
      exact (Nat.div_lt_iff_lt_mul fp).mpr hk
    obtain ⟨jb, j1, j2, j3⟩ := eo_ex bn hk2
    obtain ⟨a0, a1, a2⟩ := hl.2 jb j1
    have hq : ¬ Nat.testBit u a0 = true := by
      have := hl.1 a0 a1
      rw [a2, j1] at this
      intro t
      rw [t] at this
      cases this
    have hun : eo_un u a0 = kk / eo_f r := by
      rw [← eo_ls_cn hs hl a0 a1, a2]
      exact j3
    have z0 : ((kk / eo_f r : Nat) : Int) = ((kk / eo_f r : Nat) : Int) - ((eo_un u 0 : Nat) : Int) := by
      show _ = ((kk / eo_f r : Nat) : Int) - ((0 : Nat) : Int)
      omega
    rw [z0] at h59
    have h102 := ew_fo59 (u := u) (a0 := a0) (s0 := kk / eo_f r) (by omega) (by omega) hq hun a0 n 0 w z (by omega) h59
    have h31 := (eg225_151_102_0 h102).2
    rw [ti, ec_twn (n := a0) (by omega), ef_rd w 165 a0, e165 a0 a1, ec_shl1 a0 (by omega), ec_orN (by omega) (by have : 2 ^ a0 ≤ 2 ^ 6 := Nat.pow_le_pow_right (by decide) (by omega); have : (2 : Nat) ^ 6 = 64 := rfl; omega)] at h31
    have e3 : eo_nt m (kk / eo_f r) bn = jb := eo_nt_eq j1 j3 bn j2
    have hcn := eo_rm_cn (by omega) j1 bn
    rw [if_pos j2] at hcn
    have bl := hb a0 a1
    have hl' : eo_ls N bn ls (u ||| 2 ^ a0) (eo_rm m jb) := by
      refine ⟨fun a ha => ?_, fun j hj => ?_⟩
      · rw [eo_rm_bit (by omega), hl.1 a ha, Nat.testBit_or, Nat.testBit_two_pow]
        by_cases c : a = a0
        · rw [decide_eq_true (by rw [c]; exact a2), decide_eq_true c.symm]
          cases Nat.testBit u a <;> rfl
        · have ne : ls a ≠ jb := by
            rw [← a2]
            rcases Nat.lt_trichotomy a a0 with q | q | q
            · have := hs a a0 q a1
              omega
            · exact absurd q c
            · have := hs a0 a q ha
              omega
          rw [decide_eq_false ne, decide_eq_false (fun e => c e.symm)]
          cases Nat.testBit u a <;> rfl
      · rw [eo_rm_bit (by omega), Bool.and_eq_true] at hj
        exact hl.2 j hj.1
    obtain ⟨w', hz, hW', s', q'⟩ := ih n (i + 1) (u ||| 2 ^ a0) (eo_rm m jb) (kk % eo_f r) (ef_u Lo jb (T (N - r))) (ef_u pk (N - (r + 1)) (jb : Int)) _ z (by omega) (Nat.or_lt_two_pow hu (Nat.pow_lt_pow_right (by decide) a1)) (eo_rm_lt h8 hm) hl' (by omega) (Nat.mod_lt _ fp) (fun a ha => by rw [ef_a_wr_o (by decide)]; exact e165 a ha) (fun q hq' => by
      rw [ef_a_wr (n := 6) hW rfl (by omega) (by omega), ec_twn (n := ls a0) (by omega)]
      unfold ef_u
      rw [Int.toNat_natCast]
      have eNr : N - (r + 1) = i := by omega
      rw [eNr]
      by_cases c : q = i
      · rw [if_pos c, if_pos c, a2]
      · rw [if_neg c, if_neg c]
        exact e166 q (by omega)) (ec_W_wr hW) h31
    refine ⟨w', hz, hW', ef_s_trans (ef_s_wr List.mem_cons_self) s', fun q hq' => ?_⟩
    rw [q' q hq']
    show _ = (eo_LP T N bn r (ef_u Lo (eo_nt m (kk / eo_f r) bn) (T (N - r))) (ef_u pk (N - (r + 1)) (eo_nt m (kk / eo_f r) bn : Int)) (eo_rm m (eo_nt m (kk / eo_f r) bn)) (kk % eo_f r)).2 q
    rw [e3]
theorem ew_fo5 {x1 : Int} (hN : N ≤ 6) (h1 : 1 ≤ N) : ∀ (k n c : Nat) (w : px_W) (z : Option Value × px_W), c + k = N → 1 ≤ c → ec_E hb_X n 225 5 [(0, .inr (.inl 215)), (1, .inl x1), (2, .inl (N : Int)), (3, .inl (eo_f c : Int)), (4, .inl ((c + 1 : Nat) : Int))] [] w z → ec_E hb_X n 225 31 [(0, .inr (.inl 215)), (1, .inl x1), (2, .inl (N : Int)), (3, .inl (eo_f N : Int)), (4, .inl x1), (5, .inl 0), (6, .inl 0)] [] w z := by
  intro k
  induction k with
  | zero =>
    intro n c w z hc h1' h
    have ec : c = N := by omega
    subst ec
    have j := eg225_151_5_0 h
    rw [ec_twn (n := c) (by omega), ec_twn (n := c + 1) (by omega)] at j
    exact (j (by omega)).2
  | succ k ih =>
    intro n c w z hc h1' h
    have j := eg225_151_5_1 h
    rw [ec_twn (n := N) (by omega), ec_twn (n := c + 1) (by omega)] at j
    have h2 := (j (by omega)).2
    have e : (eo_f c : Int) * ((c + 1 : Nat) : Int) = (eo_f (c + 1) : Int) := by
      show _ = (((c + 1) * eo_f c : Nat) : Int)
      rw [Int.natCast_mul, Int.mul_comm]
    rw [e] at h2
    exact ih n (c + 1) w z (by omega) (by omega) h2
theorem ew_foB {n m kk : Nat} {Lo pk : Nat → Int} {w : px_W} {z : Option Value × px_W} (hN : N ≤ 6) (h1 : 1 ≤ N) (h8 : bn ≤ 8) (hb : ∀ a, a < N → ls a < bn) (hs : ∀ a a', a < a' → a' < N → ls a < ls a') (hm : m < 2 ^ bn) (hl : eo_ls N bn ls 0 m) (hc : eo_cn m bn = N) (hk : kk < eo_f N) (e165 : ∀ a, a < N → ef_a w 165 a = (ls a : Int)) (h : ec_E hb_X n 225 0 [(0, .inr (.inl 215)), (1, .inl (kk : Int)), (2, .inl (N : Int))] [] w z) : ∃ w' : px_W, z = (none, w') ∧ ec_W hb_A w' ∧ ef_s [166] w w' ∧ ∀ q, q < N → ef_a w' 166 q = (eo_LP T N bn N Lo pk m kk).2 q := by
  have a1 := ew_fo5 hN h1 (N - 1) n 1 w z (by omega) (Nat.le_refl _) (eg225_151_0_0 h).2
  exact ew_fo31 hN h8 hb hs N n 0 0 m kk Lo pk w z (by omega) (Nat.two_pow_pos N) hm hl hc hk e165 (fun q hq => absurd hq (Nat.not_lt_zero _)) h.1 a1
/-! what the k-th order is, in general -/
theorem eo_LP_pk : ∀ (r : Nat) (Lo pk : Nat → Int) (m k i : Nat), r ≤ N → i < N - r → (eo_LP T N bn r Lo pk m k).2 i = pk i
  | 0, _, _, _, _, _, _, _ => rfl
  | r + 1, Lo, pk, m, k, i, hr, hi => by
    show (eo_LP T N bn r (ef_u Lo (eo_nt m (k / eo_f r) bn) (T (N - r))) (ef_u pk (N - (r + 1)) (eo_nt m (k / eo_f r) bn : Int)) (eo_rm m (eo_nt m (k / eo_f r) bn)) (k % eo_f r)).2 i = pk i
    rw [eo_LP_pk r _ _ _ _ i (by omega) (by omega)]
    unfold ef_u
    rw [if_neg (by omega)]
theorem eo_LP_in : ∀ (r : Nat) (Lo Lo2 pk pk2 : Nat → Int) (m k i : Nat), r ≤ N → i < N → (i < N - r → pk i = pk2 i) → (eo_LP T N bn r Lo pk m k).2 i = (eo_LP T N bn r Lo2 pk2 m k).2 i
  | 0, _, _, _, _, _, _, i, _, hi, h => h (by omega)
  | r + 1, Lo, Lo2, pk, pk2, m, k, i, hr, hi, h => by
    show (eo_LP T N bn r (ef_u Lo (eo_nt m (k / eo_f r) bn) (T (N - r))) (ef_u pk (N - (r + 1)) (eo_nt m (k / eo_f r) bn : Int)) (eo_rm m (eo_nt m (k / eo_f r) bn)) (k % eo_f r)).2 i = (eo_LP T N bn r (ef_u Lo2 (eo_nt m (k / eo_f r) bn) (T (N - r))) (ef_u pk2 (N - (r + 1)) (eo_nt m (k / eo_f r) bn : Int)) (eo_rm m (eo_nt m (k / eo_f r) bn)) (k % eo_f r)).2 i
    refine eo_LP_in r _ _ _ _ _ _ i (by omega) hi (fun hi2 => ?_)
    unfold ef_u
    split
    · rfl
    · exact h (by omega)
/-- boats are lowered one behind the other -/
def eo_rw (P : Nat → Int) (T : Nat → Int) : Nat → Nat → (Nat → Int) → Nat → Int
  | 0, _, Lo => Lo
  | c + 1, i, Lo => eo_rw P T c (i + 1) (ef_u Lo (P i).toNat (T (i + 1)))
theorem eo_LP_rw : ∀ (r : Nat) (Lo pk : Nat → Int) (m k : Nat), r ≤ N → (eo_LP T N bn r Lo pk m k).1 = eo_rw (eo_LP T N bn r Lo pk m k).2 T r (N - r) Lo
  | 0, _, _, _, _, _ => rfl
  | r + 1, Lo, pk, m, k, hr => by
    have ih := eo_LP_rw r (ef_u Lo (eo_nt m (k / eo_f r) bn) (T (N - r))) (ef_u pk (N - (r + 1)) (eo_nt m (k / eo_f r) bn : Int)) (eo_rm m (eo_nt m (k / eo_f r) bn)) (k % eo_f r) (by omega)
    have hp := eo_LP_pk (T := T) (N := N) (bn := bn) r (ef_u Lo (eo_nt m (k / eo_f r) bn) (T (N - r))) (ef_u pk (N - (r + 1)) (eo_nt m (k / eo_f r) bn : Int)) (eo_rm m (eo_nt m (k / eo_f r) bn)) (k % eo_f r) (N - (r + 1)) (by omega) (by omega)
    have e1 : N - (r + 1) + 1 = N - r := by omega
    show (eo_LP T N bn r (ef_u Lo (eo_nt m (k / eo_f r) bn) (T (N - r))) (ef_u pk (N - (r + 1)) (eo_nt m (k / eo_f r) bn : Int)) (eo_rm m (eo_nt m (k / eo_f r) bn)) (k % eo_f r)).1 = eo_rw (eo_LP T N bn r (ef_u Lo (eo_nt m (k / eo_f r) bn) (T (N - r))) (ef_u pk (N - (r + 1)) (eo_nt m (k / eo_f r) bn : Int)) (eo_rm m (eo_nt m (k / eo_f r) bn)) (k % eo_f r)).2 T r (N - (r + 1) + 1) (ef_u Lo ((eo_LP T N bn r (ef_u Lo (eo_nt m (k / eo_f r) bn) (T (N - r))) (ef_u pk (N - (r + 1)) (eo_nt m (k / eo_f r) bn : Int)) (eo_rm m (eo_nt m (k / eo_f r) bn)) (k % eo_f r)).2 (N - (r + 1))).toNat (T (N - (r + 1) + 1)))
    rw [hp, e1]
    have e2 : (ef_u pk (N - (r + 1)) (eo_nt m (k / eo_f r) bn : Int) (N - (r + 1))).toNat = eo_nt m (k / eo_f r) bn := by
      unfold ef_u
      rw [if_pos rfl]
      rfl
    rw [e2]
    exact ih
/-- two folds that began otherwise -/
def eo_sim (N : Nat) (b b' : eo_B) : Prop := b.1 = b'.1 ∧ (0 ≤ b.1 → ∀ i, i < N → b.2 i = b'.2 i)
theorem eo_fo_sim {V : (Nat → Int) → Int} {Lo Lo2 pk pk2 : Nat → Int} {m : Nat} (hm : m < 256) (hc : eo_cn m bn = N) (hV0 : ∀ L, 0 ≤ V L) (hV : ∀ L L' : Nat → Int, (∀ j, j < bn → L j = L' j) → V L = V L') (hLo : ∀ j, j < bn → (Nat.testBit m j = true ∨ Lo j = Lo2 j)) : ∀ (c : Nat) (b b' : eo_B), c ≤ eo_f N → eo_sim N b b' → eo_sim N (eo_fo (eo_F V T N bn N Lo pk m) 0 c b) (eo_fo (eo_F V T N bn N Lo2 pk2 m) 0 c b')
  | 0, b, b', _, h => h
  | c + 1, b, b', hcf, h => by
    have ih := eo_fo_sim (pk := pk) (pk2 := pk2) hm hc hV0 hV hLo c b b' (by omega) h
    show eo_sim N (eo_up (eo_fo (eo_F V T N bn N Lo pk m) 0 c b) (V (eo_LP T N bn N Lo pk m (0 + c)).1) (eo_LP T N bn N Lo pk m (0 + c)).2) (eo_up (eo_fo (eo_F V T N bn N Lo2 pk2 m) 0 c b') (V (eo_LP T N bn N Lo2 pk2 m (0 + c)).1) (eo_LP T N bn N Lo2 pk2 m (0 + c)).2)
    have e2 : ∀ i, i < N → (eo_LP T N bn N Lo pk m (0 + c)).2 i = (eo_LP T N bn N Lo2 pk2 m (0 + c)).2 i := fun i hi => eo_LP_in N _ _ _ _ _ _ i (Nat.le_refl _) hi (fun q => by omega)
    have e3 : ∀ pk', (eo_LP T N bn N Lo2 pk' m (0 + c)).1 = (eo_LP T N bn N Lo2 pk2 m (0 + c)).1 → True := fun _ _ => trivial
    have e1 : V (eo_LP T N bn N Lo pk m (0 + c)).1 = V (eo_LP T N bn N Lo2 pk2 m (0 + c)).1 := by
      refine hV _ _ (fun j hj => ?_)
      have q1 := (eo_LP_cg (T := T) (N := N) N Lo Lo2 pk m (0 + c) j hm hj hc (by omega) (hLo j hj)).1
      rw [q1, eo_LP_rw N Lo2 pk m (0 + c) (Nat.le_refl _), eo_LP_rw N Lo2 pk2 m (0 + c) (Nat.le_refl _)]
      have gen : ∀ (r i : Nat) (L : Nat → Int) (P P' : Nat → Int), (∀ q, q < i + r → P q = P' q) → eo_rw P T r i L = eo_rw P' T r i L := by
        intro r
        induction r with
        | zero => intro i L P P' _; rfl
        | succ r ihr =>
          intro i L P P' hP
          show eo_rw P T r (i + 1) (ef_u L (P i).toNat (T (i + 1))) = eo_rw P' T r (i + 1) (ef_u L (P' i).toNat (T (i + 1)))
          rw [hP i (by omega)]
          exact ihr (i + 1) _ P P' (fun q hq => hP q (by omega))
      rw [gen N (N - N) Lo2 _ _ (fun q hq => eo_LP_in N Lo2 Lo2 pk pk2 m (0 + c) q (Nat.le_refl _) (by omega) (fun z => by omega))]
    have v0 := hV0 (eo_LP T N bn N Lo2 pk2 m (0 + c)).1
    rw [e1]
    unfold eo_up
    rw [ih.1]
    by_cases q : (eo_fo (eo_F V T N bn N Lo2 pk2 m) 0 c b').1 < V (eo_LP T N bn N Lo2 pk2 m (0 + c)).1
    · rw [if_pos q, if_pos q]
      exact ⟨rfl, fun _ => e2⟩
    · rw [if_neg q, if_neg q]
      exact ih
theorem eo_fo_0 {V : (Nat → Int) → Int} {Lo pk : Nat → Int} {m : Nat} (hV0 : ∀ L, 0 ≤ V L) : ∀ (c : Nat) (b : eo_B), 0 < c → 0 ≤ (eo_fo (eo_F V T N bn N Lo pk m) 0 c b).1
  | 0, _, h => absurd h (Nat.lt_irrefl _)
  | c + 1, b, _ => by
    have v0 := hV0 (eo_LP T N bn N Lo pk m (0 + c)).1
    show 0 ≤ (eo_up (eo_fo (eo_F V T N bn N Lo pk m) 0 c b) (V (eo_LP T N bn N Lo pk m (0 + c)).1) (eo_LP T N bn N Lo pk m (0 + c)).2).1
    unfold eo_up
    split
    · exact v0
    · omega
end EO3

end
