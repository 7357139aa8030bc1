noncomputable section
/-! THE ORDER: all orders of some boats, as a tree and one by one -/
def eo_f : Nat → Nat
  | 0 => 1
  | r + 1 => (r + 1) * eo_f r
theorem eo_f_pos : ∀ r, 0 < eo_f r
  | 0 => Nat.zero_lt_one
  | r + 1 => Nat.mul_pos (Nat.succ_pos r) (eo_f_pos r)
/-- how many of them are below -/
def eo_cn (m : Nat) : Nat → Nat
  | 0 => 0
  | j + 1 => eo_cn m j + (if Nat.testBit m j = true then 1 else 0)
theorem eo_cn_mono {m : Nat} : ∀ (k j : Nat), eo_cn m j ≤ eo_cn m (j + k)
  | 0, _ => Nat.le_refl _
  | k + 1, j => by
    have h := eo_cn_mono (m := m) k j
    show eo_cn m j ≤ eo_cn m (j + k) + (if Nat.testBit m (j + k) = true then 1 else 0)
    omega
theorem eo_cn_lt {m j k : Nat} (hj : Nat.testBit m j = true) (h : j < k) : eo_cn m j < eo_cn m k := by
  have h1 := eo_cn_mono (m := m) (k - (j + 1)) (j + 1)
  have e : j + 1 + (k - (j + 1)) = k := by omega
  rw [e] at h1
  have h2 : eo_cn m (j + 1) = eo_cn m j + (if Nat.testBit m j = true then 1 else 0) := rfl
  rw [if_pos hj] at h2
  omega
theorem eo_cn_inj {m i j : Nat} (hi : Nat.testBit m i = true) (hj : Nat.testBit m j = true) (h : eo_cn m i = eo_cn m j) : i = j := by
  rcases Nat.lt_trichotomy i j with q | q | q
  · have := eo_cn_lt hi q
    omega
  · exact q
  · have := eo_cn_lt hj q
    omega
/-- the s-th of them -/
def eo_nt (m s : Nat) : Nat → Nat
  | 0 => 0
  | j + 1 => if Nat.testBit m j = true ∧ eo_cn m j = s then j else eo_nt m s j
theorem eo_nt_eq {m s j : Nat} (hj : Nat.testBit m j = true) (hs : eo_cn m j = s) : ∀ k, j < k → eo_nt m s k = j
  | 0, h => absurd h (Nat.not_lt_zero _)
  | k + 1, h => by
    show (if Nat.testBit m k = true ∧ eo_cn m k = s then k else eo_nt m s k) = j
    by_cases q : Nat.testBit m k = true ∧ eo_cn m k = s
    · rw [if_pos q]
      exact eo_cn_inj q.1 hj (q.2.trans hs.symm)
    · rw [if_neg q]
      refine eo_nt_eq hj hs k ?_
      by_cases e : j = k
      · rw [e] at hj hs
        exact absurd ⟨hj, hs⟩ q
      · omega
def eo_rm (m j : Nat) : Nat := eq_mk (fun i => Nat.testBit m i && !(decide (i = j))) 8
theorem eo_rm_bit {m j i : Nat} (hm : m < 256) : Nat.testBit (eo_rm m j) i = (Nat.testBit m i && !(decide (i = j))) := by
  by_cases h : i < 8
  · exact eq_mk_bit 8 i h
  · have p8 : (2 : Nat) ^ 8 ≤ 2 ^ i := Nat.pow_le_pow_right (by decide) (by omega)
    have e8 : (2 : Nat) ^ 8 = 256 := rfl
    have h1 : eo_rm m j < 2 ^ 8 := eq_mk_lt 8
    rw [Nat.testBit_lt_two_pow (by omega : eo_rm m j < 2 ^ i), Nat.testBit_lt_two_pow (by omega : m < 2 ^ i)]
    rfl
theorem eo_rm_lt {m j bn : Nat} (hb : bn ≤ 8) (hm : m < 2 ^ bn) : eo_rm m j < 2 ^ bn := by
  have p8 := eq_pw hb
  refine Nat.lt_pow_two_of_testBit _ (fun i hi => ?_)
  have p2 : 2 ^ bn ≤ 2 ^ i := Nat.pow_le_pow_right (by decide) hi
  rw [eo_rm_bit (by omega), Nat.testBit_lt_two_pow (by omega : m < 2 ^ i)]
  rfl
theorem eo_rm_cn {m j : Nat} (hm : m < 256) (hj : Nat.testBit m j = true) : ∀ k, eo_cn (eo_rm m j) k + (if j < k then 1 else 0) = eo_cn m k
  | 0 => rfl
  | k + 1 => by
    have ih := eo_rm_cn hm hj k
    show (eo_cn (eo_rm m j) k + (if Nat.testBit (eo_rm m j) k = true then 1 else 0)) + (if j < k + 1 then 1 else 0) = eo_cn m k + (if Nat.testBit m k = true then 1 else 0)
    rw [eo_rm_bit hm]
    by_cases q : k = j
    · rw [decide_eq_true q, q, hj, if_pos (by omega : j < j + 1), if_neg (by decide), if_pos rfl]
      rw [q, if_neg (by omega)] at ih
      omega
    · rw [decide_eq_false q, Bool.not_false, Bool.and_true]
      by_cases c : j < k
      · rw [if_pos c] at ih
        rw [if_pos (by omega : j < k + 1)]
        omega
      · rw [if_neg c] at ih
        rw [if_neg (by omega : ¬ j < k + 1)]
        omega
/-- the best so far, and its order -/
abbrev eo_B : Type := Int × (Nat → Int)
def eo_up (b : eo_B) (v : Int) (pk : Nat → Int) : eo_B := if b.1 < v then (v, pk) else b
def eo_ch (C : Nat → eo_B → eo_B) (m : Nat) : Nat → eo_B → eo_B
  | 0, b => b
  | j + 1, b => if Nat.testBit m j = true then C j (eo_ch C m j b) else eo_ch C m j b
def eo_tr (V : (Nat → Int) → Int) (T : Nat → Int) (N bn : Nat) : Nat → (Nat → Int) → Nat → (Nat → Int) → eo_B → eo_B
  | 0 => fun Lo _ pk b => eo_up b (V Lo) pk
  | r + 1 => fun Lo m pk b => eo_ch (fun j b => eo_tr V T N bn r (ef_u Lo j (T (N - r))) (eo_rm m j) (ef_u pk (N - (r + 1)) (j : Int)) b) m bn b
/-- the k-th order: when each is lowered, which is the i-th -/
def eo_LP (T : Nat → Int) (N bn : Nat) : Nat → (Nat → Int) → (Nat → Int) → Nat → Nat → (Nat → Int) × (Nat → Int)
  | 0, Lo, pk, _, _ => (Lo, pk)
  | r + 1, Lo, pk, m, k => eo_LP T N bn r (ef_u Lo (eo_nt m (k / eo_f r) bn) (T (N - r))) (ef_u pk (N - (r + 1)) (eo_nt m (k / eo_f r) bn : Int)) (eo_rm m (eo_nt m (k / eo_f r) bn)) (k % eo_f r)
def eo_fo (f : Nat → eo_B → eo_B) (a : Nat) : Nat → eo_B → eo_B
  | 0, b => b
  | c + 1, b => f (a + c) (eo_fo f a c b)
theorem eo_fo_add {f : Nat → eo_B → eo_B} {a c : Nat} {b : eo_B} : ∀ d, eo_fo f a (c + d) b = eo_fo f (a + c) d (eo_fo f a c b)
  | 0 => rfl
  | d + 1 => by
    show f (a + (c + d)) (eo_fo f a (c + d) b) = f (a + c + d) (eo_fo f (a + c) d (eo_fo f a c b))
    rw [eo_fo_add d, Nat.add_assoc]
theorem eo_fo_cg {f f' : Nat → eo_B → eo_B} {a a' : Nat} {b : eo_B} : ∀ c, (∀ k, k < c → f (a + k) = f' (a' + k)) → eo_fo f a c b = eo_fo f' a' c b
  | 0, _ => rfl
  | c + 1, h => by
    show f (a + c) (eo_fo f a c b) = f' (a' + c) (eo_fo f' a' c b)
    rw [eo_fo_cg c (fun k hk => h k (by omega)), h c (by omega)]
section EO1
variable {V : (Nat → Int) → Int} {T : Nat → Int} {N bn : Nat}
def eo_F (V : (Nat → Int) → Int) (T : Nat → Int) (N bn r : Nat) (Lo pk : Nat → Int) (m k : Nat) (b : eo_B) : eo_B := eo_up b (V (eo_LP T N bn r Lo pk m k).1) (eo_LP T N bn r Lo pk m k).2
theorem eo_tr_fo (hb : bn ≤ 8) : ∀ (r : Nat) (Lo pk : Nat → Int) (m : Nat) (b : eo_B), m < 2 ^ bn → eo_cn m bn = r → eo_tr V T N bn r Lo m pk b = eo_fo (eo_F V T N bn r Lo pk m) 0 (eo_f r) b := by
  have p8 := eq_pw hb
  intro r
  induction r with
  | zero =>
    intro Lo pk m b _ _
    rfl
  | succ r ihr =>
    intro Lo pk m b hm hc
    have c : ∀ j, j ≤ bn → eo_ch (fun j b => eo_tr V T N bn r (ef_u Lo j (T (N - r))) (eo_rm m j) (ef_u pk (N - (r + 1)) (j : Int)) b) m j b = eo_fo (eo_F V T N bn (r + 1) Lo pk m) 0 (eo_cn m j * eo_f r) b := by
      intro j
      induction j with
      | zero =>
        intro _
        show b = eo_fo (eo_F V T N bn (r + 1) Lo pk m) 0 (0 * eo_f r) b
        rw [Nat.zero_mul]
        rfl
      | succ j ih =>
        intro hj
        show (if Nat.testBit m j = true then eo_tr V T N bn r (ef_u Lo j (T (N - r))) (eo_rm m j) (ef_u pk (N - (r + 1)) (j : Int)) (eo_ch (fun j b => eo_tr V T N bn r (ef_u Lo j (T (N - r))) (eo_rm m j) (ef_u pk (N - (r + 1)) (j : Int)) b) m j b) else eo_ch (fun j b => eo_tr V T N bn r (ef_u Lo j (T (N - r))) (eo_rm m j) (ef_u pk (N - (r + 1)) (j : Int)) b) m j b) = eo_fo (eo_F V T N bn (r + 1) Lo pk m) 0 ((eo_cn m j + (if Nat.testBit m j = true then 1 else 0)) * eo_f r) b
        rw [ih (by omega)]
        by_cases q : Nat.testBit m j = true
        · have hcn := eo_rm_cn (by omega) q bn
          rw [if_pos (by omega : j < bn)] at hcn
          rw [if_pos q, if_pos q, ihr _ _ _ _ (eo_rm_lt hb hm) (by omega), Nat.succ_mul, eo_fo_add, Nat.zero_add]
          refine eo_fo_cg (eo_f r) (fun k hk => ?_)
          have e1 : (eo_cn m j * eo_f r + k) / eo_f r = eo_cn m j := by
            rw [Nat.mul_comm, Nat.mul_add_div (eo_f_pos r), Nat.div_eq_of_lt hk, Nat.add_zero]
          have e2 : (eo_cn m j * eo_f r + k) % eo_f r = k := by
            rw [Nat.mul_comm, Nat.mul_add_mod, Nat.mod_eq_of_lt hk]
          have e3 : eo_nt m (eo_cn m j) bn = j := eo_nt_eq q rfl bn (by omega)
          funext b'
          show eo_up b' (V (eo_LP T N bn r (ef_u Lo j (T (N - r))) (ef_u pk (N - (r + 1)) (j : Int)) (eo_rm m j) (0 + k)).1) (eo_LP T N bn r (ef_u Lo j (T (N - r))) (ef_u pk (N - (r + 1)) (j : Int)) (eo_rm m j) (0 + k)).2 = eo_up b' (V (eo_LP T N bn r (ef_u Lo (eo_nt m ((eo_cn m j * eo_f r + k) / eo_f r) bn) (T (N - r))) (ef_u pk (N - (r + 1)) (eo_nt m ((eo_cn m j * eo_f r + k) / eo_f r) bn : Int)) (eo_rm m (eo_nt m ((eo_cn m j * eo_f r + k) / eo_f r) bn)) ((eo_cn m j * eo_f r + k) % eo_f r)).1) (eo_LP T N bn r (ef_u Lo (eo_nt m ((eo_cn m j * eo_f r + k) / eo_f r) bn) (T (N - r))) (ef_u pk (N - (r + 1)) (eo_nt m ((eo_cn m j * eo_f r + k) / eo_f r) bn : Int)) (eo_rm m (eo_nt m ((eo_cn m j * eo_f r + k) / eo_f r) bn)) ((eo_cn m j * eo_f r + k) % eo_f r)).2
          rw [e1, e2, e3, Nat.zero_add]
        · rw [if_neg q, if_neg q]
          rfl
    have h := c bn (Nat.le_refl _)
    rw [hc] at h
    exact h
/-- boats that are still to come are as good as none ahead of them -/
theorem eo_LP_cg : ∀ (r : Nat) (Lo Lo2 pk : Nat → Int) (m k b : Nat), m < 256 → b < bn → eo_cn m bn = r → k < eo_f r → (Nat.testBit m b = true ∨ Lo b = Lo2 b) → (eo_LP T N bn r Lo pk m k).1 b = (eo_LP T N bn r Lo2 pk m k).1 b ∧ (eo_LP T N bn r Lo pk m k).2 = (eo_LP T N bn r Lo2 pk m k).2 := by
  intro r
  induction r with
  | zero =>
    intro Lo Lo2 pk m k b hm hb hc _ h
    rcases h with h | h
    · have := eo_cn_lt h hb
      omega
    · exact ⟨h, rfl⟩
  | succ r ih =>
    intro Lo Lo2 pk m k b hm hb hc hk h
    have hl : eo_rm m (eo_nt m (k / eo_f r) bn) < 256 := eq_mk_lt 8
    obtain ⟨j, j1, j2, j3⟩ : ∃ j, Nat.testBit m j = true ∧ j < bn ∧ eo_cn m j = k / eo_f r := by
      have hk2 : k / eo_f r < eo_cn m bn := by
        rw [hc]
        exact (Nat.div_lt_iff_lt_mul (eo_f_pos r)).mpr hk
      have ex : ∀ c, k / eo_f r < eo_cn m c → ∃ j, Nat.testBit m j = true ∧ j < c ∧ eo_cn m j = k / eo_f r := by
        intro c
        induction c with
        | zero => intro q; exact absurd q (Nat.not_lt_zero _)
        | succ c ihc =>
          intro q
          have q2 : k / eo_f r < eo_cn m c + (if Nat.testBit m c = true then 1 else 0) := q
          by_cases q3 : k / eo_f r < eo_cn m c
          · obtain ⟨j, a, b, d⟩ := ihc q3
            exact ⟨j, a, by omega, d⟩
          · by_cases q4 : Nat.testBit m c = true
            · rw [if_pos q4] at q2
              exact ⟨c, q4, by omega, by omega⟩
            · rw [if_neg q4] at q2
              omega
      exact ex bn hk2
    have e3 : eo_nt m (k / eo_f r) bn = j := eo_nt_eq j1 j3 bn j2
    show (eo_LP T N bn r (ef_u Lo (eo_nt m (k / eo_f r) bn) (T (N - r))) (ef_u pk (N - (r + 1)) (eo_nt m (k / eo_f r) bn : Int)) (eo_rm m (eo_nt m (k / eo_f r) bn)) (k % eo_f r)).1 b = (eo_LP T N bn r (ef_u Lo2 (eo_nt m (k / eo_f r) bn) (T (N - r))) (ef_u pk (N - (r + 1)) (eo_nt m (k / eo_f r) bn : Int)) (eo_rm m (eo_nt m (k / eo_f r) bn)) (k % eo_f r)).1 b ∧ (eo_LP T N bn r (ef_u Lo (eo_nt m (k / eo_f r) bn) (T (N - r))) (ef_u pk (N - (r + 1)) (eo_nt m (k / eo_f r) bn : Int)) (eo_rm m (eo_nt m (k / eo_f r) bn)) (k % eo_f r)).2 = (eo_LP T N bn r (ef_u Lo2 (eo_nt m (k / eo_f r) bn) (T (N - r))) (ef_u pk (N - (r + 1)) (eo_nt m (k / eo_f r) bn : Int)) (eo_rm m (eo_nt m (k / eo_f r) bn)) (k % eo_f r)).2
    rw [e3] at hl ⊢
    have hcn := eo_rm_cn hm j1 bn
    rw [if_pos j2] at hcn
    refine ih _ _ _ _ _ b hl hb (by omega) (Nat.mod_lt _ (eo_f_pos r)) ?_
    unfold ef_u
    by_cases q : b = j
    · exact .inr (by rw [if_pos q, if_pos q])
    · rcases h with h | h
      · refine .inl ?_
        rw [eo_rm_bit hm, h, decide_eq_false q]
        rfl
      · exact .inr (by rw [if_neg q, if_neg q]; exact h)
/-- none of these orders is better -/
theorem eo_no (hV : ∀ L L' : Nat → Int, (∀ j, j < bn → L j ≤ L' j) → V L ≤ V L') (hT : ∀ i, i ≤ N → T i ≤ T N) : ∀ (r : Nat) (Lo pk : Nat → Int) (m : Nat) (b : eo_B), m < 256 → (∀ j, j < bn → Nat.testBit m j = true → T N ≤ Lo j) → V Lo ≤ b.1 → eo_tr V T N bn r Lo m pk b = b := by
  intro r
  induction r with
  | zero =>
    intro Lo pk m b _ _ h
    show eo_up b (V Lo) pk = b
    unfold eo_up
    rw [if_neg (by omega)]
  | succ r ih =>
    intro Lo pk m b hm hl h
    have c : ∀ j, j ≤ bn → eo_ch (fun j b => eo_tr V T N bn r (ef_u Lo j (T (N - r))) (eo_rm m j) (ef_u pk (N - (r + 1)) (j : Int)) b) m j b = b := by
      intro j
      induction j with
      | zero => intro _; rfl
      | succ j ihj =>
        intro hj
        show (if Nat.testBit m j = true then eo_tr V T N bn r (ef_u Lo j (T (N - r))) (eo_rm m j) (ef_u pk (N - (r + 1)) (j : Int)) (eo_ch (fun j b => eo_tr V T N bn r (ef_u Lo j (T (N - r))) (eo_rm m j) (ef_u pk (N - (r + 1)) (j : Int)) b) m j b) else eo_ch (fun j b => eo_tr V T N bn r (ef_u Lo j (T (N - r))) (eo_rm m j) (ef_u pk (N - (r + 1)) (j : Int)) b) m j b) = b
        rw [ihj (by omega)]
        by_cases q : Nat.testBit m j = true
        · rw [if_pos q]
          have hlj := hl j (by omega) q
          have hTr := hT (N - r) (by omega)
          refine ih _ _ _ _ (eq_mk_lt 8) (fun i hi hb => ?_) (Int.le_trans (hV _ Lo (fun i hi => ?_)) h)
          · rw [eo_rm_bit hm, Bool.and_eq_true] at hb
            have hij : i ≠ j := fun e => by
              rw [decide_eq_true e] at hb
              exact Bool.noConfusion hb.2
            unfold ef_u
            rw [if_neg hij]
            exact hl i hi hb.1
          · unfold ef_u
            split
            · rename_i e
              rw [e]
              omega
            · exact Int.le_refl _
        · rw [if_neg q]
    exact c bn (Nat.le_refl _)
end EO1

end
