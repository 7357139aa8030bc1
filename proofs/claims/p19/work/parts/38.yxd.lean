noncomputable section
/-! SEATING: a pair is had; what is done stays done -/
section ET2
variable {Se p Se' p' : Nat → Int} {M : Nat → Nat} {bn gn : Nat} {L : Int} {g b : Nat} {n : Int}
/-- n of a GROUP are in a BOAT -/
def et_tk (Se p Se' p' : Nat → Int) (g b : Nat) (n : Int) : Prop := ((∀ j, j ≠ b → Se' j = Se j) ∧ Se' b = Se b - n) ∧ (∀ i, i ≠ g → p' i = p i) ∧ p' g = p g - n
theorem et_tk_ss (ht : et_tk Se p Se' p' g b n) {x : Nat} : ∀ k, ef_ss Se' k x + (if b < k ∧ Nat.testBit x b = true then n else 0) = ef_ss Se k x
  | 0 => by
    rw [if_neg (fun e => absurd e.1 (Nat.not_lt_zero _))]
    rfl
  | k + 1 => by
    have ih := et_tk_ss ht (x := x) k
    show (ef_ss Se' k x + (if Nat.testBit x k then Se' k else 0)) + (if b < k + 1 ∧ Nat.testBit x b = true then n else 0) = ef_ss Se k x + (if Nat.testBit x k then Se k else 0)
    by_cases q : k = b
    · rw [if_neg (by omega : ¬ (b < k ∧ Nat.testBit x b = true))] at ih
      rw [q] at ih ⊢
      rw [ht.1.2]
      by_cases t : Nat.testBit x b = true
      · rw [if_pos t, if_pos t, if_pos ⟨by omega, t⟩]
        omega
      · rw [if_neg t, if_neg t, if_neg (fun e => t e.2)]
        omega
    · rw [ht.1.1 k q]
      by_cases c : b < k ∧ Nat.testBit x b = true
      · rw [if_pos c] at ih
        rw [if_pos (⟨by omega, c.2⟩ : b < k + 1 ∧ Nat.testBit x b = true)]
        omega
      · rw [if_neg c] at ih
        rw [if_neg (fun (e : b < k + 1 ∧ Nat.testBit x b = true) => c ⟨by omega, e.2⟩)]
        omega
theorem et_tk_su (ht : et_tk Se p Se' p' g b n) (hg : g < gn) {x : Nat} : et_su (et_t p' M x) gn + (if eq_in (M g) x = true then 0 else n) = et_su (et_t p M x) gn := by
  have e := et_su_cg (f := fun i => et_t p' M x i + et_1 g (if eq_in (M g) x = true then 0 else n) i) (h := et_t p M x) gn (fun i _ => by
    show et_t p' M x i + et_1 g (if eq_in (M g) x = true then 0 else n) i = et_t p M x i
    unfold et_t et_1
    by_cases q : i = g
    · rw [if_pos q, q, ht.2.2]
      by_cases t : eq_in (M g) x = true
      · rw [if_pos t, if_pos t, if_pos t]
        omega
      · rw [if_neg t, if_neg t, if_neg t]
        omega
    · rw [if_neg q, ht.2.1 i q, Int.add_zero])
  rw [et_su_add, et_su_one gn hg] at e
  exact e
theorem et_tk_c (ht : et_tk Se p Se' p' g b n) (hg : g < gn) (hb : b < bn) {x : Nat} : et_c Se' p' M bn gn x = et_c Se p M bn gn x - (if Nat.testBit x b = true then n else 0) - (if eq_in (M g) x = true then 0 else n) := by
  have h1 := et_tk_ss ht (x := x) bn
  have h2 := et_tk_su (M := M) ht hg (x := x)
  have e : (if b < bn ∧ Nat.testBit x b = true then n else 0) = (if Nat.testBit x b = true then n else 0) := by
    by_cases t : Nat.testBit x b = true
    · rw [if_pos t, if_pos ⟨hb, t⟩]
    · rw [if_neg t, if_neg (fun e => t e.2)]
  rw [e] at h1
  unfold et_c
  omega
theorem et_nin {x : Nat} (hb : Nat.testBit (M g) b = true) (h : ¬ Nat.testBit x b = true) : eq_in (M g) x = false := et_bf (fun e => h (eq_in_ok.mp e b hb))
theorem et_tk_min (ht : et_tk Se p Se' p' g b n) (hg : g < gn) (hb : b < bn) (hM : Nat.testBit (M g) b = true) (h0 : 0 ≤ n) (hm : et_min Se p M bn gn L) (ho : et_ok Se p M bn gn L g b n) : et_min Se' p' M bn gn (L - n) := by
  constructor
  · intro x
    have := hm.1 x
    rw [et_tk_c ht hg hb]
    by_cases t : Nat.testBit x b = true
    · by_cases e : eq_in (M g) x = true
      · rw [if_pos t, if_pos e]
        omega
      · have := ho.2.2 x t (et_bf e)
        rw [if_pos t, if_neg e]
        omega
    · rw [if_neg t, et_nin hM t, if_neg (by decide)]
      omega
  · obtain ⟨x, hx⟩ := hm.2
    refine ⟨x, ?_⟩
    rw [et_tk_c ht hg hb]
    by_cases t : Nat.testBit x b = true
    · by_cases e : eq_in (M g) x = true
      · rw [if_pos t, if_pos e]
        omega
      · have := ho.2.2 x t (et_bf e)
        rw [if_pos t, if_neg e]
        omega
    · rw [if_neg t, et_nin hM t, if_neg (by decide)]
      omega
theorem et_tk_back (ht : et_tk Se p Se' p' g b n) (hg : g < gn) (hb : b < bn) (h1 : n ≤ p g) (h2 : n ≤ Se b) (hm : et_min Se' p' M bn gn (L - n)) : et_ok Se p M bn gn L g b n := by
  refine ⟨h1, h2, fun x hx hn => ?_⟩
  have := hm.1 x
  rw [et_tk_c ht hg hb, if_pos hx, hn, if_neg (by decide)] at this
  omega
theorem et_tk_dead {g1 b1 : Nat} (ht : et_tk Se p Se' p' g b n) (hg : g < gn) (hb : b < bn) (hM : Nat.testBit (M g) b = true) (h0 : 0 ≤ n) (hm : et_min Se p M bn gn L) (ho : et_ok Se p M bn gn L g b n) (hd : et_dead Se p M bn gn L g1 b1) : et_dead Se' p' M bn gn (L - n) g1 b1 := by
  have o1 := ho.1
  have o2 := ho.2.1
  rcases hd with d | d | ⟨y, y1, y2, y3⟩
  · refine .inl ?_
    by_cases q : g1 = g
    · rw [q] at d ⊢
      rw [ht.2.2]
      omega
    · rw [ht.2.1 g1 q]
      exact d
  · refine .inr (.inl ?_)
    by_cases q : b1 = b
    · rw [q] at d ⊢
      rw [ht.1.2]
      omega
    · rw [ht.1.1 b1 q]
      exact d
  · refine .inr (.inr ⟨y, ?_, y2, y3⟩)
    have lo := (et_tk_min ht hg hb hM h0 hm ho).1 y
    rw [et_tk_c ht hg hb] at lo ⊢
    by_cases t : Nat.testBit y b = true
    · by_cases e : eq_in (M g) y = true
      · rw [if_pos t, if_pos e]
        omega
      · have := ho.2.2 y t (et_bf e)
        rw [if_pos t, if_neg e]
        omega
    · rw [if_neg t, et_nin hM t, if_neg (by decide)]
      omega
theorem et_tk_self (ht : et_tk Se p Se' p' g b n) (hg : g < gn) (hb : b < bn) (ho : et_ok Se p M bn gn L g b n) (hx : ¬ et_ok Se p M bn gn L g b (n + 1)) : et_dead Se' p' M bn gn (L - n) g b := by
  by_cases c1 : n + 1 ≤ p g
  · by_cases c2 : n + 1 ≤ Se b
    · have h3 : ¬ ∀ x, Nat.testBit x b = true → eq_in (M g) x = false → n + 1 ≤ et_c Se p M bn gn x - L := fun e => hx ⟨c1, c2, e⟩
      obtain ⟨x, h4⟩ := Classical.not_forall.mp h3
      obtain ⟨h5, h6⟩ := Classical.not_imp.mp h4
      obtain ⟨h7, h8⟩ := Classical.not_imp.mp h6
      refine .inr (.inr ⟨x, ?_, h5, h7⟩)
      have := ho.2.2 x h5 h7
      rw [et_tk_c ht hg hb, if_pos h5, h7, if_neg (by decide)]
      omega
    · refine .inr (.inl ?_)
      have := ho.2.1
      rw [ht.1.2]
      omega
  · refine .inl ?_
    have := ho.1
    rw [ht.2.2]
    omega
theorem et_min_un {L1 L2 : Int} (h1 : et_min Se p M bn gn L1) (h2 : et_min Se p M bn gn L2) : L1 = L2 := by
  obtain ⟨x, hx⟩ := h1.2
  obtain ⟨y, hy⟩ := h2.2
  have a := h1.1 y
  have c := h2.1 x
  omega
theorem et_ok_dn {m : Int} (h : et_ok Se p M bn gn L g b n) (hm : m ≤ n) : et_ok Se p M bn gn L g b m := ⟨Int.le_trans hm h.1, Int.le_trans hm h.2.1, fun x h1 h2 => Int.le_trans hm (h.2.2 x h1 h2)⟩
theorem et_ok_un {m : Int} (h1 : et_ok Se p M bn gn L g b n) (h2 : ¬ et_ok Se p M bn gn L g b (n + 1)) (h3 : et_ok Se p M bn gn L g b m) (h4 : ¬ et_ok Se p M bn gn L g b (m + 1)) : n = m := by
  rcases Int.lt_trichotomy n m with q | q | q
  · exact absurd (et_ok_dn h3 (by omega)) h2
  · exact q
  · exact absurd (et_ok_dn h1 (by omega)) h4
end ET2
/-! pairs by their order: the first t are done -/
def et_Mt (M : Nat → Nat) (t g : Nat) : Nat := eq_mk (fun b => Nat.testBit (M g) b && decide (t ≤ g * 8 + b)) 8
theorem et_Mt_bit {M : Nat → Nat} {t g b : Nat} (hM : M g < 256) : Nat.testBit (et_Mt M t g) b = (Nat.testBit (M g) b && decide (t ≤ g * 8 + b)) := by
  by_cases h : b < 8
  · exact eq_mk_bit 8 b h
  · have p8 : (2 : Nat) ^ 8 ≤ 2 ^ b := Nat.pow_le_pow_right (by decide) (by omega)
    have e8 : (2 : Nat) ^ 8 = 256 := rfl
    have h1 : et_Mt M t g < 2 ^ 8 := eq_mk_lt 8
    rw [Nat.testBit_lt_two_pow (by omega : et_Mt M t g < 2 ^ b), Nat.testBit_lt_two_pow (by omega : M g < 2 ^ b)]
    rfl
theorem et_Mt_0 {M : Nat → Nat} (hM : ∀ g, M g < 256) : et_Mt M 0 = M := by
  funext g
  apply Nat.eq_of_testBit_eq
  intro b
  rw [et_Mt_bit (hM g), decide_eq_true (Nat.zero_le _), Bool.and_true]
theorem et_Mt_rm {M : Nat → Nat} {t : Nat} (hM : ∀ g, M g < 256) : et_rm (et_Mt M t) (et_Mt M (t + 1)) (t / 8) (t % 8) := by
  refine ⟨fun g hg => ?_, fun b => ?_⟩
  · apply Nat.eq_of_testBit_eq
    intro b
    rw [et_Mt_bit (hM g), et_Mt_bit (hM g)]
    by_cases hb : b < 8
    · have e : decide (t + 1 ≤ g * 8 + b) = decide (t ≤ g * 8 + b) := by
        rw [decide_eq_decide]
        omega
      rw [e]
    · have p8 : (2 : Nat) ^ 8 ≤ 2 ^ b := Nat.pow_le_pow_right (by decide) (by omega)
      have e8 : (2 : Nat) ^ 8 = 256 := rfl
      have h1 := hM g
      rw [Nat.testBit_lt_two_pow (by omega : M g < 2 ^ b)]
      rfl
  · rw [et_Mt_bit (hM _), et_Mt_bit (hM _)]
    by_cases hb : b < 8
    · have e : decide (t + 1 ≤ t / 8 * 8 + b) = (decide (t ≤ t / 8 * 8 + b) && !(decide (b = t % 8))) := by
        by_cases q : b = t % 8
        · rw [decide_eq_true q, decide_eq_false (by omega : ¬ t + 1 ≤ t / 8 * 8 + b)]
          simp
        · rw [decide_eq_false q, Bool.not_false, Bool.and_true, decide_eq_decide]
          omega
      rw [e, Bool.and_assoc]
    · have p8 : (2 : Nat) ^ 8 ≤ 2 ^ b := Nat.pow_le_pow_right (by decide) (by omega)
      have e8 : (2 : Nat) ^ 8 = 256 := rfl
      have h1 := hM (t / 8)
      rw [Nat.testBit_lt_two_pow (by omega : M (t / 8) < 2 ^ b)]
      rfl
theorem et_Mt_no {M : Nat → Nat} {t : Nat} (hM : ∀ g, M g < 256) (h : Nat.testBit (M (t / 8)) (t % 8) = false) : et_Mt M (t + 1) = et_Mt M t := by
  funext g
  have hr := et_Mt_rm (t := t) hM
  by_cases q : g = t / 8
  · apply Nat.eq_of_testBit_eq
    intro b
    rw [q, hr.2 b]
    by_cases q2 : b = t % 8
    · rw [et_Mt_bit (hM _), q2, h]
      rfl
    · rw [decide_eq_false q2, Bool.not_false, Bool.and_true]
  · exact hr.1 g q
/-- those that are done count no more, each behind those ahead of it -/
def et_ch (Se p : Nat → Int) (M : Nat → Nat) (bn gn : Nat) (L : Int) (t : Nat) : Prop := et_min Se p M bn gn L ∧ ∀ i, i < t → Nat.testBit (M (i / 8)) (i % 8) = true → et_dead Se p (et_Mt M i) bn gn L (i / 8) (i % 8)
section ET3
variable {Se p Se' p' : Nat → Int} {M : Nat → Nat} {bn gn t : Nat} {L : Int}
theorem et_ch_all (hM : ∀ g, M g < 256) (hp : ∀ g, g < gn → 0 ≤ p g) (ht : t ≤ gn * 8) (h : et_ch Se p M bn gn L t) : ∀ i, i ≤ t → et_min Se p (et_Mt M i) bn gn L ∧ ∀ (g b : Nat) (n : Int), g < gn → Nat.testBit (et_Mt M i g) b = true → (et_ok Se p M bn gn L g b n ↔ et_ok Se p (et_Mt M i) bn gn L g b n) := by
  intro i
  induction i with
  | zero =>
    intro _
    rw [et_Mt_0 hM]
    exact ⟨h.1, fun g b n _ _ => Iff.rfl⟩
  | succ i ih =>
    intro hi
    obtain ⟨m1, o1⟩ := ih (by omega)
    by_cases q : Nat.testBit (M (i / 8)) (i % 8) = true
    · have hd := h.2 i (by omega) q
      have hr := et_Mt_rm (t := i) hM
      refine ⟨et_rm_min hr hp (by omega) m1 hd, fun g b n hg hb => ?_⟩
      have hb' : Nat.testBit (et_Mt M i g) b = true := by
        rw [et_Mt_bit (hM g), Bool.and_eq_true] at hb ⊢
        exact ⟨hb.1, decide_eq_true (by have := of_decide_eq_true hb.2; omega)⟩
      exact (o1 g b n hg hb').trans (et_rm_ok hr hp (by omega) hg hb m1 hd)
    · rw [et_Mt_no hM (et_bf q)]
      exact ⟨m1, o1⟩
theorem et_ch_no (hq : Nat.testBit (M (t / 8)) (t % 8) = false) (h : et_ch Se p M bn gn L t) : et_ch Se p M bn gn L (t + 1) := by
  refine ⟨h.1, fun i hi hb => ?_⟩
  by_cases q : i = t
  · rw [q, hq] at hb
    cases hb
  · exact h.2 i (by omega) hb
theorem et_ch_st {g b : Nat} {n : Int} (hM : ∀ g, M g < 256) (hp : ∀ g, g < gn → 0 ≤ p g) (hg : g < gn) (hb8 : b < 8) (hb : b < bn) (hq : Nat.testBit (M g) b = true) (h0 : 0 ≤ n) (hk : et_tk Se p Se' p' g b n) (ho : et_ok Se p M bn gn L g b n) (hx : ¬ et_ok Se p M bn gn L g b (n + 1)) (h : et_ch Se p M bn gn L (g * 8 + b)) : et_ch Se' p' M bn gn (L - n) (g * 8 + b + 1) := by
  have al := et_ch_all hM hp (by omega) h
  refine ⟨et_tk_min hk hg hb hq h0 h.1 ho, fun i hi hbi => ?_⟩
  have bt : ∀ j, j ≤ g * 8 + b → Nat.testBit (et_Mt M j g) b = true := fun j hj => by
    rw [et_Mt_bit (hM g), hq, decide_eq_true hj]
    rfl
  by_cases q : i = g * 8 + b
  · have e1 : i / 8 = g := by omega
    have e2 : i % 8 = b := by omega
    obtain ⟨m1, o1⟩ := al (g * 8 + b) (Nat.le_refl _)
    rw [e1, e2, q]
    exact et_tk_self hk hg hb ((o1 g b n hg (bt _ (Nat.le_refl _))).mp ho) (fun e => hx ((o1 g b (n + 1) hg (bt _ (Nat.le_refl _))).mpr e))
  · obtain ⟨m1, o1⟩ := al i (by omega)
    exact et_tk_dead hk hg hb (bt i (by omega)) h0 m1 ((o1 g b n hg (bt i (by omega))).mp ho) (h.2 i (by omega) hbi)
theorem et_ch_up {t' : Nat} (h : et_ch Se p M bn gn L t) (ht : t ≤ t') (hn : ∀ i, t ≤ i → i < t' → Nat.testBit (M (i / 8)) (i % 8) = false) : et_ch Se p M bn gn L t' := by
  refine ⟨h.1, fun i hi hb => ?_⟩
  by_cases q : i < t
  · exact h.2 i q hb
  · rw [hn i (by omega) hi] at hb
    cases hb
end ET3
/-! least of a row of numbers -/
theorem eq_mn_at {f : Nat → Int} {a : Int} : ∀ k, eq_mn f a k = a ∨ ∃ x, x < k ∧ eq_mn f a k = f x
  | 0 => .inl rfl
  | k + 1 => by
    have e : eq_mn f a (k + 1) = min (eq_mn f a k) (f k) := rfl
    by_cases q : eq_mn f a k ≤ f k
    · rw [e, Int.min_eq_left q]
      rcases eq_mn_at (f := f) (a := a) k with h | ⟨x, hx, h⟩
      · exact .inl h
      · exact .inr ⟨x, by omega, h⟩
    · rw [e, Int.min_eq_right (by omega)]
      exact .inr ⟨k, by omega, rfl⟩
theorem et_lo_ss {Se : Nat → Int} {x K : Nat} : ∀ k, k ≤ K → ef_ss Se k (x % 2 ^ K) = ef_ss Se k x
  | 0, _ => rfl
  | k + 1, h => by
    show ef_ss Se k (x % 2 ^ K) + (if Nat.testBit (x % 2 ^ K) k then Se k else 0) = ef_ss Se k x + (if Nat.testBit x k then Se k else 0)
    rw [et_lo_ss k (by omega), Nat.testBit_mod_two_pow, decide_eq_true (by omega : k < K), Bool.true_and]
theorem et_lo_in {m x bn : Nat} (h : m < 2 ^ bn) : eq_in m (x % 2 ^ bn) = eq_in m x := by
  have e : eq_in m (x % 2 ^ bn) = true ↔ eq_in m x = true := by
    rw [eq_in_ok, eq_in_ok]
    constructor
    · intro q b hb
      have := q b hb
      rw [Nat.testBit_mod_two_pow, Bool.and_eq_true] at this
      exact this.2
    · intro q b hb
      rw [Nat.testBit_mod_two_pow, q b hb, Bool.and_true]
      refine decide_eq_true ?_
      by_cases c : b < bn
      · exact c
      · have h1 := Nat.ge_two_pow_of_testBit hb
        have h2 : 2 ^ bn ≤ 2 ^ b := Nat.pow_le_pow_right (by decide) (by omega)
        omega
  cases h1 : eq_in m x with
  | true => exact e.mpr h1
  | false => exact et_bf (fun q => by rw [e.mp q] at h1; cases h1)
theorem et_lo {Se p : Nat → Int} {M : Nat → Nat} {bn gn x : Nat} (hM : ∀ g, M g < 2 ^ bn) : et_c Se p M bn gn (x % 2 ^ bn) = et_c Se p M bn gn x := by
  unfold et_c
  rw [et_lo_ss bn (Nat.le_refl _), et_su_cg (f := et_t p M (x % 2 ^ bn)) (h := et_t p M x) gn (fun g _ => by unfold et_t; rw [et_lo_in (hM g)])]
theorem et_mn {Se p : Nat → Int} {M : Nat → Nat} {bn gn : Nat} (hM : ∀ g, M g < 2 ^ bn) : et_min Se p M bn gn (eq_mn (eq_C Se p M bn gn) (ef_ss Se bn (2 ^ bn - 1)) (2 ^ bn)) := by
  have hp := Nat.two_pow_pos bn
  have le := eq_mn_le (f := eq_C Se p M bn gn) (a := ef_ss Se bn (2 ^ bn - 1)) (2 ^ bn)
  refine ⟨fun x => ?_, ?_⟩
  · rw [← et_lo hM, ← et_C]
    exact le.2 _ (Nat.mod_lt _ hp)
  · rcases eq_mn_at (f := eq_C Se p M bn gn) (a := ef_ss Se bn (2 ^ bn - 1)) (2 ^ bn) with h | ⟨x, _, h⟩
    · exact ⟨2 ^ bn - 1, by rw [h, ← et_C, eq_C_all (fun g _ => hM g)]⟩
    · exact ⟨x, by rw [h, et_C]⟩

end
