noncomputable section
/-! LINEAR FORMS OVER SYMBOLS -/
abbrev sy_L : Type := Int × List (Nat × Int)
def sy_s (ρ : Nat → Int) : List (Nat × Int) → Int
  | [] => 0
  | t :: r => t.2 * ρ t.1 + sy_s ρ r
def sy_e (ρ : Nat → Int) (e : sy_L) : Int := e.1 + sy_s ρ e.2
def sy_ins (i : Nat) (c : Int) : List (Nat × Int) → List (Nat × Int)
  | [] => if c = 0 then [] else [(i, c)]
  | t :: r => if i < t.1 then (if c = 0 then t :: r else (i, c) :: t :: r) else if i = t.1 then (if c + t.2 = 0 then r else (i, c + t.2) :: r) else t :: sy_ins i c r
theorem sy_ins_e (ρ : Nat → Int) (i : Nat) (c : Int) : ∀ l : List (Nat × Int), sy_s ρ (sy_ins i c l) = c * ρ i + sy_s ρ l
  | [] => by
    unfold sy_ins
    split
    · rename_i h; subst h; simp [sy_s]
    · simp [sy_s]
  | t :: r => by
    unfold sy_ins
    split
    · split
      · rename_i h; subst h; simp [sy_s]
      · simp [sy_s]
    · split
      · rename_i h
        split
        · rename_i h2
          show sy_s ρ r = c * ρ i + (t.2 * ρ t.1 + sy_s ρ r)
          rw [← h]
          have : (c + t.2) * ρ i = 0 := by rw [h2]; simp
          rw [Int.add_mul] at this
          omega
        · show (c + t.2) * ρ i + sy_s ρ r = c * ρ i + (t.2 * ρ t.1 + sy_s ρ r)
          rw [← h, Int.add_mul]
          omega
      · show t.2 * ρ t.1 + sy_s ρ (sy_ins i c r) = c * ρ i + (t.2 * ρ t.1 + sy_s ρ r)
        rw [sy_ins_e ρ i c r]
        omega
def sy_addl : List (Nat × Int) → List (Nat × Int) → List (Nat × Int)
  | [], b => b
  | t :: r, b => sy_ins t.1 t.2 (sy_addl r b)
theorem sy_addl_e (ρ : Nat → Int) : ∀ a b : List (Nat × Int), sy_s ρ (sy_addl a b) = sy_s ρ a + sy_s ρ b
  | [], b => by simp [sy_addl, sy_s]
  | t :: r, b => by
    show sy_s ρ (sy_ins t.1 t.2 (sy_addl r b)) = t.2 * ρ t.1 + sy_s ρ r + sy_s ρ b
    rw [sy_ins_e, sy_addl_e ρ r b]
    omega
def sy_add (a b : sy_L) : sy_L := (a.1 + b.1, sy_addl a.2 b.2)
theorem sy_add_e (ρ : Nat → Int) (a b : sy_L) : sy_e ρ (sy_add a b) = sy_e ρ a + sy_e ρ b := by
  unfold sy_e sy_add
  simp only [sy_addl_e]
  omega
def sy_scl (k : Int) (a : sy_L) : sy_L := if k = 0 then (0, []) else (k * a.1, a.2.map (fun t => (t.1, k * t.2)))
theorem sy_scl_s (ρ : Nat → Int) (k : Int) : ∀ l : List (Nat × Int), sy_s ρ (l.map (fun t => (t.1, k * t.2))) = k * sy_s ρ l
  | [] => by simp [sy_s]
  | t :: r => by
    show k * t.2 * ρ t.1 + sy_s ρ (r.map (fun t => (t.1, k * t.2))) = k * (t.2 * ρ t.1 + sy_s ρ r)
    rw [sy_scl_s ρ k r, Int.mul_add, Int.mul_assoc]
theorem sy_scl_e (ρ : Nat → Int) (k : Int) (a : sy_L) : sy_e ρ (sy_scl k a) = k * sy_e ρ a := by
  unfold sy_scl
  split
  · rename_i h; subst h; simp [sy_e, sy_s]
  · show k * a.1 + sy_s ρ (a.2.map (fun t => (t.1, k * t.2))) = k * (a.1 + sy_s ρ a.2)
    rw [sy_scl_s, Int.mul_add]
def sy_sub (a b : sy_L) : sy_L := sy_add a (sy_scl (-1) b)
theorem sy_sub_e (ρ : Nat → Int) (a b : sy_L) : sy_e ρ (sy_sub a b) = sy_e ρ a - sy_e ρ b := by
  unfold sy_sub
  rw [sy_add_e, sy_scl_e]
  omega
def sy_c (k : Int) : sy_L := (k, [])
theorem sy_c_e (ρ : Nat → Int) (k : Int) : sy_e ρ (sy_c k) = k := by simp [sy_e, sy_c, sy_s]
def sy_x (i : Nat) : sy_L := (0, [(i, 1)])
theorem sy_x_e (ρ : Nat → Int) (i : Nat) : sy_e ρ (sy_x i) = ρ i := by simp [sy_e, sy_x, sy_s]
/-! ranges -/
abbrev sy_T : Type := List (Int × Int)
def sy_ok (ρ : Nat → Int) (R : sy_T) : Prop := ∀ (i : Nat) (q : Int × Int), R[i]? = some q → q.1 ≤ ρ i ∧ ρ i ≤ q.2
def sy_los (R : sy_T) : List (Nat × Int) → Option Int
  | [] => some 0
  | t :: r => match R[t.1]?, sy_los R r with
    | some q, some z => some ((if 0 ≤ t.2 then t.2 * q.1 else t.2 * q.2) + z)
    | _, _ => none
theorem sy_los_e {ρ : Nat → Int} {R : sy_T} (h : sy_ok ρ R) : ∀ (l : List (Nat × Int)) (z : Int), sy_los R l = some z → z ≤ sy_s ρ l
  | [], z, hz => by
    simp only [sy_los, Option.some.injEq] at hz
    subst hz
    exact Int.le_refl _
  | t :: r, z, hz => by
    unfold sy_los at hz
    split at hz
    · rename_i q y hq hy
      cases hz
      have h1 := h _ _ hq
      have h2 := sy_los_e h r y hy
      show _ ≤ t.2 * ρ t.1 + sy_s ρ r
      split
      · rename_i h0
        have h3 : t.2 * q.1 ≤ t.2 * ρ t.1 := Int.mul_le_mul_of_nonneg_left h1.1 h0
        omega
      · rename_i h0
        have h3 : t.2 * q.2 ≤ t.2 * ρ t.1 := Int.mul_le_mul_of_nonpos_left (by omega) h1.2
        omega
    · cases hz
def sy_lo (R : sy_T) (e : sy_L) : Option Int := (sy_los R e.2).map (fun z => e.1 + z)
theorem sy_lo_e {ρ : Nat → Int} {R : sy_T} (h : sy_ok ρ R) {e : sy_L} {z : Int} (hz : sy_lo R e = some z) : z ≤ sy_e ρ e := by
  obtain ⟨y, hy, rfl⟩ := Option.map_eq_some_iff.mp hz
  have := sy_los_e h _ _ hy
  unfold sy_e
  omega
def sy_hi (R : sy_T) (e : sy_L) : Option Int := (sy_lo R (sy_scl (-1) e)).map (fun z => -z)
theorem sy_hi_e {ρ : Nat → Int} {R : sy_T} (h : sy_ok ρ R) {e : sy_L} {z : Int} (hz : sy_hi R e = some z) : sy_e ρ e ≤ z := by
  obtain ⟨y, hy, rfl⟩ := Option.map_eq_some_iff.mp hz
  have := sy_lo_e h hy
  rw [sy_scl_e] at this
  omega
/-- both bounds -/
def sy_b (R : sy_T) (e : sy_L) : Option (Int × Int) := match sy_lo R e, sy_hi R e with
  | some a, some b => some (a, b)
  | _, _ => none
theorem sy_b_e {ρ : Nat → Int} {R : sy_T} (h : sy_ok ρ R) {e : sy_L} {q : Int × Int} (hz : sy_b R e = some q) : q.1 ≤ sy_e ρ e ∧ sy_e ρ e ≤ q.2 := by
  unfold sy_b at hz
  split at hz
  · rename_i a b ha hb
    cases hz
    exact ⟨sy_lo_e h ha, sy_hi_e h hb⟩
  · cases hz
/-! is e at least 0, by ranges, or by some of the constraints -/
/-- the symbols that draw a form below, or all -/
def sy_neg (R : sy_T) (t : Nat × Int) : Bool := match R[t.1]? with
  | some p => decide ((if 0 ≤ t.2 then t.2 * p.1 else t.2 * p.2) < 0)
  | none => false
def sy_ngs (R : sy_T) (l : List (Nat × Int)) : List (Nat × Int) := match l.filter (sy_neg R) with
  | [] => l
  | t :: r => t :: r
def sy_cof (y : Nat) : List (Nat × Int) → Int
  | [] => 0
  | t :: r => if t.1 = y then t.2 else sy_cof y r
def sy_l0 (R : sy_T) (e : sy_L) : Bool := match sy_lo R e with
  | some z => decide (0 ≤ z)
  | none => false
def sy_ps (R : sy_T) (cs : List sy_L) : Nat → sy_L → Bool
  | 0, e => sy_l0 R e
  | n + 1, e => sy_l0 R e || (sy_ngs R e.2).any (fun t => cs.any (fun c => decide (0 < sy_cof t.1 c.2 * t.2) && (sy_ps R cs n (sy_sub e (sy_scl ((max 1 (t.2.natAbs / (sy_cof t.1 c.2).natAbs) : Nat) : Int) c)) || (decide (2 ≤ t.2.natAbs / (sy_cof t.1 c.2).natAbs) && sy_ps R cs n (sy_sub e c)))))
/-- surely below 0: no search -/
def sy_hng (R : sy_T) (e : sy_L) : Bool := match sy_hi R e with
  | some z => decide (z < 0)
  | none => false
def sy_mxc (cs : List sy_L) (k : Nat) : Bool := cs.any (fun c => c.2.any (fun t => Nat.ble k t.2.natAbs))
def sy_pos (R : sy_T) (cs : List sy_L) (e : sy_L) : Bool := !sy_hng R e && (if 8 ≤ cs.length then sy_ps R cs 3 e || (sy_mxc cs 2 && (sy_ps R cs 3 (sy_add (sy_add e e) (sy_c 1)) || (sy_mxc cs 9 && sy_ps R cs 3 (sy_add (sy_scl 16 e) (sy_c 15))))) else sy_ps R cs 5 e || (sy_mxc cs 2 && sy_ps R cs 3 (sy_add (sy_add e e) (sy_c 1))))
def sy_cok (ρ : Nat → Int) (cs : List sy_L) : Prop := ∀ c ∈ cs, 0 ≤ sy_e ρ c
theorem sy_l0_e {ρ : Nat → Int} {R : sy_T} (h : sy_ok ρ R) {e : sy_L} (hp : sy_l0 R e = true) : 0 ≤ sy_e ρ e := by
  unfold sy_l0 at hp
  split at hp
  · rename_i z hz
    exact Int.le_trans (of_decide_eq_true hp) (sy_lo_e h hz)
  · cases hp
theorem sy_ps_e {ρ : Nat → Int} {R : sy_T} {cs : List sy_L} (h : sy_ok ρ R) (hc : sy_cok ρ cs) : ∀ (n : Nat) {e : sy_L}, sy_ps R cs n e = true → 0 ≤ sy_e ρ e
  | 0, e, hp => sy_l0_e h hp
  | n + 1, e, hp => by
    unfold sy_ps at hp
    rw [Bool.or_eq_true] at hp
    rcases hp with hp | hp
    · exact sy_l0_e h hp
    · obtain ⟨t, -, ht⟩ := List.any_eq_true.mp hp
      obtain ⟨c, h1, h2⟩ := List.any_eq_true.mp ht
      rw [Bool.and_eq_true, Bool.or_eq_true, Bool.and_eq_true] at h2
      rcases h2.2 with h2 | h2
      · have h3 := sy_ps_e h hc n h2
        rw [sy_sub_e, sy_scl_e] at h3
        have h4 := Int.mul_nonneg (Int.natCast_nonneg (max 1 (t.2.natAbs / (sy_cof t.1 c.2).natAbs))) (hc c h1)
        omega
      · have h3 := sy_ps_e h hc n h2.2
        rw [sy_sub_e] at h3
        have := hc c h1
        omega
theorem sy_pos_e {ρ : Nat → Int} {R : sy_T} {cs : List sy_L} (h : sy_ok ρ R) (hc : sy_cok ρ cs) {e : sy_L} (hp : sy_pos R cs e = true) : 0 ≤ sy_e ρ e := by
  unfold sy_pos at hp
  rw [Bool.and_eq_true] at hp
  replace hp := hp.2
  have two : sy_ps R cs 3 (sy_add (sy_add e e) (sy_c 1)) = true → 0 ≤ sy_e ρ e := fun hp => by
    have := sy_ps_e h hc 3 hp
    rw [sy_add_e, sy_add_e, sy_c_e] at this
    omega
  split at hp
  · rw [Bool.or_eq_true, Bool.and_eq_true, Bool.or_eq_true, Bool.and_eq_true] at hp
    rcases hp with hp | ⟨-, hp | ⟨-, hp⟩⟩
    · exact sy_ps_e h hc 3 hp
    · exact two hp
    · have := sy_ps_e h hc 3 hp
      rw [sy_add_e, sy_scl_e, sy_c_e] at this
      omega
  · rw [Bool.or_eq_true, Bool.and_eq_true] at hp
    rcases hp with hp | ⟨-, hp⟩
    · exact sy_ps_e h hc 5 hp
    · exact two hp
/-! values -/
abbrev sy_A : Type := sy_L ⊕ (Nat ⊕ Nat)
def sy_v (ρ : Nat → Int) (τ : Nat → Int64) (a : sy_A) : Value := match a with
  | .inl e => .int (Int32.ofInt (sy_e ρ e))
  | .inr (.inl k) => .ref k
  | .inr (.inr s) => .long (τ s)
theorem sy_v_i (ρ : Nat → Int) (τ : Nat → Int64) (e : sy_L) : sy_v ρ τ (.inl e) = .int (Int32.ofInt (sy_e ρ e)) := rfl
/-- a form's value as an int of the machine, where its range fits -/
def sy_fit (q : Int × Int) : Bool := decide (-2147483648 ≤ q.1) && decide (q.2 ≤ 2147483647)
theorem sy_fit_e {z : Int} {q : Int × Int} (hf : sy_fit q = true) (h1 : q.1 ≤ z) (h2 : z ≤ q.2) : (Int32.ofInt z).toInt = z := by
  unfold sy_fit at hf
  simp only [Bool.and_eq_true, decide_eq_true_eq] at hf
  exact Int32.toInt_ofInt_of_le (by omega) (by omega)
theorem sy_int_bounds (x : Int32) : -2147483648 ≤ x.toInt ∧ x.toInt ≤ 2147483647 := by
  have h1 := Int32.toInt_lt x
  have h2 := Int32.le_toInt x
  omega

end
