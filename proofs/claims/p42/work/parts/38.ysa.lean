noncomputable section
/-! A RUN: the best of all ways; a way is a number with four for its base, the first LEG highest -/
abbrev er_B : Type := Option (Int × Int × Nat)
def er_ls (b : er_B) (m r : Int) : Bool := match b with
  | none => true
  | some q => decide (r < q.1 ∨ (r = q.1 ∧ m < q.2.1))
theorem er_ls_t {q : Int × Int × Nat} {m r : Int} (h : r < q.1 ∨ (r = q.1 ∧ m < q.2.1)) : er_ls (some q) m r = true := by
  show decide (r < q.1 ∨ (r = q.1 ∧ m < q.2.1)) = true
  exact decide_eq_true h
theorem er_ls_f {q : Int × Int × Nat} {m r : Int} (h : ¬ (r < q.1 ∨ (r = q.1 ∧ m < q.2.1))) : er_ls (some q) m r = false := by
  show decide (r < q.1 ∨ (r = q.1 ∧ m < q.2.1)) = false
  exact decide_eq_false h
def er_up (lim : Int) (b : er_B) (m r : Int) (v : Nat) : er_B := if m ≤ lim ∧ er_ls b m r = true then some (r, m, v) else b
def er_c (Mi Ri : Nat → Nat → Int) (T : Nat → Int → Int → Nat → er_B → er_B) (l : Nat) (m r : Int) (v : Nat) (b : er_B) : Nat → er_B
  | 0 => b
  | j + 1 => T (l + 1) (m + Mi l (j + 1)) (r + Ri l (j + 1)) (4 * v + j) (er_c Mi Ri T l m r v b j)
def er_tr (Mi Ri : Nat → Nat → Int) (lim : Int) : Nat → Nat → Int → Int → Nat → er_B → er_B
  | 0 => fun _ m r v b => er_up lim b m r v
  | k + 1 => fun l m r v b => er_c Mi Ri (er_tr Mi Ri lim k) l m r v b 4
section ER1
variable {Mi Ri : Nat → Nat → Int} {lim : Int} {N : Nat} {Fe Le : Nat → Int}
/-- too late: none of these ways counts -/
theorem er_no1 (h0 : Fe N = 0) (hF : ∀ l s, l < N → 1 ≤ s → s ≤ 4 → Fe l ≤ Fe (l + 1) + Mi l s) : ∀ (k l : Nat) (m r : Int) (v : Nat) (b : er_B), l + k = N → lim < m + Fe l → er_tr Mi Ri lim k l m r v b = b := by
  intro k
  induction k with
  | zero =>
    intro l m r v b hl h
    have e : l = N := by omega
    rw [e, h0] at h
    show er_up lim b m r v = b
    unfold er_up
    rw [if_neg (fun q => absurd q.1 (by omega))]
  | succ k ihk =>
    intro l m r v b hl h
    have c : ∀ j, j ≤ 4 → er_c Mi Ri (er_tr Mi Ri lim k) l m r v b j = b := by
      intro j
      induction j with
      | zero => intro _; rfl
      | succ j ih =>
        intro hj
        show er_tr Mi Ri lim k (l + 1) (m + Mi l (j + 1)) (r + Ri l (j + 1)) (4 * v + j) (er_c Mi Ri (er_tr Mi Ri lim k) l m r v b j) = b
        rw [ih (by omega)]
        have h2 := hF l (j + 1) (by omega) (by omega) (by omega)
        exact ihk (l + 1) _ _ _ _ (by omega) (by omega)
    exact c 4 (Nat.le_refl _)
/-- no better: none of these ways counts -/
theorem er_no2 (h0 : Fe N = 0) (h1 : Le N = 0) (hF : ∀ l s, l < N → 1 ≤ s → s ≤ 4 → Fe l ≤ Fe (l + 1) + Mi l s) (hL : ∀ l s, l < N → 1 ≤ s → s ≤ 4 → Le l ≤ Le (l + 1) + Ri l s) : ∀ (k l : Nat) (m r : Int) (v : Nat) (q : Int × Int × Nat), l + k = N → (q.1 < r + Le l ∨ (q.1 = r + Le l ∧ q.2.1 ≤ m + Fe l)) → er_tr Mi Ri lim k l m r v (some q) = some q := by
  intro k
  induction k with
  | zero =>
    intro l m r v q hl h
    have e : l = N := by omega
    rw [e, h0, h1] at h
    show er_up lim (some q) m r v = some q
    unfold er_up
    rw [if_neg (fun z => by
      have z2 : r < q.1 ∨ (r = q.1 ∧ m < q.2.1) := of_decide_eq_true z.2
      omega)]
  | succ k ihk =>
    intro l m r v q hl h
    have c : ∀ j, j ≤ 4 → er_c Mi Ri (er_tr Mi Ri lim k) l m r v (some q) j = some q := by
      intro j
      induction j with
      | zero => intro _; rfl
      | succ j ih =>
        intro hj
        show er_tr Mi Ri lim k (l + 1) (m + Mi l (j + 1)) (r + Ri l (j + 1)) (4 * v + j) (er_c Mi Ri (er_tr Mi Ri lim k) l m r v (some q) j) = some q
        rw [ih (by omega)]
        have h2 := hF l (j + 1) (by omega) (by omega) (by omega)
        have h3 := hL l (j + 1) (by omega) (by omega) (by omega)
        exact ihk (l + 1) _ _ _ _ (by omega) (by omega)
    exact c 4 (Nat.le_refl _)
end ER1
def er_fo (f : Nat → er_B → er_B) (a : Nat) : Nat → er_B → er_B
  | 0, b => b
  | c + 1, b => f (a + c) (er_fo f a c b)
theorem er_fo_add {f : Nat → er_B → er_B} {a c : Nat} {b : er_B} : ∀ d, er_fo f a (c + d) b = er_fo f (a + c) d (er_fo f a c b)
  | 0 => rfl
  | d + 1 => by
    show f (a + (c + d)) (er_fo f a (c + d) b) = f (a + c + d) (er_fo f (a + c) d (er_fo f a c b))
    rw [er_fo_add d, Nat.add_assoc]
def er_s (M : Nat → Nat → Int) : Nat → Nat → Int
  | 0, _ => 0
  | l + 1, v => er_s M l (v / 4) + M l (v % 4 + 1)
def er_f (Mi Ri : Nat → Nat → Int) (lim : Int) (N x : Nat) (b : er_B) : er_B := er_up lim b (er_s Mi N x) (er_s Ri N x) x
theorem er_s_4 {M : Nat → Nat → Int} {l v j : Nat} (hj : j < 4) : er_s M (l + 1) (4 * v + j) = er_s M l v + M l (j + 1) := by
  show er_s M l ((4 * v + j) / 4) + M l ((4 * v + j) % 4 + 1) = _
  have e1 : (4 * v + j) / 4 = v := by omega
  have e2 : (4 * v + j) % 4 = j := by omega
  rw [e1, e2]
theorem er_tr_fo {Mi Ri : Nat → Nat → Int} {lim : Int} : ∀ (k l v : Nat) (b : er_B), er_tr Mi Ri lim k l (er_s Mi l v) (er_s Ri l v) v b = er_fo (er_f Mi Ri lim (l + k)) (v * 4 ^ k) (4 ^ k) b := by
  intro k
  induction k with
  | zero =>
    intro l v b
    rw [Nat.pow_zero, Nat.mul_one]
    rfl
  | succ k ihk =>
    intro l v b
    have c : ∀ j, j ≤ 4 → er_c Mi Ri (er_tr Mi Ri lim k) l (er_s Mi l v) (er_s Ri l v) v b j = er_fo (er_f Mi Ri lim (l + (k + 1))) (v * 4 ^ (k + 1)) (j * 4 ^ k) b := by
      intro j
      induction j with
      | zero =>
        intro _
        rw [Nat.zero_mul]
        rfl
      | succ j ih =>
        intro hj
        show er_tr Mi Ri lim k (l + 1) (er_s Mi l v + Mi l (j + 1)) (er_s Ri l v + Ri l (j + 1)) (4 * v + j) (er_c Mi Ri (er_tr Mi Ri lim k) l (er_s Mi l v) (er_s Ri l v) v b j) = _
        rw [ih (by omega), ← er_s_4 (M := Mi) (l := l) (v := v) (j := j) (by omega), ← er_s_4 (M := Ri) (l := l) (v := v) (j := j) (by omega), ihk (l + 1) (4 * v + j)]
        have e3 : l + 1 + k = l + (k + 1) := by omega
        have e4 : (4 * v + j) * 4 ^ k = v * 4 ^ (k + 1) + j * 4 ^ k := by
          rw [Nat.add_mul, Nat.pow_succ, Nat.mul_comm 4 v, Nat.mul_assoc, Nat.mul_comm 4 (4 ^ k)]
        have e5 : (j + 1) * 4 ^ k = j * 4 ^ k + 4 ^ k := Nat.succ_mul j (4 ^ k)
        rw [e3, e4, e5, er_fo_add]
    have e6 : 4 ^ (k + 1) = 4 * 4 ^ k := by rw [Nat.pow_succ, Nat.mul_comm]
    have h := c 4 (Nat.le_refl _)
    rw [← e6] at h
    exact h
theorem er_all {Mi Ri : Nat → Nat → Int} {lim : Int} {N : Nat} {b : er_B} : er_tr Mi Ri lim N 0 0 0 0 b = er_fo (er_f Mi Ri lim N) 0 (4 ^ N) b := by
  have h := er_tr_fo (Mi := Mi) (Ri := Ri) (lim := lim) N 0 0 b
  rw [Nat.zero_add, Nat.zero_mul] at h
  exact h
/-- the speed on a LEG -/
def er_dg (N v j : Nat) : Int := ((v / 4 ^ (N - 1 - j) % 4 + 1 : Nat) : Int)
theorem er_dg_lt {l v j i : Nat} (hi : i < l) (hj : j < 4) : er_dg (l + 1) (4 * v + j) i = er_dg l v i := by
  unfold er_dg
  have e : l + 1 - 1 - i = l - 1 - i + 1 := by omega
  have e1 : (4 * v + j) / 4 = v := by omega
  rw [e, Nat.pow_succ, Nat.mul_comm (4 ^ (l - 1 - i)) 4, ← Nat.div_div_eq_div_mul, e1]
theorem er_dg_eq {l v j : Nat} (hj : j < 4) : er_dg (l + 1) (4 * v + j) l = (j : Int) + 1 := by
  unfold er_dg
  have e : l + 1 - 1 - l = 0 := by omega
  rw [e, Nat.pow_zero, Nat.div_one]
  omega
def er_Mi (mi : Nat → Int) (l s : Nat) : Int := (12 * mi l + (s : Int) - 1) / (s : Int)
def er_Ri (mi ic : Nat → Int) (l s : Nat) : Int := ic l * mi l * (s : Int) * (s : Int)
theorem er_s14 {s : Nat} (h1 : 1 ≤ s) (h2 : s ≤ 4) : s = 1 ∨ s = 2 ∨ s = 3 ∨ s = 4 := by omega
theorem er_Mi_in {mi : Nat → Int} {l s : Nat} (h1 : 1 ≤ s) (h2 : s ≤ 4) (h3 : 1 ≤ mi l) (h4 : mi l ≤ 99) : 0 ≤ er_Mi mi l s ∧ er_Mi mi l s ≤ 1188 ∧ er_Mi mi l 4 ≤ er_Mi mi l s := by
  have q1 : er_Mi mi l 1 = 12 * mi l := by
    show (12 * mi l + 1 - 1) / 1 = 12 * mi l
    omega
  have q2 : er_Mi mi l 2 = 6 * mi l := by
    show (12 * mi l + 2 - 1) / 2 = 6 * mi l
    omega
  have q3 : er_Mi mi l 3 = 4 * mi l := by
    show (12 * mi l + 3 - 1) / 3 = 4 * mi l
    omega
  have q4 : er_Mi mi l 4 = 3 * mi l := by
    show (12 * mi l + 4 - 1) / 4 = 3 * mi l
    omega
  rcases er_s14 h1 h2 with rfl | rfl | rfl | rfl <;> omega
theorem er_q_in {mi ic : Nat → Int} {l : Nat} (h3 : 1 ≤ mi l) (h4 : mi l ≤ 99) (h5 : 0 ≤ ic l) (h6 : ic l ≤ 9) : 0 ≤ ic l * mi l ∧ ic l * mi l ≤ 891 := by
  have a := Int.mul_nonneg h5 (by omega : 0 ≤ mi l)
  have b := Int.mul_le_mul h6 h4 (by omega : 0 ≤ mi l) (by omega : (0 : Int) ≤ 9)
  omega
theorem er_Ri_in {mi ic : Nat → Int} {l s : Nat} (h1 : 1 ≤ s) (h2 : s ≤ 4) (h3 : 1 ≤ mi l) (h4 : mi l ≤ 99) (h5 : 0 ≤ ic l) (h6 : ic l ≤ 9) : 0 ≤ er_Ri mi ic l s ∧ er_Ri mi ic l s ≤ 14256 ∧ er_Ri mi ic l 1 ≤ er_Ri mi ic l s := by
  obtain ⟨a, b⟩ := er_q_in h3 h4 h5 h6
  have q1 : er_Ri mi ic l 1 = ic l * mi l := by
    show ic l * mi l * 1 * 1 = ic l * mi l
    omega
  have q2 : er_Ri mi ic l 2 = 4 * (ic l * mi l) := by
    show ic l * mi l * 2 * 2 = 4 * (ic l * mi l)
    omega
  have q3 : er_Ri mi ic l 3 = 9 * (ic l * mi l) := by
    show ic l * mi l * 3 * 3 = 9 * (ic l * mi l)
    omega
  have q4 : er_Ri mi ic l 4 = 16 * (ic l * mi l) := by
    show ic l * mi l * 4 * 4 = 16 * (ic l * mi l)
    omega
  rcases er_s14 h1 h2 with rfl | rfl | rfl | rfl <;> omega
/-- of a LEG and all behind it -/
def er_sf (M : Nat → Int) : Nat → Nat → Int
  | 0, _ => 0
  | k + 1, l => er_sf M k (l + 1) + M l
theorem er_sf_in {M : Nat → Int} {u : Int} (hu : 0 ≤ u) : ∀ (k l : Nat), (∀ i, l ≤ i → i < l + k → 0 ≤ M i ∧ M i ≤ u) → 0 ≤ er_sf M k l ∧ er_sf M k l ≤ u * (k : Int)
  | 0, _, _ => ⟨Int.le_refl _, by show (0 : Int) ≤ u * 0; omega⟩
  | k + 1, l, h => by
    obtain ⟨a, b⟩ := er_sf_in hu k (l + 1) (fun i h1 h2 => h i (by omega) (by omega))
    obtain ⟨c, d⟩ := h l (Nat.le_refl _) (by omega)
    have e : u * ((k + 1 : Nat) : Int) = u * (k : Int) + u := by
      rw [Int.natCast_add, Int.mul_add]
      show u * (k : Int) + u * 1 = _
      rw [Int.mul_one]
    show 0 ≤ er_sf M k (l + 1) + M l ∧ er_sf M k (l + 1) + M l ≤ u * ((k + 1 : Nat) : Int)
    rw [e]
    omega
theorem er_sf_st {M : Nat → Int} {N i : Nat} (h : i < N) : er_sf M (N - i) i = er_sf M (N - (i + 1)) (i + 1) + M i := by
  have e : N - i = N - (i + 1) + 1 := by omega
  rw [e]
  rfl

end
