noncomputable section
/-! RULES: the grammar, over codes C and values V of tokens; H: is the SHIP's call heard; M: the three named numbers -/
abbrev er_R : Type := Nat × Option (List Int × Bool)
def er_nt (C : Nat → Int) : Nat → Nat → Nat
  | 0, j => j
  | f + 1, j => if C j = 322 then er_nt C f (j + 1) else j
def er_sg (s x y : Int) : Bool := if s = 60 then decide (x < y) else if s = 61 then decide (x = y) else decide (y < x)
def er_ts (C V : Nat → Int) (H : Bool) (M : Nat → Int) (j : Nat) : er_R :=
  if C j = 323 then (j + 1, some ([0], H))
  else if 324 ≤ C j ∧ C j ≤ 326 then
    (if 60 ≤ C (j + 1) ∧ C (j + 1) ≤ 62 then
      (if C (j + 2) = 301 ∧ 0 ≤ V (j + 2) then (j + 3, some ([C j - 323 + 8 * (C (j + 1) - 60) + 32 * V (j + 2)], er_sg (C (j + 1)) (M (C j - 324).toNat) (V (j + 2)))) else (j + 2, none))
    else (j + 1, none))
  else (j, none)
def er_in (C : Nat → Int) (g : Option (Nat → er_R)) (k : Nat) : er_R := match g with
  | none => (k, none)
  | some g => match g (k + 1) with
    | (a, none) => (a, none)
    | (a, some s) => if C a = 41 then (a + 1, some s) else (a, none)
def er_on (C V : Nat → Int) (H : Bool) (M : Nat → Int) (g : Option (Nat → er_R)) (j : Nat) : er_R :=
  match (if C (er_nt C 200 j) = 40 then er_in C g (er_nt C 200 j) else er_ts C V H M (er_nt C 200 j)) with
  | (a, none) => (a, none)
  | (a, some s) => if (er_nt C 200 j - j) % 2 = 1 then (a, some (s.1 ++ [6], !s.2)) else (a, some s)
def er_lp (C : Nat → Int) (one : Nat → er_R) (code step : Int) (op : Bool → Bool → Bool) : Nat → Nat → List Int → Bool → er_R
  | 0, j, s, b => (j, some (s, b))
  | f + 1, j, s, b => if C j = code then (match one (j + 1) with
    | (a, none) => (a, none)
    | (a, some q) => er_lp C one code step op f a (s ++ q.1 ++ [step]) (op b q.2)) else (j, some (s, b))
def er_al (C V : Nat → Int) (H : Bool) (M : Nat → Int) (g : Option (Nat → er_R)) (j : Nat) : er_R := match er_on C V H M g j with
  | (a, none) => (a, none)
  | (a, some q) => er_lp C (er_on C V H M g) 321 4 and 200 a q.1 q.2
def er_co2 (C V : Nat → Int) (H : Bool) (M : Nat → Int) (g : Option (Nat → er_R)) (j : Nat) : er_R := match er_al C V H M g j with
  | (a, none) => (a, none)
  | (a, some q) => er_lp C (er_al C V H M g) 320 5 or 200 a q.1 q.2
/-- a condition with so many '(' still allowed -/
def er_cd (C V : Nat → Int) (H : Bool) (M : Nat → Int) : Nat → Nat → er_R
  | 0 => er_co2 C V H M none
  | l + 1 => er_co2 C V H M (some (er_cd C V H M l))
/-- how far it went, over tokens that are not END -/
def er_ov (C : Nat → Int) (j k : Nat) : Prop := j ≤ k ∧ ∀ m, j ≤ m → m < k → C m ≠ 300
theorem er_ov_r {C : Nat → Int} {j : Nat} : er_ov C j j := ⟨Nat.le_refl _, fun m h1 h2 => by omega⟩
theorem er_ov_t {C : Nat → Int} {i j k : Nat} (h1 : er_ov C i j) (h2 : er_ov C j k) : er_ov C i k := by
  refine ⟨Nat.le_trans h1.1 h2.1, fun m a b => ?_⟩
  by_cases q : m < j
  · exact h1.2 m a q
  · exact h2.2 m (by omega) b
theorem er_ov_1 {C : Nat → Int} {j : Nat} (h : C j ≠ 300) : er_ov C j (j + 1) := ⟨Nat.le_succ _, fun m h1 h2 => by
  have e : m = j := by omega
  rw [e]
  exact h⟩
theorem er_nt_ov {C : Nat → Int} : ∀ (f j : Nat), er_ov C j (er_nt C f j)
  | 0, j => er_ov_r
  | f + 1, j => by
    show er_ov C j (if C j = 322 then er_nt C f (j + 1) else j)
    by_cases q : C j = 322
    · rw [if_pos q]
      exact er_ov_t (er_ov_1 (by omega)) (er_nt_ov f (j + 1))
    · rw [if_neg q]
      exact er_ov_r
theorem er_ts_ov {C V : Nat → Int} {H : Bool} {M : Nat → Int} {j : Nat} : er_ov C j (er_ts C V H M j).1 := by
  unfold er_ts
  by_cases q1 : C j = 323
  · rw [if_pos q1]
    exact er_ov_1 (by omega)
  · rw [if_neg q1]
    by_cases q2 : 324 ≤ C j ∧ C j ≤ 326
    · rw [if_pos q2]
      by_cases q3 : 60 ≤ C (j + 1) ∧ C (j + 1) ≤ 62
      · rw [if_pos q3]
        by_cases q4 : C (j + 2) = 301 ∧ 0 ≤ V (j + 2)
        · rw [if_pos q4]
          exact er_ov_t (er_ov_1 (by omega)) (er_ov_t (er_ov_1 (j := j + 1) (by omega)) (er_ov_1 (j := j + 2) (by omega)))
        · rw [if_neg q4]
          exact er_ov_t (er_ov_1 (by omega)) (er_ov_1 (j := j + 1) (by omega))
      · rw [if_neg q3]
        exact er_ov_1 (by omega)
    · rw [if_neg q2]
      exact er_ov_r
theorem er_in_ov {C : Nat → Int} {g : Option (Nat → er_R)} {k : Nat} (hk : C k = 40) (hg : ∀ f, g = some f → ∀ j, er_ov C j (f j).1) : er_ov C k (er_in C g k).1 := by
  unfold er_in
  cases g with
  | none => exact er_ov_r
  | some f =>
    have h := hg f rfl (k + 1)
    dsimp only
    cases e : f (k + 1) with
    | mk a s =>
      rw [e] at h
      have h1 : er_ov C k a := er_ov_t (er_ov_1 (by omega)) h
      cases s with
      | none => exact h1
      | some s =>
        dsimp only
        by_cases q : C a = 41
        · rw [if_pos q]
          exact er_ov_t h1 (er_ov_1 (by omega))
        · rw [if_neg q]
          exact h1
theorem er_on_ov {C V : Nat → Int} {H : Bool} {M : Nat → Int} {g : Option (Nat → er_R)} (hg : ∀ f, g = some f → ∀ j, er_ov C j (f j).1) (j : Nat) : er_ov C j (er_on C V H M g j).1 := by
  have h0 := er_nt_ov (C := C) 200 j
  have h1 : er_ov C (er_nt C 200 j) (if C (er_nt C 200 j) = 40 then er_in C g (er_nt C 200 j) else er_ts C V H M (er_nt C 200 j)).1 := by
    by_cases q : C (er_nt C 200 j) = 40
    · rw [if_pos q]
      exact er_in_ov q hg
    · rw [if_neg q]
      exact er_ts_ov
  unfold er_on
  cases e : (if C (er_nt C 200 j) = 40 then er_in C g (er_nt C 200 j) else er_ts C V H M (er_nt C 200 j)) with
  | mk a s =>
    rw [e] at h1
    have h2 : er_ov C j a := er_ov_t h0 h1
    cases s with
    | none => exact h2
    | some s =>
      dsimp only
      split
      · exact h2
      · exact h2
theorem er_lp_ov {C : Nat → Int} {one : Nat → er_R} {code step : Int} {op : Bool → Bool → Bool} (hc : code ≠ 300) (h1 : ∀ j, er_ov C j (one j).1) : ∀ (f j : Nat) (s : List Int) (b : Bool), er_ov C j (er_lp C one code step op f j s b).1
  | 0, j, _, _ => er_ov_r
  | f + 1, j, s, b => by
    show er_ov C j (if C j = code then (match one (j + 1) with
      | (a, none) => (a, none)
      | (a, some q) => er_lp C one code step op f a (s ++ q.1 ++ [step]) (op b q.2)) else (j, some (s, b))).1
    by_cases q : C j = code
    · rw [if_pos q]
      have h2 : er_ov C j (j + 1) := er_ov_1 (by rw [q]; exact hc)
      have h3 := h1 (j + 1)
      cases e : one (j + 1) with
      | mk a r =>
        rw [e] at h3
        cases r with
        | none => exact er_ov_t h2 h3
        | some r => exact er_ov_t (er_ov_t h2 h3) (er_lp_ov hc h1 f a _ _)
    · rw [if_neg q]
      exact er_ov_r
theorem er_al_ov {C V : Nat → Int} {H : Bool} {M : Nat → Int} {g : Option (Nat → er_R)} (hg : ∀ f, g = some f → ∀ j, er_ov C j (f j).1) (j : Nat) : er_ov C j (er_al C V H M g j).1 := by
  have h := er_on_ov (V := V) (H := H) (M := M) hg j
  unfold er_al
  cases e : er_on C V H M g j with
  | mk a s =>
    rw [e] at h
    cases s with
    | none => exact h
    | some s => exact er_ov_t h (er_lp_ov (by decide) (er_on_ov hg) 200 a _ _)
theorem er_co2_ov {C V : Nat → Int} {H : Bool} {M : Nat → Int} {g : Option (Nat → er_R)} (hg : ∀ f, g = some f → ∀ j, er_ov C j (f j).1) (j : Nat) : er_ov C j (er_co2 C V H M g j).1 := by
  have h := er_al_ov (V := V) (H := H) (M := M) hg j
  unfold er_co2
  cases e : er_al C V H M g j with
  | mk a s =>
    rw [e] at h
    cases s with
    | none => exact h
    | some s => exact er_ov_t h (er_lp_ov (by decide) (er_al_ov hg) 200 a _ _)
theorem er_cd_ov {C V : Nat → Int} {H : Bool} {M : Nat → Int} : ∀ (l j : Nat), er_ov C j (er_cd C V H M l j).1
  | 0, j => er_co2_ov (fun f hf => by cases hf) j
  | l + 1, j => er_co2_ov (fun f hf => by
    injection hf with hf
    rw [← hf]
    exact fun j => er_cd_ov l j) j
/-! LINES -/
/-- KINDS in their order: their ranks as one number -/
def er_fi (C : Nat → Int) : Nat → Int → Nat → Int → Nat → Nat × Option Int
  | 0, _, _, rk, j => (j, some rk)
  | f + 1, pl, had, rk, j => if (330 ≤ C j ∧ C j ≤ 332) ∧ Nat.testBit had (C j - 330).toNat = false then
      (if C (j + 1) = 313 then er_fi C f (pl + 1) (had ||| 2 ^ (C j - 330).toNat) (rk - (9 - pl) * (if C j = 330 then 1 else if C j = 331 then 10 else 100)) (j + 2) else (j + 1, some (rk - (9 - pl) * (if C j = 330 then 1 else if C j = 331 then 10 else 100))))
    else (j, none)
/-- a line: its sort, two numbers (of come: its steps from, to), steps, and whether it bids to come -/
abbrev er_L : Type := Int × Int × Int × List Int × Bool
def er_li (C V : Nat → Int) (H : Bool) (M : Nat → Int) (n0 : Nat) (j : Nat) : Nat × Option er_L :=
  if C j = 310 then
    (if C (j + 1) = 301 ∧ 0 ≤ V (j + 1) then (if C (j + 2) = 311 then (if C (j + 3) = 301 ∧ 1 ≤ V (j + 3) then (if C (j + 4) = 59 then (j + 5, some (0, V (j + 1), V (j + 3), [], false)) else (j + 4, none)) else (j + 3, none)) else (j + 2, none)) else (j + 1, none))
  else if C j = 312 then
    (match er_fi C 4 0 0 999 (j + 1) with
    | (a, none) => (a, none)
    | (a, some rk) => if C a = 59 then (a + 1, some (1, rk, 0, [], false)) else (a, none))
  else if C j = 314 then
    (if C (j + 1) = 315 then (match er_cd C V H M 4 (j + 2) with
      | (a, none) => (a, none)
      | (a, some q) => if C a = 59 then (a + 1, some (2, (n0 : Int), ((n0 + q.1.length : Nat) : Int), q.1, q.2)) else (a, none)) else (j + 1, none))
  else (j, none)
/-- the whole TEXT: lines so far, all steps so far; a FAULT is the place of a token -/
def er_rd (C V : Nat → Int) (H : Bool) (M : Nat → Int) : Nat → Nat → List er_L → List Int → Nat × Option (List er_L × List Int)
  | 0, j, ls, ss => if C j = 300 then (j, some (ls, ss)) else (j, none)
  | f + 1, j, ls, ss => if C j = 300 then (j, some (ls, ss)) else (match er_li C V H M ss.length j with
    | (a, none) => (a, none)
    | (a, some q) => er_rd C V H M f a (ls ++ [q]) (ss ++ q.2.2.2.1))
theorem er_fi_ov {C : Nat → Int} : ∀ (f : Nat) (pl : Int) (had : Nat) (rk : Int) (j : Nat), er_ov C j (er_fi C f pl had rk j).1
  | 0, _, _, _, j => er_ov_r
  | f + 1, pl, had, rk, j => by
    unfold er_fi
    by_cases q : (330 ≤ C j ∧ C j ≤ 332) ∧ Nat.testBit had (C j - 330).toNat = false
    · rw [if_pos q]
      have h1 : er_ov C j (j + 1) := er_ov_1 (by omega)
      by_cases q2 : C (j + 1) = 313
      · rw [if_pos q2]
        exact er_ov_t h1 (er_ov_t (er_ov_1 (j := j + 1) (by omega)) (er_fi_ov f _ _ _ (j + 2)))
      · rw [if_neg q2]
        exact h1
    · rw [if_neg q]
      exact er_ov_r
theorem er_li_ov {C V : Nat → Int} {H : Bool} {M : Nat → Int} {n0 j : Nat} : er_ov C j (er_li C V H M n0 j).1 := by
  have o1 : ∀ {i : Nat}, C i ≠ 300 → er_ov C i (i + 1) := fun h => er_ov_1 h
  unfold er_li
  by_cases q1 : C j = 310
  · rw [if_pos q1]
    have h1 := o1 (i := j) (by omega)
    by_cases q2 : C (j + 1) = 301 ∧ 0 ≤ V (j + 1)
    · rw [if_pos q2]
      have h2 := er_ov_t h1 (o1 (i := j + 1) (by omega))
      by_cases q3 : C (j + 2) = 311
      · rw [if_pos q3]
        have h3 := er_ov_t h2 (o1 (i := j + 2) (by omega))
        by_cases q4 : C (j + 3) = 301 ∧ 1 ≤ V (j + 3)
        · rw [if_pos q4]
          have h4 := er_ov_t h3 (o1 (i := j + 3) (by omega))
          by_cases q5 : C (j + 4) = 59
          · rw [if_pos q5]
            exact er_ov_t h4 (o1 (i := j + 4) (by omega))
          · rw [if_neg q5]
            exact h4
        · rw [if_neg q4]
          exact h3
      · rw [if_neg q3]
        exact h2
    · rw [if_neg q2]
      exact h1
  · rw [if_neg q1]
    by_cases q2 : C j = 312
    · rw [if_pos q2]
      have h1 := er_ov_t (o1 (i := j) (by omega)) (er_fi_ov (C := C) 4 0 0 999 (j + 1))
      cases e : er_fi C 4 0 0 999 (j + 1) with
      | mk a s =>
        rw [e] at h1
        cases s with
        | none => exact h1
        | some s =>
          dsimp only
          by_cases q3 : C a = 59
          · rw [if_pos q3]
            exact er_ov_t h1 (o1 (i := a) (by omega))
          · rw [if_neg q3]
            exact h1
    · rw [if_neg q2]
      by_cases q3 : C j = 314
      · rw [if_pos q3]
        have h1 := o1 (i := j) (by omega)
        by_cases q4 : C (j + 1) = 315
        · rw [if_pos q4]
          have h2 := er_ov_t (er_ov_t h1 (o1 (i := j + 1) (by omega))) (er_cd_ov (C := C) (V := V) (H := H) (M := M) 4 (j + 2))
          cases e : er_cd C V H M 4 (j + 2) with
          | mk a s =>
            rw [e] at h2
            cases s with
            | none => exact h2
            | some s =>
              dsimp only
              by_cases q5 : C a = 59
              · rw [if_pos q5]
                exact er_ov_t h2 (o1 (i := a) (by omega))
              · rw [if_neg q5]
                exact h2
        · rw [if_neg q4]
          exact h1
      · rw [if_neg q3]
        exact er_ov_r
/-! what the reference's token tells of the code -/
section ER5
variable {N i : Nat} {t : Nat → Int}
theorem er_co_w (c : i < N) (hL : er_lt (t i) = true) : er_co t N i = er_cc (er_wk (er_bs t i (er_en t N i))) := by
  unfold er_co
  rw [if_pos c, if_pos hL]
theorem er_nLD (h : er_lt (t i) = true) : ¬ er_dg (t i) = true := fun e => by
  have h1 := er_lt_ok.mp h
  have h2 := er_dg_ok.mp e
  omega
theorem er_cc_inj : ∀ a : Nat, a < 17 → ∀ b : Nat, b < 17 → er_cc a = er_cc b → a = b := by decide +kernel
/-- a word -/
theorem er_tk_w (hb : ∀ i, i < N → 0 ≤ t i ∧ t i ≤ 255) {k : Nat} (hk : k < 16) : (er_tk t N i = 2 ∧ er_tt t N i = (k : Int)) ↔ er_co t N i = er_cc k := by
  have kin := er_cc_in k (by omega)
  constructor
  · rintro ⟨h1, h2⟩
    unfold er_tk at h1
    by_cases c : i < N
    · rw [if_pos c] at h1
      by_cases qD : er_dg (t i) = true
      · rw [if_pos qD] at h1
        split at h1
        · exact absurd h1 (by decide)
        · exact absurd h1 (by decide)
      · rw [if_neg qD] at h1
        by_cases qL : er_lt (t i) = true
        · unfold er_tt at h2
          rw [if_neg qD] at h2
          rw [er_co_w c qL]
          have e : er_wk (er_bs t i (er_en t N i)) = k := by omega
          rw [e]
        · rw [if_neg qL] at h1
          have bi := hb i c
          unfold er_sp at h1
          split at h1
          · rename_i z
            simp only [Bool.or_eq_true, decide_eq_true_eq] at z
            omega
          · exact absurd h1 (by decide)
    · rw [if_neg c] at h1
      exact absurd h1 (by decide)
  · intro h
    have c : i < N := by
      by_cases c : i < N
      · exact c
      · unfold er_co at h
        rw [if_neg c] at h
        omega
    have bi := hb i c
    have qL : er_lt (t i) = true := by
      cases q : er_lt (t i) with
      | true => rfl
      | false =>
        unfold er_co at h
        rw [if_pos c, if_neg (by rw [q]; decide)] at h
        split at h
        · omega
        · omega
    have qD := er_nLD qL
    rw [er_co_w c qL] at h
    have e := er_cc_inj _ (er_wk_lt _) k (by omega) h
    unfold er_tk er_tt
    rw [if_pos c, if_neg qD, if_pos qL, if_neg qD, e, if_pos hk]
    exact ⟨rfl, rfl⟩
/-- a sign -/
theorem er_tk_s (hb : ∀ i, i < N → 0 ≤ t i ∧ t i ≤ 255) {z : Int} (hz : z = 59 ∨ z = 40 ∨ z = 41 ∨ z = 60 ∨ z = 61 ∨ z = 62) : er_tk t N i = z ↔ er_co t N i = z := by
  unfold er_tk er_co
  by_cases c : i < N
  · have bi := hb i c
    rw [if_pos c, if_pos c]
    by_cases qL : er_lt (t i) = true
    · rw [if_neg (er_nLD qL), if_pos qL, if_pos qL]
      have kin := er_cc_in _ (er_wk_lt (er_bs t i (er_en t N i)))
      constructor
      · intro h
        split at h <;> omega
      · intro h
        omega
    · rw [if_neg qL, if_neg qL]
      by_cases qD : er_dg (t i) = true
      · rw [if_pos qD, if_pos qD]
        constructor
        · intro h
          split at h <;> omega
        · intro h
          omega
      · rw [if_neg qD, if_neg qD]
        by_cases qS : er_sp (t i) = true
        · rw [if_pos qS]
        · rw [if_neg qS]
          constructor
          · intro h
            omega
          · intro h
            refine absurd ?_ qS
            unfold er_sp
            simp only [Bool.or_eq_true, decide_eq_true_eq]
            omega
  · rw [if_neg c, if_neg c]
    constructor
    · intro h
      omega
    · intro h
      omega
/-- a NUMBER -/
theorem er_tk_n (hb : ∀ i, i < N → 0 ≤ t i ∧ t i ≤ 255) {z : Int} (hz : 0 ≤ z) : (er_tk t N i = 3 ∧ z ≤ er_tt t N i) ↔ (er_co t N i = 301 ∧ z ≤ er_va t N i) := by
  by_cases c : i < N
  · have bi := hb i c
    by_cases qD : er_dg (t i) = true
    · have qL : ¬ er_lt (t i) = true := fun e => er_nLD e qD
      have e1 : er_tk t N i = if 3 < er_en t N i - i then 1 else 3 := by
        unfold er_tk
        rw [if_pos c, if_pos qD]
      have e2 : er_tt t N i = er_nb t i (er_en t N i - i) := by
        unfold er_tt
        rw [if_pos qD]
      have e3 : er_co t N i = 301 := by
        unfold er_co
        rw [if_pos c, if_neg qL, if_pos qD]
      have e4 : er_va t N i = if 3 < er_en t N i - i then -1 else er_nb t i (er_en t N i - i) := by
        unfold er_va
        rw [if_pos ⟨c, qD⟩]
      rw [e1, e2, e3, e4]
      by_cases q3 : 3 < er_en t N i - i
      · rw [if_pos q3, if_pos q3]
        constructor
        · intro h
          omega
        · intro h
          omega
      · rw [if_neg q3, if_neg q3]
        constructor
        · intro h
          exact ⟨rfl, h.2⟩
        · intro h
          exact ⟨rfl, h.2⟩
    · constructor
      · rintro ⟨h, _⟩
        unfold er_tk er_sp at h
        rw [if_pos c, if_neg qD] at h
        split at h
        · split at h <;> exact absurd h (by decide)
        · split at h
          · rename_i z2
            simp only [Bool.or_eq_true, decide_eq_true_eq] at z2
            omega
          · exact absurd h (by decide)
      · rintro ⟨h, _⟩
        unfold er_co at h
        rw [if_pos c] at h
        have kin := er_cc_in _ (er_wk_lt (er_bs t i (er_en t N i)))
        split at h
        · omega
        · first
          | omega
          | (rw [if_neg qD] at h; omega)
  · constructor
    · rintro ⟨h, _⟩
      unfold er_tk at h
      rw [if_neg c] at h
      exact absurd h (by decide)
    · rintro ⟨h, _⟩
      unfold er_co at h
      rw [if_neg c] at h
      exact absurd h (by decide)
theorem er_tt_n (h : er_tk t N i = 3) (c : i < N) (qD : er_dg (t i) = true) : er_tt t N i = er_va t N i := by
  unfold er_tk at h
  unfold er_tt er_va
  rw [if_pos c, if_pos qD] at h
  rw [if_pos qD, if_pos ⟨c, qD⟩]
  by_cases q3 : 3 < er_en t N i - i
  · rw [if_pos q3] at h
    exact absurd h (by decide)
  · rw [if_neg q3]
/-- END -/
theorem er_tk_e (hb : ∀ i, i < N → 0 ≤ t i ∧ t i ≤ 255) : er_tk t N i = 0 ↔ er_co t N i = 300 := by
  rw [er_co_end hb]
  unfold er_tk
  by_cases c : i < N
  · rw [if_pos c]
    constructor
    · intro h
      split at h
      · split at h <;> exact absurd h (by decide)
      · split at h
        · split at h <;> exact absurd h (by decide)
        · unfold er_sp at h
          split at h
          · rename_i z
            simp only [Bool.or_eq_true, decide_eq_true_eq] at z
            omega
          · exact absurd h (by decide)
    · intro h
      omega
  · rw [if_neg c]
    constructor
    · intro _
      omega
    · intro _
      rfl
end ER5

end
