/-! WHAT A BRANCH TELLS -/
/-- e is at least 0 -/
def sy_asm (g : sy_G) (e : sy_L) : Option sy_G := match sy_hi g.1 e with
  | none => some g
  | some h => if h < 0 then none else match e.2 with
    | [] => some g
    | [(i, c)] => (match g.1[i]? with
      | none => some g
      | some r => if 0 < c then some (sy_rng g i (max r.1 (-(e.1 / c)), r.2)) else if c < 0 then some (sy_rng g i (r.1, min r.2 (e.1 / (-c)))) else some g)
    | _ => some (g.1, g.2.1, e :: g.2.2.1, g.2.2.2)
theorem sy_rng_ok {q : sy_Q} {g : sy_G} {ρ : Nat → Int} {τ : Nat → Int64} {w : px_W} (h : sy_mem q g ρ τ w) {i : Nat} {r : Int × Int} (h1 : r.1 ≤ ρ i) (h2 : ρ i ≤ r.2) : sy_mem q (sy_rng g i r) ρ τ w := by
  obtain ⟨⟨m1, m1'⟩, m2, m3, m4, m5, m6⟩ := h
  refine ⟨⟨?_, m1'⟩, fun j p hp => ?_, m3, m4, m5, m6⟩
  · show _ ≤ (g.1.set i r).length
    rw [List.length_set]
    exact m1
  · have hp' : (g.1.set i r)[j]? = some p := hp
    by_cases hj : i = j
    · subst hj
      by_cases hl : i < g.1.length
      · rw [List.getElem?_set_self hl] at hp'
        cases hp'
        exact ⟨h1, h2⟩
      · rw [List.getElem?_eq_none (by rw [List.length_set]; omega)] at hp'
        cases hp'
    · rw [List.getElem?_set_ne hj] at hp'
      exact m2 j p hp'
theorem sy_asm_ok {q : sy_Q} {g : sy_G} {ρ : Nat → Int} {τ : Nat → Int64} {w : px_W} (h : sy_mem q g ρ τ w) {e : sy_L} (he : 0 ≤ sy_e ρ e) : ∃ g', sy_asm g e = some g' ∧ sy_mem q g' ρ τ w := by
  unfold sy_asm
  split
  · exact ⟨_, rfl, h⟩
  · rename_i z hz
    have hz1 := sy_hi_e h.2.1 hz
    rw [if_neg (by omega)]
    split
    · exact ⟨_, rfl, h⟩
    · rename_i i c hc
      have hev : sy_e ρ e = e.1 + c * ρ i := by
        unfold sy_e
        rw [hc]
        simp [sy_s]
      rw [hev] at he
      split
      · exact ⟨_, rfl, h⟩
      · rename_i r hr
        have hr1 := h.2.1 i r hr
        split
        · rename_i h0
          refine ⟨_, rfl, sy_rng_ok h ?_ hr1.2⟩
          show max r.1 (-(e.1 / c)) ≤ ρ i
          have h3 : -(e.1 / c) ≤ ρ i := by
            have h4 : -(ρ i) ≤ e.1 / c := by
              rw [Int.le_ediv_iff_mul_le h0, Int.neg_mul, Int.mul_comm]
              omega
            omega
          omega
        · split
          · rename_i h0
            refine ⟨_, rfl, sy_rng_ok h hr1.1 ?_⟩
            show ρ i ≤ min r.2 (e.1 / (-c))
            have h3 : ρ i ≤ e.1 / (-c) := by
              rw [Int.le_ediv_iff_mul_le (by omega), Int.mul_neg, Int.mul_comm]
              omega
            omega
          · exact ⟨_, rfl, h⟩
    · refine ⟨_, rfl, h.1, h.2.1, fun x hx => ?_, h.2.2.2⟩
      rcases List.mem_cons.mp hx with rfl | hx
      · exact he
      · exact h.2.2.1 x hx
/-- e is not 0 -/
def sy_ane (g : sy_G) (e : sy_L) : Option sy_G := match e.2 with
  | [] => if e.1 = 0 then none else some g
  | [(i, c)] => (match g.1[i]? with
    | none => some g
    | some r => if c = 1 ∨ c = -1 then (if r.1 = -(e.1 * c) then (if r.1 = r.2 then none else some (sy_rng g i (r.1 + 1, r.2))) else if r.2 = -(e.1 * c) then some (sy_rng g i (r.1, r.2 - 1)) else some g) else some g)
  | _ => some g
theorem sy_ane_ok {q : sy_Q} {g : sy_G} {ρ : Nat → Int} {τ : Nat → Int64} {w : px_W} (h : sy_mem q g ρ τ w) {e : sy_L} (he : sy_e ρ e ≠ 0) : ∃ g', sy_ane g e = some g' ∧ sy_mem q g' ρ τ w := by
  unfold sy_ane
  split
  · rename_i hc
    have hev : sy_e ρ e = e.1 := by
      unfold sy_e
      rw [hc]
      simp [sy_s]
    rw [if_neg (by omega)]
    exact ⟨_, rfl, h⟩
  · rename_i i c hc
    have hev : sy_e ρ e = e.1 + c * ρ i := by
      unfold sy_e
      rw [hc]
      simp [sy_s]
    rw [hev] at he
    split
    · exact ⟨_, rfl, h⟩
    · rename_i r hr
      have hr1 := h.2.1 i r hr
      split
      · rename_i hc1
        have hne : ρ i ≠ -(e.1 * c) := by
          rcases hc1 with rfl | rfl <;> omega
        split
        · rename_i hl
          rw [if_neg (by omega)]
          exact ⟨_, rfl, sy_rng_ok h (by show r.1 + 1 ≤ ρ i; omega) hr1.2⟩
        · split
          · exact ⟨_, rfl, sy_rng_ok h hr1.1 (by show ρ i ≤ r.2 - 1; omega)⟩
          · exact ⟨_, rfl, h⟩
      · exact ⟨_, rfl, h⟩
  · exact ⟨_, rfl, h⟩
def sy_asms (g : sy_G) : List sy_L → Option sy_G
  | [] => some g
  | e :: r => (sy_asm g e).bind (fun g => sy_asms g r)
theorem sy_asms_ok {q : sy_Q} {ρ : Nat → Int} {τ : Nat → Int64} {w : px_W} : ∀ {l : List sy_L} {g : sy_G}, sy_mem q g ρ τ w → (∀ e ∈ l, 0 ≤ sy_e ρ e) → ∃ g', sy_asms g l = some g' ∧ sy_mem q g' ρ τ w
  | [], g, h, _ => ⟨g, rfl, h⟩
  | e :: r, g, h, he => by
    obtain ⟨g1, h1, h2⟩ := sy_asm_ok h (he e List.mem_cons_self)
    obtain ⟨g2, h3, h4⟩ := sy_asms_ok h2 (fun x hx => he x (List.mem_cons_of_mem _ hx))
    exact ⟨g2, by show (sy_asm g e).bind _ = _; rw [h1]; exact h3, h4⟩
/-- the two ways of a comparison of forms -/
def sy_cmp (g : sy_G) (k : Jvm.ClassFile.Cond) (x y : sy_L) : Option sy_G × Option sy_G := match k with
  | .eq => (sy_asms g [sy_sub x y, sy_sub y x], sy_ane g (sy_sub x y))
  | .ne => (sy_ane g (sy_sub x y), sy_asms g [sy_sub x y, sy_sub y x])
  | .lt => (sy_asms g [sy_add (sy_sub y x) (sy_c (-1))], sy_asms g [sy_sub x y])
  | .ge => (sy_asms g [sy_sub x y], sy_asms g [sy_add (sy_sub y x) (sy_c (-1))])
  | .gt => (sy_asms g [sy_add (sy_sub x y) (sy_c (-1))], sy_asms g [sy_sub y x])
  | .le => (sy_asms g [sy_sub y x], sy_asms g [sy_add (sy_sub x y) (sy_c (-1))])
def sy_two (g : sy_G) (k : Jvm.ClassFile.Cond) (x y : sy_L) : Option sy_G × Option sy_G := match sy_b g.1 x, sy_b g.1 y with
  | some a, some b => if sy_fit a = true ∧ sy_fit b = true then sy_cmp g k x y else (some g, some g)
  | _, _ => (some g, some g)
theorem sy_two_ok {q : sy_Q} {g : sy_G} {ρ : Nat → Int} {τ : Nat → Int64} {w : px_W} (h : sy_mem q g ρ τ w) (k : Jvm.ClassFile.Cond) (x y : sy_L) : (px_cnd k (Int32.ofInt (sy_e ρ x)) (Int32.ofInt (sy_e ρ y)) = true → ∃ g', (sy_two g k x y).1 = some g' ∧ sy_mem q g' ρ τ w) ∧ (¬ px_cnd k (Int32.ofInt (sy_e ρ x)) (Int32.ofInt (sy_e ρ y)) = true → ∃ g', (sy_two g k x y).2 = some g' ∧ sy_mem q g' ρ τ w) := by
  unfold sy_two
  split
  · rename_i a b ha hb
    split
    · rename_i hf
      obtain ⟨a1, a2⟩ := sy_b_e h.2.1 ha
      obtain ⟨b1, b2⟩ := sy_b_e h.2.1 hb
      have ex := sy_fit_e hf.1 a1 a2
      have ey := sy_fit_e hf.2 b1 b2
      have heq : Int32.ofInt (sy_e ρ x) = Int32.ofInt (sy_e ρ y) ↔ sy_e ρ x = sy_e ρ y := by
        rw [← Int32.toInt_inj, ex, ey]
      have hlt : Int32.ofInt (sy_e ρ x) < Int32.ofInt (sy_e ρ y) ↔ sy_e ρ x < sy_e ρ y := by
        rw [Int32.lt_iff_toInt_lt, ex, ey]
      have hgt : Int32.ofInt (sy_e ρ y) < Int32.ofInt (sy_e ρ x) ↔ sy_e ρ y < sy_e ρ x := by
        rw [Int32.lt_iff_toInt_lt, ex, ey]
      have hle : Int32.ofInt (sy_e ρ x) ≤ Int32.ofInt (sy_e ρ y) ↔ sy_e ρ x ≤ sy_e ρ y := by
        rw [Int32.le_iff_toInt_le, ex, ey]
      have hge : Int32.ofInt (sy_e ρ y) ≤ Int32.ofInt (sy_e ρ x) ↔ sy_e ρ y ≤ sy_e ρ x := by
        rw [Int32.le_iff_toInt_le, ex, ey]
      have s1 := sy_sub_e ρ x y
      have s2 := sy_sub_e ρ y x
      have one : ∀ e : sy_L, 0 ≤ sy_e ρ e → ∃ g', sy_asms g [e] = some g' ∧ sy_mem q g' ρ τ w := fun e he => sy_asms_ok h (fun z hz => by rw [List.mem_singleton.mp hz]; exact he)
      have both : sy_e ρ x = sy_e ρ y → ∃ g', sy_asms g [sy_sub x y, sy_sub y x] = some g' ∧ sy_mem q g' ρ τ w := fun he => sy_asms_ok h (fun z hz => by
        rcases List.mem_cons.mp hz with rfl | hz
        · omega
        · rw [List.mem_singleton.mp hz]; omega)
      have m1 : ∀ e : sy_L, sy_e ρ (sy_add e (sy_c (-1))) = sy_e ρ e - 1 := fun e => by rw [sy_add_e, sy_c_e]; omega
      cases k <;> simp only [px_cnd, decide_eq_true_eq, sy_cmp]
      · exact ⟨fun z => both (heq.mp z), fun z => sy_ane_ok h (by rw [s1]; intro q; exact z (heq.mpr (by omega)))⟩
      · exact ⟨fun z => sy_ane_ok h (by rw [s1]; intro q; exact z (heq.mpr (by omega))), fun z => both (heq.mp (Classical.not_not.mp z))⟩
      · exact ⟨fun z => one _ (by rw [m1, s2]; have := hlt.mp z; omega), fun z => one _ (by rw [s1]; have := mt hlt.mpr z; omega)⟩
      · exact ⟨fun z => one _ (by rw [s1]; have := hge.mp z; omega), fun z => one _ (by rw [m1, s2]; have := mt hge.mpr z; omega)⟩
      · exact ⟨fun z => one _ (by rw [m1, s1]; have := hgt.mp z; omega), fun z => one _ (by rw [s2]; have := mt hgt.mpr z; omega)⟩
      · exact ⟨fun z => one _ (by rw [s2]; have := hle.mp z; omega), fun z => one _ (by rw [m1, s1]; have := mt hle.mpr z; omega)⟩
    · exact ⟨fun _ => ⟨g, rfl, h⟩, fun _ => ⟨g, rfl, h⟩⟩
  · exact ⟨fun _ => ⟨g, rfl, h⟩, fun _ => ⟨g, rfl, h⟩⟩
