noncomputable section
/-! WHAT A BRANCH TELLS -/
/-- a constraint makes the ranges of its symbols smaller -/
def sy_nar (e : sy_L) : List (Nat × Int) → sy_T → sy_T
  | [], R => R
  | t :: r, R => sy_nar e r (match R[t.1]?, sy_hi R (sy_sub e (0, [t])) with
    | some p, some h => if 0 < t.2 then R.set t.1 (max p.1 (-(h / t.2)), p.2) else if t.2 < 0 then R.set t.1 (p.1, min p.2 (h / (-t.2))) else R
    | _, _ => R)
def sy_pro : List sy_L → sy_T → sy_T
  | [], R => R
  | c :: r, R => sy_pro r (sy_nar c c.2 R)
/-- with few constraints, all of them once more -/
def sy_pr8 (cs : List sy_L) (R : sy_T) : sy_T := if 8 ≤ cs.length then R else sy_pro cs R
def sy_con (R : sy_T) (cs : List sy_L) (e : sy_L) : Bool := cs.any (fun c => match sy_hi R (sy_add e c) with
  | some z => decide (z < 0)
  | none => false)
/-- e is at least 0 -/
def sy_asm (g : sy_G) (e : sy_L) : Option sy_G := match sy_hi g.1 e with
  | none => some g
  | some h => if h < 0 then none else match e.2 with
    | [] => some g
    | [_] => if sy_con g.1 g.2.2.1 e = true then none else some (sy_pr8 g.2.2.1 (sy_nar e e.2 g.1), g.2)
    | _ => if sy_con g.1 g.2.2.1 e = true then none else some (sy_pr8 g.2.2.1 (sy_nar e e.2 g.1), g.2.1, e :: g.2.2.1, g.2.2.2)
theorem sy_rng_ok {q : sy_Q} {g : sy_G} {ρ : Nat → Int} {τ : Nat → Int64} {w : px_W} (h : sy_mem q g ρ τ w) {i : Nat} {r : Int × Int} (h1 : r.1 ≤ ρ i) (h2 : ρ i ≤ r.2) : sy_mem q (sy_rng g i r) ρ τ w := by
  obtain ⟨⟨m1, m1'⟩, m2, m3, m4, m5, m6⟩ := h
  refine ⟨⟨?_, m1'⟩, fun j p hp => ?_, m3, m4, m5, m6⟩
  · show _ ≤ (g.1.set i r).length
    rw [List.length_set]
    exact m1
  · have hp' : (g.1.set i r)[j]? = some p := hp
    by_cases hj : i = j
    · subst hj
      by_cases hl : i < g.1.length
      · rw [List.getElem?_set_self hl] at hp'
        cases hp'
        exact ⟨h1, h2⟩
      · rw [List.getElem?_eq_none (by rw [List.length_set]; omega)] at hp'
        cases hp'
    · rw [List.getElem?_set_ne hj] at hp'
      exact m2 j p hp'
theorem sy_set_ok {ρ : Nat → Int} {R : sy_T} (h : sy_ok ρ R) {i : Nat} {r : Int × Int} (h1 : r.1 ≤ ρ i) (h2 : ρ i ≤ r.2) : sy_ok ρ (R.set i r) := by
  intro j p hp
  by_cases hj : i = j
  · subst hj
    by_cases hl : i < R.length
    · rw [List.getElem?_set_self hl] at hp
      cases hp
      exact ⟨h1, h2⟩
    · rw [List.getElem?_eq_none (by rw [List.length_set]; omega)] at hp
      cases hp
  · rw [List.getElem?_set_ne hj] at hp
    exact h j p hp
theorem sy_nar_ok {ρ : Nat → Int} {e : sy_L} (he : 0 ≤ sy_e ρ e) : ∀ (l : List (Nat × Int)) (R : sy_T), sy_ok ρ R → sy_ok ρ (sy_nar e l R) ∧ (sy_nar e l R).length = R.length
  | [], R, h => ⟨h, rfl⟩
  | t :: r, R, h => by
    unfold sy_nar
    have key : sy_ok ρ (match R[t.1]?, sy_hi R (sy_sub e (0, [t])) with
        | some p, some h => if 0 < t.2 then R.set t.1 (max p.1 (-(h / t.2)), p.2) else if t.2 < 0 then R.set t.1 (p.1, min p.2 (h / (-t.2))) else R
        | _, _ => R) ∧ (match R[t.1]?, sy_hi R (sy_sub e (0, [t])) with
        | some p, some h => if 0 < t.2 then R.set t.1 (max p.1 (-(h / t.2)), p.2) else if t.2 < 0 then R.set t.1 (p.1, min p.2 (h / (-t.2))) else R
        | _, _ => R).length = R.length := by
      split
      · rename_i p z hp hz
        have h1 := h _ _ hp
        have h2 := sy_hi_e h hz
        have h3 : sy_e ρ (0, [t]) = t.2 * ρ t.1 := by simp [sy_e, sy_s]
        rw [sy_sub_e, h3] at h2
        split
        · rename_i h0
          refine ⟨sy_set_ok h ?_ h1.2, List.length_set⟩
          show max p.1 (-(z / t.2)) ≤ ρ t.1
          have h5 : -(ρ t.1) ≤ z / t.2 := by
            rw [Int.le_ediv_iff_mul_le h0, Int.neg_mul, Int.mul_comm]
            omega
          omega
        · split
          · rename_i h0
            refine ⟨sy_set_ok h h1.1 ?_, List.length_set⟩
            show ρ t.1 ≤ min p.2 (z / (-t.2))
            have h5 : ρ t.1 ≤ z / (-t.2) := by
              rw [Int.le_ediv_iff_mul_le (by omega), Int.mul_neg, Int.mul_comm]
              omega
            omega
          · exact ⟨h, rfl⟩
      · exact ⟨h, rfl⟩
    obtain ⟨k1, k2⟩ := sy_nar_ok he r _ key.1
    exact ⟨k1, k2.trans key.2⟩
theorem sy_pro_ok {ρ : Nat → Int} : ∀ (cs : List sy_L) (R : sy_T), sy_cok ρ cs → sy_ok ρ R → sy_ok ρ (sy_pro cs R) ∧ (sy_pro cs R).length = R.length
  | [], R, _, h => ⟨h, rfl⟩
  | c :: r, R, hc, h => by
    obtain ⟨k1, k2⟩ := sy_nar_ok (hc c List.mem_cons_self) c.2 R h
    obtain ⟨j1, j2⟩ := sy_pro_ok r (sy_nar c c.2 R) (fun x hx => hc x (List.mem_cons_of_mem _ hx)) k1
    exact ⟨j1, j2.trans k2⟩
theorem sy_pr8_ok {ρ : Nat → Int} (cs : List sy_L) (R : sy_T) (hc : sy_cok ρ cs) (h : sy_ok ρ R) : sy_ok ρ (sy_pr8 cs R) ∧ (sy_pr8 cs R).length = R.length := by
  unfold sy_pr8
  split
  · exact ⟨h, rfl⟩
  · exact sy_pro_ok cs R hc h
theorem sy_con_ok {ρ : Nat → Int} {R : sy_T} {cs : List sy_L} (h : sy_ok ρ R) (hc : sy_cok ρ cs) {e : sy_L} (he : 0 ≤ sy_e ρ e) : ¬ sy_con R cs e = true := by
  intro hn
  obtain ⟨c, h1, h2⟩ := List.any_eq_true.mp hn
  split at h2
  · rename_i z hz
    have h3 := sy_hi_e h hz
    rw [sy_add_e] at h3
    have := hc c h1
    have := of_decide_eq_true h2
    omega
  · cases h2
theorem sy_asm_ok {q : sy_Q} {g : sy_G} {ρ : Nat → Int} {τ : Nat → Int64} {w : px_W} (h : sy_mem q g ρ τ w) {e : sy_L} (he : 0 ≤ sy_e ρ e) : ∃ g', sy_asm g e = some g' ∧ sy_mem q g' ρ τ w := by
  have hcon := sy_con_ok h.2.1 h.2.2.1 he
  obtain ⟨n1, n2⟩ := sy_nar_ok he e.2 g.1 h.2.1
  obtain ⟨p1, p2⟩ := sy_pr8_ok g.2.2.1 _ h.2.2.1 n1
  have hl : q.2.2.2.2.2 ≤ (sy_pr8 g.2.2.1 (sy_nar e e.2 g.1)).length := by rw [p2, n2]; exact h.1.1
  unfold sy_asm
  split
  · exact ⟨_, rfl, h⟩
  · rename_i z hz
    have hz1 := sy_hi_e h.2.1 hz
    rw [if_neg (by omega)]
    split
    · exact ⟨_, rfl, h⟩
    · rw [if_neg hcon]
      exact ⟨_, rfl, ⟨hl, h.1.2⟩, p1, h.2.2⟩
    · rw [if_neg hcon]
      refine ⟨_, rfl, ⟨hl, h.1.2⟩, p1, fun x hx => ?_, h.2.2.2⟩
      rcases List.mem_cons.mp hx with rfl | hx
      · exact he
      · exact h.2.2.1 x hx
/-- e is not 0 -/
def sy_ane (g : sy_G) (e : sy_L) : Option sy_G := match e.2 with
  | [] => if e.1 = 0 then none else some g
  | [(i, c)] => (match g.1[i]? with
    | none => some g
    | some r => if c = 1 ∨ c = -1 then (if r.1 = -(e.1 * c) then (if r.1 = r.2 then none else some (sy_rng g i (r.1 + 1, r.2))) else if r.2 = -(e.1 * c) then some (sy_rng g i (r.1, r.2 - 1)) else some g) else some g)
  | _ => if (!g.2.2.1.isEmpty && (sy_pos g.1 g.2.2.1 e && sy_pos g.1 g.2.2.1 (sy_scl (-1) e))) = true then none else some g
theorem sy_ane_ok {q : sy_Q} {g : sy_G} {ρ : Nat → Int} {τ : Nat → Int64} {w : px_W} (h : sy_mem q g ρ τ w) {e : sy_L} (he : sy_e ρ e ≠ 0) : ∃ g', sy_ane g e = some g' ∧ sy_mem q g' ρ τ w := by
  unfold sy_ane
  split
  · rename_i hc
    have hev : sy_e ρ e = e.1 := by
      unfold sy_e
      rw [hc]
      simp [sy_s]
    rw [if_neg (by omega)]
    exact ⟨_, rfl, h⟩
  · rename_i i c hc
    have hev : sy_e ρ e = e.1 + c * ρ i := by
      unfold sy_e
      rw [hc]
      simp [sy_s]
    rw [hev] at he
    split
    · exact ⟨_, rfl, h⟩
    · rename_i r hr
      have hr1 := h.2.1 i r hr
      split
      · rename_i hc1
        have hne : ρ i ≠ -(e.1 * c) := by
          rcases hc1 with rfl | rfl <;> omega
        split
        · rename_i hl
          rw [if_neg (by omega)]
          exact ⟨_, rfl, sy_rng_ok h (by show r.1 + 1 ≤ ρ i; omega) hr1.2⟩
        · split
          · exact ⟨_, rfl, sy_rng_ok h hr1.1 (by show ρ i ≤ r.2 - 1; omega)⟩
          · exact ⟨_, rfl, h⟩
      · exact ⟨_, rfl, h⟩
  · rw [if_neg]
    · exact ⟨_, rfl, h⟩
    · intro hn
      simp only [Bool.and_eq_true] at hn
      have h1 := sy_pos_e h.2.1 h.2.2.1 hn.2.1
      have h2 := sy_pos_e h.2.1 h.2.2.1 hn.2.2
      rw [sy_scl_e] at h2
      omega
def sy_asms (g : sy_G) : List sy_L → Option sy_G
  | [] => some g
  | e :: r => (sy_asm g e).bind (fun g => sy_asms g r)
theorem sy_asms_ok {q : sy_Q} {ρ : Nat → Int} {τ : Nat → Int64} {w : px_W} : ∀ {l : List sy_L} {g : sy_G}, sy_mem q g ρ τ w → (∀ e ∈ l, 0 ≤ sy_e ρ e) → ∃ g', sy_asms g l = some g' ∧ sy_mem q g' ρ τ w
  | [], g, h, _ => ⟨g, rfl, h⟩
  | e :: r, g, h, he => by
    obtain ⟨g1, h1, h2⟩ := sy_asm_ok h (he e List.mem_cons_self)
    obtain ⟨g2, h3, h4⟩ := sy_asms_ok h2 (fun x hx => he x (List.mem_cons_of_mem _ hx))
    exact ⟨g2, by show (sy_asm g e).bind _ = _; rw [h1]; exact h3, h4⟩
/-- the two ways of a comparison of forms -/
def sy_cmp (g : sy_G) (k : Jvm.ClassFile.Cond) (x y : sy_L) : Option sy_G × Option sy_G := match k with
  | .eq => (sy_asms g [sy_sub x y, sy_sub y x], sy_ane g (sy_sub x y))
  | .ne => (sy_ane g (sy_sub x y), sy_asms g [sy_sub x y, sy_sub y x])
  | .lt => (sy_asms g [sy_add (sy_sub y x) (sy_c (-1))], sy_asms g [sy_sub x y])
  | .ge => (sy_asms g [sy_sub x y], sy_asms g [sy_add (sy_sub y x) (sy_c (-1))])
  | .gt => (sy_asms g [sy_add (sy_sub x y) (sy_c (-1))], sy_asms g [sy_sub y x])
  | .le => (sy_asms g [sy_sub y x], sy_asms g [sy_add (sy_sub x y) (sy_c (-1))])
def sy_two (g : sy_G) (k : Jvm.ClassFile.Cond) (x y : sy_L) : Option sy_G × Option sy_G := match sy_b g.1 x, sy_b g.1 y with
  | some a, some b => if sy_fit a = true ∧ sy_fit b = true then sy_cmp g k x y else (some g, some g)
  | _, _ => (some g, some g)
theorem sy_two_ok {q : sy_Q} {g : sy_G} {ρ : Nat → Int} {τ : Nat → Int64} {w : px_W} (h : sy_mem q g ρ τ w) (k : Jvm.ClassFile.Cond) (x y : sy_L) : (px_cnd k (Int32.ofInt (sy_e ρ x)) (Int32.ofInt (sy_e ρ y)) = true → ∃ g', (sy_two g k x y).1 = some g' ∧ sy_mem q g' ρ τ w) ∧ (¬ px_cnd k (Int32.ofInt (sy_e ρ x)) (Int32.ofInt (sy_e ρ y)) = true → ∃ g', (sy_two g k x y).2 = some g' ∧ sy_mem q g' ρ τ w) := by
  unfold sy_two
  split
  · rename_i a b ha hb
    split
    · rename_i hf
      obtain ⟨a1, a2⟩ := sy_b_e h.2.1 ha
      obtain ⟨b1, b2⟩ := sy_b_e h.2.1 hb
      have ex := sy_fit_e hf.1 a1 a2
      have ey := sy_fit_e hf.2 b1 b2
      have heq : Int32.ofInt (sy_e ρ x) = Int32.ofInt (sy_e ρ y) ↔ sy_e ρ x = sy_e ρ y := by
        rw [← Int32.toInt_inj, ex, ey]
      have hlt : Int32.ofInt (sy_e ρ x) < Int32.ofInt (sy_e ρ y) ↔ sy_e ρ x < sy_e ρ y := by
        rw [Int32.lt_iff_toInt_lt, ex, ey]
      have hgt : Int32.ofInt (sy_e ρ y) < Int32.ofInt (sy_e ρ x) ↔ sy_e ρ y < sy_e ρ x := by
        rw [Int32.lt_iff_toInt_lt, ex, ey]
      have hle : Int32.ofInt (sy_e ρ x) ≤ Int32.ofInt (sy_e ρ y) ↔ sy_e ρ x ≤ sy_e ρ y := by
        rw [Int32.le_iff_toInt_le, ex, ey]
      have hge : Int32.ofInt (sy_e ρ y) ≤ Int32.ofInt (sy_e ρ x) ↔ sy_e ρ y ≤ sy_e ρ x := by
        rw [Int32.le_iff_toInt_le, ex, ey]
      have s1 := sy_sub_e ρ x y
      have s2 := sy_sub_e ρ y x
      have one : ∀ e : sy_L, 0 ≤ sy_e ρ e → ∃ g', sy_asms g [e] = some g' ∧ sy_mem q g' ρ τ w := fun e he => sy_asms_ok h (fun z hz => by rw [List.mem_singleton.mp hz]; exact he)
      have both : sy_e ρ x = sy_e ρ y → ∃ g', sy_asms g [sy_sub x y, sy_sub y x] = some g' ∧ sy_mem q g' ρ τ w := fun he => sy_asms_ok h (fun z hz => by
        rcases List.mem_cons.mp hz with rfl | hz
        · omega
        · rw [List.mem_singleton.mp hz]; omega)
      have m1 : ∀ e : sy_L, sy_e ρ (sy_add e (sy_c (-1))) = sy_e ρ e - 1 := fun e => by rw [sy_add_e, sy_c_e]; omega
      cases k <;> simp only [px_cnd, decide_eq_true_eq, sy_cmp]
      · exact ⟨fun z => both (heq.mp z), fun z => sy_ane_ok h (by rw [s1]; intro q; exact z (heq.mpr (by omega)))⟩
      · exact ⟨fun z => sy_ane_ok h (by rw [s1]; intro q; exact z (heq.mpr (by omega))), fun z => both (heq.mp (Classical.not_not.mp z))⟩
      · exact ⟨fun z => one _ (by rw [m1, s2]; have := hlt.mp z; omega), fun z => one _ (by rw [s1]; have := mt hlt.mpr z; omega)⟩
      · exact ⟨fun z => one _ (by rw [s1]; have := hge.mp z; omega), fun z => one _ (by rw [m1, s2]; have := mt hge.mpr z; omega)⟩
      · exact ⟨fun z => one _ (by rw [m1, s1]; have := hgt.mp z; omega), fun z => one _ (by rw [s2]; have := mt hgt.mpr z; omega)⟩
      · exact ⟨fun z => one _ (by rw [s2]; have := hle.mp z; omega), fun z => one _ (by rw [m1, s1]; have := mt hle.mpr z; omega)⟩
    · exact ⟨fun _ => ⟨g, rfl, h⟩, fun _ => ⟨g, rfl, h⟩⟩
  · exact ⟨fun _ => ⟨g, rfl, h⟩, fun _ => ⟨g, rfl, h⟩⟩

end
