noncomputable section
/-! WHAT A BRANCH TELLS -/
/-- a constraint makes the range of a symbol of it smaller: k, what stands before it, what behind it -/
def qy_nr (k : Int) (pre post : List (Nat × Int)) (t : Nat × Int) (R : sy_T) : sy_T := Option.rec (motive := fun _ => sy_T) R (fun p => Option.rec (motive := fun _ => sy_T) R (fun h => Int.rec (motive := fun _ => sy_T) (fun m => cond (Nat.beq m 0) R (cond (qi_le (qi_neg (qi_div h m)) p.1) R (qx_set R t.1 (qi_neg (qi_div h m), p.2)))) (fun m => cond (qi_le p.2 (qi_div h (Nat.succ m))) R (qx_set R t.1 (p.1, qi_div h (Nat.succ m)))) t.2) (qy_k k (qy_hi (qy_hi (fun P N => some (qi_sub P N)) none R post) none R pre))) (qx_nth R t.1)
def qy_nar (k : Int) (l pre : List (Nat × Int)) (R : sy_T) : sy_T := List.rec (motive := fun _ => List (Nat × Int) → sy_T → sy_T) (fun _ R => R) (fun t r ih pre R => ih (t :: pre) (qy_nr k pre r t R)) l pre R
def sy_nar (e : sy_L) (R : sy_T) : sy_T := qy_nar e.1 e.2 [] R
def sy_pro (cs : List sy_L) (R : sy_T) : sy_T := List.rec (motive := fun _ => sy_T → sy_T) (fun R => R) (fun c _ ih R => ih (sy_nar c R)) cs R
/-- with few constraints, all of them once more -/
def sy_pr8 (cs : List sy_L) (R : sy_T) : sy_T := cond (Nat.ble 8 (qx_len cs)) R (sy_pro cs R)
def sy_con (R : sy_T) (cs : List sy_L) (e : sy_L) : Bool := qx_any cs (fun c => sy_hng R (sy_add e c))
/-- e is at least 0 -/
def sy_asm (g : sy_G) (e : sy_L) : Option sy_G := cond (sy_hng g.1 e) none (match e.2 with
    | [] => some g
    | [_] => cond (sy_con g.1 g.2.2.1 e) none (some (sy_pr8 g.2.2.1 (sy_nar e g.1), g.2))
    | _ => cond (sy_con g.1 g.2.2.1 e) none (some (sy_pr8 g.2.2.1 (sy_nar e g.1), g.2.1, e :: g.2.2.1, g.2.2.2)))
theorem sy_rng_ok {q : sy_Q} {g : sy_G} {ρ : Nat → Int} {τ : Nat → Int64} {w : px_W} (h : sy_mem q g ρ τ w) {i : Nat} {r : Int × Int} (h1 : r.1 ≤ ρ i) (h2 : ρ i ≤ r.2) : sy_mem q (sy_rng g i r) ρ τ w := by
  obtain ⟨⟨m1, m1'⟩, m2, m3, m4, m5, m6⟩ := h
  refine ⟨⟨?_, m1'⟩, fun j p hp => ?_, m3, m4, m5, m6⟩
  · show _ ≤ (qx_set g.1 i r).length
    rw [qx_set_e, List.length_set]
    exact m1
  · have hp0 : (qx_set g.1 i r)[j]? = some p := hp
    have hp' : (g.1.set i r)[j]? = some p := by rw [← qx_set_e]; exact hp0
    by_cases hj : i = j
    · subst hj
      by_cases hl : i < g.1.length
      · rw [List.getElem?_set_self hl] at hp'
        cases hp'
        exact ⟨h1, h2⟩
      · rw [List.getElem?_eq_none (by rw [List.length_set]; omega)] at hp'
        cases hp'
    · rw [List.getElem?_set_ne hj] at hp'
      exact m2 j p hp'
theorem sy_set_ok {ρ : Nat → Int} {R : sy_T} (h : sy_ok ρ R) {i : Nat} {r : Int × Int} (h1 : r.1 ≤ ρ i) (h2 : ρ i ≤ r.2) : sy_ok ρ (R.set i r) := by
  intro j p hp
  by_cases hj : i = j
  · subst hj
    by_cases hl : i < R.length
    · rw [List.getElem?_set_self hl] at hp
      cases hp
      exact ⟨h1, h2⟩
    · rw [List.getElem?_eq_none (by rw [List.length_set]; omega)] at hp
      cases hp
  · rw [List.getElem?_set_ne hj] at hp
    exact h j p hp
theorem qy_hi2_e {ρ : Nat → Int} {R : sy_T} (h : sy_ok ρ R) {k z : Int} {pre post : List (Nat × Int)} (hz : qy_k k (qy_hi (qy_hi (fun P N => some (qi_sub P N)) none R post) none R pre) = some z) : k + sy_s ρ pre + sy_s ρ post ≤ z := by
  obtain ⟨P, N, h1, h2⟩ := qy_k_e k (qy_hi (qy_hi (fun P N => some (qi_sub P N)) none R post) none R pre)
  rw [h1] at hz
  rcases qy_hi_e (k := qy_hi (fun P N => some (qi_sub P N)) none R post) (d := none) h pre P N with h3 | ⟨P', N', h3, h4⟩
  · rw [h3] at hz
    cases hz
  · rw [h3] at hz
    rcases qy_hi_e (k := fun P N => some (qi_sub P N)) (d := none) h post P' N' with h5 | ⟨P2, N2, h5, h6⟩
    · rw [h5] at hz
      cases hz
    · rw [h5] at hz
      have h7 := Option.some.inj hz
      rw [qi_sub_e] at h7
      omega
theorem qy_nr_ok {ρ : Nat → Int} {k : Int} {pre post : List (Nat × Int)} {t : Nat × Int} {R : sy_T} (he : 0 ≤ k + sy_s ρ pre + (t.2 * ρ t.1 + sy_s ρ post)) (h : sy_ok ρ R) : sy_ok ρ (qy_nr k pre post t R) ∧ (qy_nr k pre post t R).length = R.length := by
  have keep : sy_ok ρ R ∧ R.length = R.length := ⟨h, rfl⟩
  unfold qy_nr
  cases hp : qx_nth R t.1 with
  | none => exact keep
  | some p =>
    cases hz : qy_k k (qy_hi (qy_hi (fun P N => some (qi_sub P N)) none R post) none R pre) with
    | none => exact keep
    | some z =>
      have hz1 := qy_hi2_e h hz
      rw [qx_nth_ok] at hp
      have h1 := h _ _ hp
      obtain ⟨i, c⟩ := t
      have he' : 0 ≤ k + sy_s ρ pre + (c * ρ i + sy_s ρ post) := he
      match c, he' with
      | .ofNat m, he' =>
        show sy_ok ρ (cond (Nat.beq m 0) R (cond (qi_le (qi_neg (qi_div z m)) p.1) R (qx_set R i (qi_neg (qi_div z m), p.2)))) ∧ (cond (Nat.beq m 0) R (cond (qi_le (qi_neg (qi_div z m)) p.1) R (qx_set R i (qi_neg (qi_div z m), p.2)))).length = R.length
        cases hm : Nat.beq m 0 with
        | true => exact keep
        | false =>
          have hm0 : 0 < m := Nat.pos_of_ne_zero (fun e => by rw [e] at hm; cases hm)
          cases qi_le (qi_neg (qi_div z m)) p.1 with
          | true => exact keep
          | false =>
            show sy_ok ρ (qx_set R i (qi_neg (qi_div z m), p.2)) ∧ (qx_set R i (qi_neg (qi_div z m), p.2)).length = R.length
            rw [qx_set_e]
            refine ⟨sy_set_ok h ?_ h1.2, List.length_set⟩
            show qi_neg (qi_div z m) ≤ ρ i
            rw [qi_neg_e, qi_div_e z hm0]
            have h3 : (m : Int) * ρ i = Int.ofNat m * ρ i := rfl
            have h5 : -(ρ i) ≤ z / (m : Int) := by
              rw [Int.le_ediv_iff_mul_le (by omega), Int.neg_mul, Int.mul_comm]
              omega
            omega
      | .negSucc m, he' =>
        show sy_ok ρ (cond (qi_le p.2 (qi_div z (m + 1))) R (qx_set R i (p.1, qi_div z (m + 1)))) ∧ (cond (qi_le p.2 (qi_div z (m + 1))) R (qx_set R i (p.1, qi_div z (m + 1)))).length = R.length
        cases qi_le p.2 (qi_div z (m + 1)) with
        | true => exact keep
        | false =>
          show sy_ok ρ (qx_set R i (p.1, qi_div z (m + 1))) ∧ (qx_set R i (p.1, qi_div z (m + 1))).length = R.length
          rw [qx_set_e]
          refine ⟨sy_set_ok h h1.1 ?_, List.length_set⟩
          show ρ i ≤ qi_div z (m + 1)
          rw [qi_div_e z (Nat.succ_pos m), Int.le_ediv_iff_mul_le (by omega), Int.mul_comm]
          rw [Int.negSucc_eq, Int.neg_mul] at he'
          have h3 : ((m + 1 : Nat) : Int) * ρ i = ((m : Int) + 1) * ρ i := by rw [Int.natCast_add]; rfl
          have h4 : ((Nat.succ m : Nat) : Int) * ρ i = ((m + 1 : Nat) : Int) * ρ i := rfl
          omega
theorem qy_nar_ok {ρ : Nat → Int} {k : Int} : ∀ (l pre : List (Nat × Int)) (R : sy_T), 0 ≤ k + sy_s ρ pre + sy_s ρ l → sy_ok ρ R → sy_ok ρ (qy_nar k l pre R) ∧ (qy_nar k l pre R).length = R.length
  | [], _, _, _, h => ⟨h, rfl⟩
  | t :: r, pre, R, he, h => by
    have he1 : 0 ≤ k + sy_s ρ pre + (t.2 * ρ t.1 + sy_s ρ r) := he
    obtain ⟨a1, a2⟩ := qy_nr_ok he1 h
    obtain ⟨b1, b2⟩ := qy_nar_ok r (t :: pre) (qy_nr k pre r t R) (by
      show 0 ≤ k + (t.2 * ρ t.1 + sy_s ρ pre) + sy_s ρ r
      omega) a1
    exact ⟨b1, b2.trans a2⟩
theorem sy_nar_ok {ρ : Nat → Int} {e : sy_L} (he : 0 ≤ sy_e ρ e) (R : sy_T) (h : sy_ok ρ R) : sy_ok ρ (sy_nar e R) ∧ (sy_nar e R).length = R.length := qy_nar_ok e.2 [] R (by
  unfold sy_e at he
  show 0 ≤ e.1 + 0 + sy_s ρ e.2
  omega) h
theorem sy_pro_ok {ρ : Nat → Int} : ∀ (cs : List sy_L) (R : sy_T), sy_cok ρ cs → sy_ok ρ R → sy_ok ρ (sy_pro cs R) ∧ (sy_pro cs R).length = R.length
  | [], R, _, h => ⟨h, rfl⟩
  | c :: r, R, hc, h => by
    obtain ⟨k1, k2⟩ := sy_nar_ok (hc c List.mem_cons_self) R h
    obtain ⟨j1, j2⟩ := sy_pro_ok r (sy_nar c R) (fun x hx => hc x (List.mem_cons_of_mem _ hx)) k1
    exact ⟨j1, j2.trans k2⟩
theorem sy_pr8_ok {ρ : Nat → Int} (cs : List sy_L) (R : sy_T) (hc : sy_cok ρ cs) (h : sy_ok ρ R) : sy_ok ρ (sy_pr8 cs R) ∧ (sy_pr8 cs R).length = R.length := by
  unfold sy_pr8
  cases Nat.ble 8 (qx_len cs) with
  | true => exact ⟨h, rfl⟩
  | false => exact sy_pro_ok cs R hc h
theorem sy_hng_e {ρ : Nat → Int} {R : sy_T} (h : sy_ok ρ R) {e : sy_L} (hp : sy_hng R e = true) : sy_e ρ e < 0 := by
  unfold sy_hng at hp
  obtain ⟨P, N, h1, h2⟩ := qy_k_e e.1 (qy_hi (fun P N => Nat.ble (Nat.succ P) N) false R e.2)
  rw [h1] at hp
  rcases qy_hi_e (k := fun P N => Nat.ble (Nat.succ P) N) (d := false) h e.2 P N with h3 | ⟨P', N', h3, h4⟩
  · rw [h3] at hp
    cases hp
  · rw [h3] at hp
    have h5 : P' + 1 ≤ N' := Nat.le_of_ble_eq_true hp
    unfold sy_e
    omega
theorem sy_con_ok {ρ : Nat → Int} {R : sy_T} {cs : List sy_L} (h : sy_ok ρ R) (hc : sy_cok ρ cs) {e : sy_L} (he : 0 ≤ sy_e ρ e) : sy_con R cs e = false := by
  cases hn : sy_con R cs e with
  | false => rfl
  | true =>
    unfold sy_con at hn
    rw [qx_any_e] at hn
    obtain ⟨c, h1, h2⟩ := List.any_eq_true.mp hn
    have h3 := sy_hng_e h h2
    rw [sy_add_e] at h3
    have := hc c h1
    omega
theorem sy_asm_ok {q : sy_Q} {g : sy_G} {ρ : Nat → Int} {τ : Nat → Int64} {w : px_W} (h : sy_mem q g ρ τ w) {e : sy_L} (he : 0 ≤ sy_e ρ e) : ∃ g', sy_asm g e = some g' ∧ sy_mem q g' ρ τ w := by
  have hcon := sy_con_ok h.2.1 h.2.2.1 he
  obtain ⟨n1, n2⟩ := sy_nar_ok he g.1 h.2.1
  obtain ⟨p1, p2⟩ := sy_pr8_ok g.2.2.1 _ h.2.2.1 n1
  have hl : q.2.2.2.2.2 ≤ (sy_pr8 g.2.2.1 (sy_nar e g.1)).length := by rw [p2, n2]; exact h.1.1
  unfold sy_asm
  cases hh : sy_hng g.1 e with
  | true =>
    have := sy_hng_e h.2.1 hh
    omega
  | false =>
    rw [hcon]
    show ∃ g', (match e.2 with
      | [] => some g
      | [_] => some (sy_pr8 g.2.2.1 (sy_nar e g.1), g.2)
      | _ => some (sy_pr8 g.2.2.1 (sy_nar e g.1), g.2.1, e :: g.2.2.1, g.2.2.2)) = some g' ∧ sy_mem q g' ρ τ w
    split
    · exact ⟨_, rfl, h⟩
    · exact ⟨_, rfl, ⟨hl, h.1.2⟩, p1, h.2.2⟩
    · refine ⟨_, rfl, ⟨hl, h.1.2⟩, p1, fun x hx => ?_, h.2.2.2⟩
      rcases List.mem_cons.mp hx with rfl | hx
      · exact he
      · exact h.2.2.1 x hx
/-- e is not 0 -/
def sy_ane (g : sy_G) (e : sy_L) : Option sy_G := match e.2 with
  | [] => cond (qi_z e.1) none (some g)
  | [(i, c)] => Option.rec (motive := fun _ => Option sy_G) (some g) (fun r => cond (Nat.beq (qi_abs c) 1) (cond (qi_eq r.1 (qi_neg (qi_mul e.1 c))) (cond (qi_eq r.1 r.2) none (some (sy_rng g i (qi_add r.1 1, r.2)))) (cond (qi_eq r.2 (qi_neg (qi_mul e.1 c))) (some (sy_rng g i (r.1, qi_add r.2 (Int.negSucc 0)))) (some g))) (some g)) (qx_nth g.1 i)
  | _ => cond (g.2.2.1.isEmpty) (some g) (cond (sy_pos g.1 g.2.2.1 e) (cond (sy_pos g.1 g.2.2.1 (sy_scl (-1) e)) none (some g)) (some g))
theorem sy_ane_ok {q : sy_Q} {g : sy_G} {ρ : Nat → Int} {τ : Nat → Int64} {w : px_W} (h : sy_mem q g ρ τ w) {e : sy_L} (he : sy_e ρ e ≠ 0) : ∃ g', sy_ane g e = some g' ∧ sy_mem q g' ρ τ w := by
  have keep : ∃ g', some g = some g' ∧ sy_mem q g' ρ τ w := ⟨_, rfl, h⟩
  unfold sy_ane
  split
  · rename_i hc
    have hev : sy_e ρ e = e.1 := by
      unfold sy_e
      rw [hc]
      simp [sy_s]
    cases hz : qi_z e.1 with
    | true => exact absurd (hev.trans (qi_z_e.mp hz)) he
    | false => exact keep
  · rename_i i c hc
    have hev : sy_e ρ e = e.1 + c * ρ i := by
      unfold sy_e
      rw [hc]
      simp [sy_s]
    rw [hev] at he
    cases hr : qx_nth g.1 i with
    | none => exact keep
    | some r =>
      rw [qx_nth_ok] at hr
      have hr1 := h.2.1 i r hr
      show ∃ g', cond (Nat.beq (qi_abs c) 1) (cond (qi_eq r.1 (qi_neg (qi_mul e.1 c))) (cond (qi_eq r.1 r.2) none (some (sy_rng g i (qi_add r.1 1, r.2)))) (cond (qi_eq r.2 (qi_neg (qi_mul e.1 c))) (some (sy_rng g i (r.1, qi_add r.2 (Int.negSucc 0)))) (some g))) (some g) = some g' ∧ sy_mem q g' ρ τ w
      cases hc1 : Nat.beq (qi_abs c) 1 with
      | false => exact keep
      | true =>
        have hc2 : c = 1 ∨ c = -1 := by
          have h2 := Nat.eq_of_beq_eq_true hc1
          match c, h2 with
          | .ofNat m, h2 =>
            have h3 : m = 1 := h2
            subst h3
            exact .inl rfl
          | .negSucc m, h2 =>
            have h3 : m + 1 = 1 := h2
            have h4 : m = 0 := by omega
            subst h4
            exact .inr rfl
        have hne : ρ i ≠ qi_neg (qi_mul e.1 c) := by
          rw [qi_neg_e, qi_mul_e]
          rcases hc2 with rfl | rfl <;> omega
        show ∃ g', cond (qi_eq r.1 (qi_neg (qi_mul e.1 c))) (cond (qi_eq r.1 r.2) none (some (sy_rng g i (qi_add r.1 1, r.2)))) (cond (qi_eq r.2 (qi_neg (qi_mul e.1 c))) (some (sy_rng g i (r.1, qi_add r.2 (Int.negSucc 0)))) (some g)) = some g' ∧ sy_mem q g' ρ τ w
        cases h1 : qi_eq r.1 (qi_neg (qi_mul e.1 c)) with
        | true =>
          have h2 := qi_eq_e.mp h1
          show ∃ g', cond (qi_eq r.1 r.2) none (some (sy_rng g i (qi_add r.1 1, r.2))) = some g' ∧ sy_mem q g' ρ τ w
          cases h3 : qi_eq r.1 r.2 with
          | true =>
            have h4 := qi_eq_e.mp h3
            omega
          | false =>
            refine ⟨_, rfl, sy_rng_ok h ?_ hr1.2⟩
            show qi_add r.1 1 ≤ ρ i
            rw [qi_add_e]
            omega
        | false =>
          show ∃ g', cond (qi_eq r.2 (qi_neg (qi_mul e.1 c))) (some (sy_rng g i (r.1, qi_add r.2 (Int.negSucc 0)))) (some g) = some g' ∧ sy_mem q g' ρ τ w
          cases h3 : qi_eq r.2 (qi_neg (qi_mul e.1 c)) with
          | true =>
            have h4 := qi_eq_e.mp h3
            refine ⟨_, rfl, sy_rng_ok h hr1.1 ?_⟩
            show ρ i ≤ qi_add r.2 (Int.negSucc 0)
            have h5 : qi_add r.2 (Int.negSucc 0) = r.2 - 1 := qi_add_e _ _
            omega
          | false => exact keep
  · cases g.2.2.1.isEmpty with
    | true => exact keep
    | false =>
      show ∃ g', cond (sy_pos g.1 g.2.2.1 e) (cond (sy_pos g.1 g.2.2.1 (sy_scl (-1) e)) none (some g)) (some g) = some g' ∧ sy_mem q g' ρ τ w
      cases h1 : sy_pos g.1 g.2.2.1 e with
      | false => exact keep
      | true =>
        show ∃ g', cond (sy_pos g.1 g.2.2.1 (sy_scl (-1) e)) none (some g) = some g' ∧ sy_mem q g' ρ τ w
        cases h2 : sy_pos g.1 g.2.2.1 (sy_scl (-1) e) with
        | false => exact keep
        | true =>
          have h3 := sy_pos_e h.2.1 h.2.2.1 h1
          have h4 := sy_pos_e h.2.1 h.2.2.1 h2
          rw [sy_scl_e] at h4
          omega
def sy_asms (g : sy_G) (l : List sy_L) : Option sy_G := List.rec (motive := fun _ => sy_G → Option sy_G) (fun g => some g) (fun e _ ih g => Option.rec (motive := fun _ => Option sy_G) none ih (sy_asm g e)) l g
theorem sy_asms_ok {q : sy_Q} {ρ : Nat → Int} {τ : Nat → Int64} {w : px_W} : ∀ {l : List sy_L} {g : sy_G}, sy_mem q g ρ τ w → (∀ e ∈ l, 0 ≤ sy_e ρ e) → ∃ g', sy_asms g l = some g' ∧ sy_mem q g' ρ τ w
  | [], g, h, _ => ⟨g, rfl, h⟩
  | e :: r, g, h, he => by
    obtain ⟨g1, h1, h2⟩ := sy_asm_ok h (he e List.mem_cons_self)
    obtain ⟨g2, h3, h4⟩ := sy_asms_ok h2 (fun x hx => he x (List.mem_cons_of_mem _ hx))
    exact ⟨g2, by show Option.rec (motive := fun _ => Option sy_G) none (fun g => sy_asms g r) (sy_asm g e) = _; rw [h1]; exact h3, h4⟩
/-- the two ways of a comparison of forms -/
def sy_cmp (g : sy_G) (k : Jvm.ClassFile.Cond) (x y : sy_L) : Option sy_G × Option sy_G := match k with
  | .eq => (sy_asms g [sy_sub x y, sy_sub y x], sy_ane g (sy_sub x y))
  | .ne => (sy_ane g (sy_sub x y), sy_asms g [sy_sub x y, sy_sub y x])
  | .lt => (sy_asms g [sy_add (sy_sub y x) (sy_c (-1))], sy_asms g [sy_sub x y])
  | .ge => (sy_asms g [sy_sub x y], sy_asms g [sy_add (sy_sub y x) (sy_c (-1))])
  | .gt => (sy_asms g [sy_add (sy_sub x y) (sy_c (-1))], sy_asms g [sy_sub y x])
  | .le => (sy_asms g [sy_sub y x], sy_asms g [sy_add (sy_sub x y) (sy_c (-1))])
def sy_two (g : sy_G) (k : Jvm.ClassFile.Cond) (x y : sy_L) : Option sy_G × Option sy_G := match sy_b g.1 x, sy_b g.1 y with
  | some a, some b => cond (sy_fit a) (cond (sy_fit b) (sy_cmp g k x y) (some g, some g)) (some g, some g)
  | _, _ => (some g, some g)
theorem sy_two_ok {q : sy_Q} {g : sy_G} {ρ : Nat → Int} {τ : Nat → Int64} {w : px_W} (h : sy_mem q g ρ τ w) (k : Jvm.ClassFile.Cond) (x y : sy_L) : (px_cnd k (Int32.ofInt (sy_e ρ x)) (Int32.ofInt (sy_e ρ y)) = true → ∃ g', (sy_two g k x y).1 = some g' ∧ sy_mem q g' ρ τ w) ∧ (¬ px_cnd k (Int32.ofInt (sy_e ρ x)) (Int32.ofInt (sy_e ρ y)) = true → ∃ g', (sy_two g k x y).2 = some g' ∧ sy_mem q g' ρ τ w) := by
  unfold sy_two
  split
  · rename_i a b ha hb
    have keep : (px_cnd k (Int32.ofInt (sy_e ρ x)) (Int32.ofInt (sy_e ρ y)) = true → ∃ g', (some g, some g).1 = some g' ∧ sy_mem q g' ρ τ w) ∧ (¬ px_cnd k (Int32.ofInt (sy_e ρ x)) (Int32.ofInt (sy_e ρ y)) = true → ∃ g', (some g, some g).2 = some g' ∧ sy_mem q g' ρ τ w) := ⟨fun _ => ⟨g, rfl, h⟩, fun _ => ⟨g, rfl, h⟩⟩
    cases hfa : sy_fit a with
    | false => exact keep
    | true =>
     cases hfb : sy_fit b with
     | false => exact keep
     | true =>
      show (px_cnd k (Int32.ofInt (sy_e ρ x)) (Int32.ofInt (sy_e ρ y)) = true → ∃ g', (sy_cmp g k x y).1 = some g' ∧ sy_mem q g' ρ τ w) ∧ (¬ px_cnd k (Int32.ofInt (sy_e ρ x)) (Int32.ofInt (sy_e ρ y)) = true → ∃ g', (sy_cmp g k x y).2 = some g' ∧ sy_mem q g' ρ τ w)
      obtain ⟨a1, a2⟩ := sy_b_e h.2.1 ha
      obtain ⟨b1, b2⟩ := sy_b_e h.2.1 hb
      have ex := sy_fit_e hfa a1 a2
      have ey := sy_fit_e hfb b1 b2
      have heq : Int32.ofInt (sy_e ρ x) = Int32.ofInt (sy_e ρ y) ↔ sy_e ρ x = sy_e ρ y := by
        rw [← Int32.toInt_inj, ex, ey]
      have hlt : Int32.ofInt (sy_e ρ x) < Int32.ofInt (sy_e ρ y) ↔ sy_e ρ x < sy_e ρ y := by
        rw [Int32.lt_iff_toInt_lt, ex, ey]
      have hgt : Int32.ofInt (sy_e ρ y) < Int32.ofInt (sy_e ρ x) ↔ sy_e ρ y < sy_e ρ x := by
        rw [Int32.lt_iff_toInt_lt, ex, ey]
      have hle : Int32.ofInt (sy_e ρ x) ≤ Int32.ofInt (sy_e ρ y) ↔ sy_e ρ x ≤ sy_e ρ y := by
        rw [Int32.le_iff_toInt_le, ex, ey]
      have hge : Int32.ofInt (sy_e ρ y) ≤ Int32.ofInt (sy_e ρ x) ↔ sy_e ρ y ≤ sy_e ρ x := by
        rw [Int32.le_iff_toInt_le, ex, ey]
      have s1 := sy_sub_e ρ x y
      have s2 := sy_sub_e ρ y x
      have one : ∀ e : sy_L, 0 ≤ sy_e ρ e → ∃ g', sy_asms g [e] = some g' ∧ sy_mem q g' ρ τ w := fun e he => sy_asms_ok h (fun z hz => by rw [List.mem_singleton.mp hz]; exact he)
      have both : sy_e ρ x = sy_e ρ y → ∃ g', sy_asms g [sy_sub x y, sy_sub y x] = some g' ∧ sy_mem q g' ρ τ w := fun he => sy_asms_ok h (fun z hz => by
        rcases List.mem_cons.mp hz with rfl | hz
        · omega
        · rw [List.mem_singleton.mp hz]; omega)
      have m1 : ∀ e : sy_L, sy_e ρ (sy_add e (sy_c (-1))) = sy_e ρ e - 1 := fun e => by rw [sy_add_e, sy_c_e]; omega
      cases k <;> simp only [px_cnd, decide_eq_true_eq, sy_cmp]
      · exact ⟨fun z => both (heq.mp z), fun z => sy_ane_ok h (by rw [s1]; intro q; exact z (heq.mpr (by omega)))⟩
      · exact ⟨fun z => sy_ane_ok h (by rw [s1]; intro q; exact z (heq.mpr (by omega))), fun z => both (heq.mp (Classical.not_not.mp z))⟩
      · exact ⟨fun z => one _ (by rw [m1, s2]; have := hlt.mp z; omega), fun z => one _ (by rw [s1]; have := mt hlt.mpr z; omega)⟩
      · exact ⟨fun z => one _ (by rw [s1]; have := hge.mp z; omega), fun z => one _ (by rw [m1, s2]; have := mt hge.mpr z; omega)⟩
      · exact ⟨fun z => one _ (by rw [m1, s1]; have := hgt.mp z; omega), fun z => one _ (by rw [s2]; have := mt hgt.mpr z; omega)⟩
      · exact ⟨fun z => one _ (by rw [s2]; have := hle.mp z; omega), fun z => one _ (by rw [m1, s1]; have := mt hle.mpr z; omega)⟩
  · exact ⟨fun _ => ⟨g, rfl, h⟩, fun _ => ⟨g, rfl, h⟩⟩

end
