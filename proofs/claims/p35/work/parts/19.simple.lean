noncomputable section
/-! SIMPLE INSTRUCTIONS ON FORMS -/
def sy_cat (a : sy_A) : Nat := match a with
  | .inr (.inr _) => 2
  | _ => 1
def sy_so (a : sy_A) : Nat := match a with
  | .inl _ => 0
  | .inr (.inr _) => 1
  | .inr (.inl _) => 2
section SIM
variable {ρ : Nat → Int} {τ : Nat → Int64}
theorem sy_cat_v (a : sy_A) : (sy_v ρ τ a).category = sy_cat a := by
  match a with
  | .inl _ => rfl
  | .inr (.inl _) => rfl
  | .inr (.inr _) => rfl
theorem sy_so_v (a : sy_A) : px_so (sy_v ρ τ a) = sy_so a := by
  match a with
  | .inl _ => rfl
  | .inr (.inl _) => rfl
  | .inr (.inr _) => rfl
theorem px_look_filter {α : Type} {p : Nat × α → Bool} {k : Nat} {v : α} : ∀ {l : List (Nat × α)}, px_look l k = some v → p (k, v) = true → px_look (l.filter p) k = some v
  | [], h, _ => by cases h
  | q :: r, h, hp => by
    rw [px_look_cons] at h
    by_cases hk : q.1 = k
    · rw [if_pos hk] at h
      cases h
      have hq : q = (k, q.2) := by rw [← hk]
      have hpq : p q = true := by rw [hq]; exact hp
      rw [List.filter_cons_of_pos hpq]
      rw [px_look_cons]
      rw [if_pos hk]
    · rw [if_neg hk] at h
      have ih := px_look_filter h hp
      by_cases hpq : p q = true
      · rw [List.filter_cons_of_pos hpq]
        rw [px_look_cons]
        rw [if_neg hk]
        exact ih
      · rw [List.filter_cons_of_neg hpq]
        exact ih
def sy_sto (lv : List (Nat × sy_A)) (i : Nat) (a : sy_A) : List (Nat × sy_A) := (i, a) :: qx_filter lv (fun q => cond (Nat.beq q.1 i) false (cond (Nat.beq (Nat.succ q.1) i) (cond (Nat.beq (sy_cat q.2) 2) false true) true))
theorem qx_beq (a b : Nat) : Nat.beq a b = (a == b) := by
  by_cases h : a = b
  · subst h
    rw [Nat.beq_refl, beq_self_eq_true]
  · have h1 : (a == b) = false := beq_false_of_ne h
    rw [h1]
    cases hb : Nat.beq a b with
    | false => rfl
    | true => exact absurd (Nat.eq_of_beq_eq_true hb) h
theorem sy_sto_eq (lv : List (Nat × sy_A)) (i : Nat) (a : sy_A) : sy_sto lv i a = (i, a) :: lv.filter (fun q => !(q.1 == i) && !(q.1 + 1 == i && sy_cat q.2 == 2)) := by
  unfold sy_sto
  rw [qx_filter_e]
  congr 2
  funext q
  rw [qx_beq, qx_beq, qx_beq]
  show cond (q.1 == i) false (cond (q.1 + 1 == i) (cond (sy_cat q.2 == 2) false true) true) = _
  cases (q.1 == i) <;> cases (q.1 + 1 == i) <;> cases (sy_cat q.2 == 2) <;> rfl
theorem sy_sto_ok {lv : List (Nat × sy_A)} {lc : List (Nat × Value)} (h : sy_lvok ρ τ lv lc) (i : Nat) (a : sy_A) : sy_lvok ρ τ (sy_sto lv i a) (px_sto lc i (sy_v ρ τ a)) := by
  rw [sy_sto_eq]
  intro q hq
  rcases List.mem_cons.mp hq with rfl | hq
  · show px_look ((i, sy_v ρ τ a) :: _) i = _
    rw [px_look_cons]
    rw [if_pos rfl]
  · obtain ⟨h1, h2⟩ := List.mem_filter.mp hq
    have h3 := h q h1
    have h4 : q.1 ≠ i := by
      intro e
      simp [e] at h2
    show px_look ((i, sy_v ρ τ a) :: _) q.1 = _
    rw [px_look_cons]
    rw [if_neg (fun e => h4 e.symm)]
    refine px_look_filter h3 ?_
    show (!(q.1 == i) && !(q.1 + 1 == i && (sy_v ρ τ q.2).category == 2)) = true
    rw [sy_cat_v]
    exact h2
def sy_stk (i : Instr) (st : List sy_A) : Option (List sy_A) := match i, st with
  | .dup, a :: r => if sy_cat a = 1 then some (a :: a :: r) else none
  | .pop, a :: r => if sy_cat a = 1 then some r else none
  | .dup_x1, a :: b :: r => if sy_cat a = 1 ∧ sy_cat b = 1 then some (a :: b :: a :: r) else none
  | .dup2, a :: b :: r => if sy_cat a = 1 ∧ sy_cat b = 1 then some (a :: b :: a :: b :: r) else none
  | _, _ => none
theorem sy_stk_ok {i : Instr} {st z : List sy_A} (hz : sy_stk i st = some z) : px_so1 i = 7 ∧ px_stk i (st.map (sy_v ρ τ)) = some (z.map (sy_v ρ τ)) := by
  unfold sy_stk at hz
  split at hz
  · split at hz
    · rename_i h
      cases hz
      refine ⟨rfl, ?_⟩
      show (if (sy_v ρ τ _).category = 1 then _ else none) = _
      rw [sy_cat_v, if_pos h]
      rfl
    · cases hz
  · split at hz
    · rename_i h
      cases hz
      refine ⟨rfl, ?_⟩
      show (if (sy_v ρ τ _).category = 1 then _ else none) = _
      rw [sy_cat_v, if_pos h]
    · cases hz
  · split at hz
    · rename_i h
      cases hz
      refine ⟨rfl, ?_⟩
      show (if (sy_v ρ τ _).category = 1 ∧ (sy_v ρ τ _).category = 1 then _ else none) = _
      rw [sy_cat_v, sy_cat_v, if_pos h]
      rfl
    · cases hz
  · split at hz
    · rename_i h
      cases hz
      refine ⟨rfl, ?_⟩
      show (if (sy_v ρ τ _).category = 1 ∧ (sy_v ρ τ _).category = 1 then _ else none) = _
      rw [sy_cat_v, sy_cat_v, if_pos h]
      rfl
    · cases hz
  · cases hz
/-- arithmetic that stays linear, constants, goto -/
def sy_ari (i : Instr) (len pc : Nat) (st : List sy_A) : Option (Nat × List sy_A) := match i, st with
  | .iadd, .inl y :: .inl x :: r => if len = 1 then some (pc + 1, .inl (sy_add x y) :: r) else none
  | .isub, .inl y :: .inl x :: r => if len = 1 then some (pc + 1, .inl (sy_sub x y) :: r) else none
  | .imul, .inl y :: .inl x :: r => if len = 1 then (if x.2 = [] then some (pc + 1, .inl (sy_scl x.1 y) :: r) else if y.2 = [] then some (pc + 1, .inl (sy_scl y.1 x) :: r) else none) else none
  | .ineg, .inl x :: r => if len = 1 then some (pc + 1, .inl (sy_scl (-1) x) :: r) else none
  | .iconst n, r => if len = 1 then some (pc + 1, .inl (sy_c n) :: r) else none
  | .bipush n, r => if len = 2 then some (pc + 2, .inl (sy_c (Int8.ofInt n).toInt32.toInt) :: r) else none
  | .sipush n, r => if len = 3 then some (pc + 3, .inl (sy_c (Int16.ofInt n).toInt32.toInt) :: r) else none
  | .goto off, r => if len = 3 then (px_tgt pc off).map (fun t => (t, r)) else none
  | _, _ => none
theorem sy_e_nil {e : sy_L} (h : e.2 = []) : sy_e ρ e = e.1 := by
  unfold sy_e
  rw [h]
  simp [sy_s]
theorem sy_ari_ok {i : Instr} {len pc mx : Nat} {st : List sy_A} {z : Nat × List sy_A} {lc : List (Nat × Value)} (hz : sy_ari i len pc st = some z) : px_s1 i len pc mx lc (st.map (sy_v ρ τ)) = some (z.1, lc, z.2.map (sy_v ρ τ)) := by
  unfold sy_ari at hz
  split at hz
  · split at hz
    · rename_i h
      cases hz
      subst h
      refine px_s1_1 rfl ?_
      show some (pc + 1, lc, Value.int (Int32.ofInt _ + Int32.ofInt _) :: _) = some (pc + 1, lc, Value.int (Int32.ofInt (sy_e ρ (sy_add _ _))) :: _)
      rw [sy_add_e, Int32.ofInt_add]
    · cases hz
  · split at hz
    · rename_i h
      cases hz
      subst h
      refine px_s1_1 rfl ?_
      show some (pc + 1, lc, Value.int (Int32.ofInt _ - Int32.ofInt _) :: _) = some (pc + 1, lc, Value.int (Int32.ofInt (sy_e ρ (sy_sub _ _))) :: _)
      rw [sy_sub_e, Int32.ofInt_sub]
    · cases hz
  · split at hz
    · rename_i h
      subst h
      split at hz
      · rename_i hx
        cases hz
        refine px_s1_1 rfl ?_
        show some (pc + 1, lc, Value.int (Int32.ofInt _ * Int32.ofInt _) :: _) = some (pc + 1, lc, Value.int (Int32.ofInt (sy_e ρ (sy_scl _ _))) :: _)
        rw [sy_scl_e, Int32.ofInt_mul, sy_e_nil hx]
      · split at hz
        · rename_i hy
          cases hz
          refine px_s1_1 rfl ?_
          show some (pc + 1, lc, Value.int (Int32.ofInt _ * Int32.ofInt _) :: _) = some (pc + 1, lc, Value.int (Int32.ofInt (sy_e ρ (sy_scl _ _))) :: _)
          rw [sy_scl_e, Int32.ofInt_mul, sy_e_nil hy, Int32.mul_comm]
        · cases hz
    · cases hz
  · split at hz
    · rename_i h
      cases hz
      subst h
      refine px_s1_8 rfl ?_
      show some (pc + 1, lc, Value.int (-Int32.ofInt _) :: _) = some (pc + 1, lc, Value.int (Int32.ofInt (sy_e ρ (sy_scl (-1) _))) :: _)
      rw [sy_scl_e, Int.neg_mul, Int.one_mul, Int32.ofInt_neg]
    · cases hz
  · split at hz
    · rename_i h
      cases hz
      subst h
      refine px_s1_3 rfl ?_
      show some (pc + 1, lc, Value.int (Int32.ofInt _) :: _) = some (pc + 1, lc, Value.int (Int32.ofInt (sy_e ρ (sy_c _))) :: _)
      rw [sy_c_e]
    · cases hz
  · split at hz
    · rename_i h
      cases hz
      subst h
      refine px_s1_3 rfl ?_
      show some (pc + 2, lc, Value.int _ :: _) = some (pc + 2, lc, Value.int (Int32.ofInt (sy_e ρ (sy_c _))) :: _)
      rw [sy_c_e, Int32.ofInt_toInt]
    · cases hz
  · split at hz
    · rename_i h
      cases hz
      subst h
      refine px_s1_3 rfl ?_
      show some (pc + 3, lc, Value.int _ :: _) = some (pc + 3, lc, Value.int (Int32.ofInt (sy_e ρ (sy_c _))) :: _)
      rw [sy_c_e, Int32.ofInt_toInt]
    · cases hz
  · split at hz
    · rename_i h
      subst h
      obtain ⟨t, ht, h2⟩ := Option.map_eq_some_iff.mp hz
      clear hz
      subst h2
      refine px_s1_4 rfl ?_
      show ((if 3 = 3 then (px_tgt pc _).map (fun t => (t, _)) else none).map _) = _
      rw [if_pos rfl, ht]
      rfl
    · cases hz
  · cases hz
def sy_1 (i : Instr) (len pc mx : Nat) (lv : List (Nat × sy_A)) (st : List sy_A) : Option (Nat × List (Nat × sy_A) × List sy_A) :=
  if px_so1 i = 2 then (px_ld i).bind (fun q => (px_look lv q.1).bind (fun a => if len = q.2.1 ∧ sy_so a = q.2.2 then some (pc + len, lv, a :: st) else none))
  else if px_so1 i = 5 then (match st with
    | a :: r => (px_st i).bind (fun q => if len = q.2.1 ∧ sy_so a = q.2.2 ∧ q.1 < mx then some (pc + len, sy_sto lv q.1 a, r) else none)
    | [] => none)
  else if px_so1 i = 7 then (if len = 1 then (sy_stk i st).map (fun r => (pc + 1, lv, r)) else none)
  else match i with
    | .iinc k n => (px_look lv k).bind (fun a => match a with
      | .inl e => if len = 3 ∧ k < mx then some (pc + 3, sy_sto lv k (.inl (sy_add e (sy_c n))), st) else none
      | _ => none)
    | _ => (sy_ari i len pc st).map (fun z => (z.1, lv, z.2))
theorem sy_1_ok {i : Instr} {len pc mx : Nat} {lv : List (Nat × sy_A)} {st : List sy_A} {z : Nat × List (Nat × sy_A) × List sy_A} {lc : List (Nat × Value)} (hl : sy_lvok ρ τ lv lc) (hz : sy_1 i len pc mx lv st = some z) : ∃ lc', px_s1 i len pc mx lc (st.map (sy_v ρ τ)) = some (z.1, lc', z.2.2.map (sy_v ρ τ)) ∧ sy_lvok ρ τ z.2.1 lc' := by
  unfold sy_1 at hz
  split at hz
  · rename_i h2
    obtain ⟨q, hq, hz1⟩ := Option.bind_eq_some_iff.mp hz
    obtain ⟨a, ha, hz2⟩ := Option.bind_eq_some_iff.mp hz1
    clear hz hz1
    split at hz2
    · rename_i hc
      cases hz2
      refine ⟨lc, px_s1_2 h2 ?_, hl⟩
      unfold px_a2
      have h3 := hl _ (px_look_mem ha)
      rw [hq]
      show (px_look lc q.1).bind _ = _
      rw [h3]
      show (if len = q.2.1 ∧ px_so (sy_v ρ τ a) = q.2.2 then _ else none) = _
      rw [sy_so_v, if_pos hc]
      rfl
    · cases hz2
  · split at hz
    · rename_i h5
      split at hz
      · rename_i a r
        obtain ⟨q, hq, hz1⟩ := Option.bind_eq_some_iff.mp hz
        clear hz
        split at hz1
        · rename_i hc
          cases hz1
          refine ⟨px_sto lc q.1 (sy_v ρ τ a), px_s1_5 h5 ?_, sy_sto_ok hl _ _⟩
          show (px_st i).bind _ = _
          rw [hq]
          show (if len = q.2.1 ∧ px_so (sy_v ρ τ a) = q.2.2 ∧ q.1 < mx then _ else none) = _
          rw [sy_so_v, if_pos hc]
        · cases hz1
      · cases hz
    · split at hz
      · split at hz
        · rename_i h7 hc
          obtain ⟨r, hr, h2⟩ := Option.map_eq_some_iff.mp hz
          clear hz
          subst h2
          refine ⟨lc, px_s1_7 h7 ?_, hl⟩
          unfold px_a7
          rw [if_pos hc, (sy_stk_ok hr).2]
          rfl
        · cases hz
      · split at hz
        · obtain ⟨a, ha, hz1⟩ := Option.bind_eq_some_iff.mp hz
          clear hz
          split at hz1
          · rename_i e
            split at hz1
            · rename_i hc
              cases hz1
              have h3 := hl _ (px_look_mem ha)
              refine ⟨_, px_s1_6 rfl ?_, sy_sto_ok hl _ _⟩
              show (px_look lc _).bind _ = _
              rw [h3]
              show (if len = 3 ∧ _ < mx then some (pc + 3, px_sto lc _ (Value.int (Int32.ofInt (sy_e ρ e) + Int32.ofInt _)), _) else none) = some (pc + 3, px_sto lc _ (Value.int (Int32.ofInt (sy_e ρ (sy_add e (sy_c _))))), _)
              rw [if_pos hc, sy_add_e, sy_c_e, Int32.ofInt_add]
            · cases hz1
          · cases hz1
        · obtain ⟨r, hr, h2⟩ := Option.map_eq_some_iff.mp hz
          clear hz
          subst h2
          exact ⟨lc, sy_ari_ok hr, hl⟩
end SIM

end
