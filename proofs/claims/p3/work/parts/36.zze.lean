noncomputable section
section EC6
variable {X : ec_X} {n n0 j pc : Nat} {L : List (Nat × ec_V)} {st : List ec_V} {w : px_W} {r : Option Value × px_W} {M : px_M} {i : Instr} {len : Nat} {o : ec_O} {F : Prop}
/-- what a call is -/
theorem ec_callee {x : Nat} {q : Nat × Nat} {M' : px_M} {d : Nat} {lc : List (Nat × Value)} {z : px_R} {c : Nat} (hq : px_look M.2.1 pc = some (i, len)) (hlen : len = 3) (hlq : px_look M.2.2.2.1 x = some q) (hP : X.2.2.1[q.2]? = some M') (hs : px_step X.1 X.2.1 X.2.2.1 d X.2.2.2.2.2 M pc lc (st.map ec_v) w = some z) (hi : (i = .invokevirtual x ∧ q.1 = 0 ∧ c = M'.1.2.2.2.2 + 1) ∨ (i = .invokestatic x ∧ (q.1 = 1 ∨ q.1 = 4) ∧ c = M'.1.2.2.2.2) ∨ (i = .invokespecial x ∧ (q.1 = 2 ∨ q.1 = 5) ∧ c = M'.1.2.2.2.2 + 1)) : z = .inr (.inr (q.2, (st.take c).reverse.map ec_v, (st.drop c).map ec_v)) := by
  subst hlen
  have h2 : 2 ≤ px_so2 i := by
    rcases hi with ⟨rfl, _⟩ | ⟨rfl, _⟩ | ⟨rfl, _⟩
    · show 2 ≤ 3; omega
    · show 2 ≤ 2; omega
    · show 2 ≤ 4; omega
  have h3 : px_s3 i 3 d M.2.2 (st.map ec_v) w = none := by
    unfold px_s3
    split
    · rcases hi with ⟨e, _⟩ | ⟨e, hq1, _⟩ | ⟨e, _⟩
      · cases e
      · cases e
        split
        · rw [hlq]
          split
          · rename_i hq0 _ _
            cases hq0
            rw [if_neg (fun e => by omega)]
          · rfl
        · rfl
      · cases e
    · rcases hi with ⟨e, _⟩ | ⟨e, _⟩ | ⟨e, hq1, _⟩
      · cases e
      · cases e
      · cases e
        split
        · rw [hlq]
          try dsimp only
          rw [if_neg (fun e => by omega)]
        · rfl
    · rfl
  have h6 : px_s6 i 3 d M.2.2 (st.map ec_v) = none := by
    rcases hi with ⟨rfl, _⟩ | ⟨rfl, hq1, _⟩ | ⟨rfl, _⟩
    · rfl
    · unfold px_s6
      try dsimp only
      split
      · rw [hlq]
        show (match (st.map ec_v : List Value) with
            | .int y :: r => if q.1 = 10 then (if (r.map (fun v => v.category)).sum ≤ 8 then some (Value.int (if 0 ≤ y then y else 0 - y) :: r) else none) else (match r with
              | .int x :: r2 => if (r2.map (fun v => v.category)).sum ≤ 8 then (if q.1 = 8 then some (.int (if x < y then y else x) :: r2) else if q.1 = 9 then some (.int (if y < x then y else x) :: r2) else none) else none
              | _ => none)
            | _ => none) = none
        split
        · rw [if_neg (show ¬ q.1 = 10 by omega)]
          split
          · rw [if_neg (show ¬ q.1 = 8 by omega), if_neg (show ¬ q.1 = 9 by omega)]
            split <;> rfl
          · rfl
        · rfl
      · rfl
    · rfl
  rw [ec_only3 hq h2, h3, h6] at hs
  have hs' : (px_s4 X.1 X.2.2.1 i 3 M.2.2 (st.map ec_v) w).map (fun z => (Sum.inr (Sum.inr z) : px_R)) = some z := hs
  have hdrop : ∀ {c : Nat} {b : Nat} {t : List Value}, (st.map ec_v).drop c = .ref b :: t → .ref b :: ((st.map ec_v).take c).reverse = (st.take (c + 1)).reverse.map ec_v ∧ t = (st.drop (c + 1)).map ec_v := by
    intro c b t hd
    have hc : c < (st.map ec_v).length := by
      apply Nat.lt_of_not_le
      intro hle
      rw [List.drop_eq_nil_of_le hle] at hd
      cases hd
    have e1 := List.drop_eq_getElem_cons hc
    rw [hd] at e1
    injection e1 with e1 e2
    constructor
    · rw [List.map_reverse, List.map_take, List.take_succ_eq_append_getElem hc, List.reverse_append, ← e1]
      rfl
    · rw [e2, List.map_drop]
  cases h4 : px_s4 X.1 X.2.2.1 i 3 M.2.2 (st.map ec_v) w with
  | none =>
    rw [h4] at hs'
    cases hs'
  | some y =>
    rw [h4] at hs'
    cases hs'
    rcases hi with ⟨rfl, hq1, rfl⟩ | ⟨rfl, hq1, rfl⟩ | ⟨rfl, hq1, rfl⟩
    · unfold px_s4 at h4
      dsimp only at h4
      rw [if_pos rfl, hlq] at h4
      simp only [Option.bind_some, hP] at h4
      split at h4
      · rename_i b t hd
        obtain ⟨e1, e2⟩ := hdrop hd
        split at h4
        · split at h4
          · split at h4
            · split at h4
              · cases h4
                rw [e1, e2]
              · cases h4
            · cases h4
          · cases h4
        · split at h4
          · cases h4
            rw [e1, e2]
          · cases h4
      · cases h4
    · unfold px_s4 at h4
      dsimp only at h4
      rw [if_pos rfl, hlq] at h4
      simp only [Option.bind_some, hP] at h4
      split at h4
      · cases h4
        rw [List.map_reverse, List.map_take, List.map_drop]
      · cases h4
    · unfold px_s4 at h4
      dsimp only at h4
      rw [if_pos rfl, hlq] at h4
      simp only [Option.bind_some, hP] at h4
      split at h4
      · rename_i b t hd
        obtain ⟨e1, e2⟩ := hdrop hd
        split at h4
        · cases h4
          rw [e1, e2]
        · cases h4
      · cases h4
/-- a call, taken apart -/
theorem ec_call {x : Nat} {q : Nat × Nat} {M' : px_M} {c : Nat} (hM : X.2.2.2.1[j]? = some M) (hq : px_look M.2.1 pc = some (i, len)) (hlen : len = 3) (hlq : px_look M.2.2.2.1 x = some q) (hP : X.2.2.1[q.2]? = some M') (hi : (i = .invokevirtual x ∧ q.1 = 0 ∧ c = M'.1.2.2.2.2 + 1) ∨ (i = .invokestatic x ∧ (q.1 = 1 ∨ q.1 = 4) ∧ c = M'.1.2.2.2.2) ∨ (i = .invokespecial x ∧ (q.1 = 2 ∨ q.1 = 5) ∧ c = M'.1.2.2.2.2 + 1)) (h : ec_E X (n + 1) j pc L st w r) : ∃ (v : Option Value) (w1 : px_W), ec_F X n q.2 (st.take c).reverse w (v, w1) ∧ (∀ y : Int, v = ec_R y → ec_W X.2.2.2.2.1 w1 → ec_E X n j (pc + 3) L (.inl y :: st.drop c) w1 r) ∧ (v = none → ec_W X.2.2.2.2.1 w1 → ec_E X n j (pc + 3) L (st.drop c) w1 r) := by
  obtain ⟨n', M0, lc, d, b, b', z, hn, hW, hM0, hl, hx, hz⟩ := ec_step h
  cases hM.symm.trans hM0
  have hn' : n' = n := by omega
  subst hn'
  have hzz := ec_callee hq hlen hlq hP hz hi
  subst hzz
  rw [px_exec_succ, hz] at hx
  simp only at hx
  split at hx
  · rename_i d' M1 hM1
    rw [hP] at hM1
    cases hM1
    split at hx
    · split at hx
      · cases hx
      · rename_i r1 hr1
        obtain ⟨v, w1, b1⟩ := r1
        refine ⟨v, w1, ⟨hW, M', d', b, b1, hP, hr1⟩, fun y hy hW1 => ⟨hW1, M, lc, d' + 1, b1, b', hM, hl, ?_⟩, fun hy hW1 => ⟨hW1, M, lc, d' + 1, b1, b', hM, hl, ?_⟩⟩
        · rw [hy] at hx
          exact hx
        · rw [hy] at hx
          exact hx
    · cases hx
  · cases hx
theorem ec_c6_ok (hM : X.2.2.2.1[j]? = some M) (hq : px_look M.2.1 pc = some (i, len)) (hm : ec_m6 X.2.2.1 M pc o i len = true) (h0 : o.2.1 ≠ 0) (hF : F) (h : ec_E X (n + 1) j pc L st w r) : ec_c6 X n j r o L st w F := by
  obtain ⟨c0, k0, x0, y0, c⟩ := o
  have call : ∀ {x : Nat} {q : Nat × Nat} {M' : px_M} {cc : Nat}, px_look M.2.2.2.1 x = some q → X.2.2.1[q.2]? = some M' → ((i = .invokevirtual x ∧ q.1 = 0 ∧ cc = M'.1.2.2.2.2 + 1) ∨ (i = .invokestatic x ∧ (q.1 = 1 ∨ q.1 = 4) ∧ cc = M'.1.2.2.2.2) ∨ (i = .invokespecial x ∧ (q.1 = 2 ∨ q.1 = 5) ∧ cc = M'.1.2.2.2.2 + 1)) → (((k0 = 1 ∨ k0 = 2) ∨ k0 = 5) ∨ k0 = 6) → q.2 = x0 → cc = y0 → c = ((pc + 3 : Nat) : Int) → len = 3 → ec_c6 X n j r (c0, k0, x0, y0, c) L st w F := by
    intro x q M' cc h1 h2 h3 h4 h5 h6 h7 h8
    obtain ⟨v, w1, e1, e2, e3⟩ := ec_call hM hq h8 h1 h2 h3 h
    rw [h5, h6] at e1
    rw [h6] at e2 e3
    have h7' : c.toNat = pc + 3 := by omega
    rcases h4 with ((h4 | h4) | h4) | h4
    · have h4' : k0 = 1 := h4
      subst h4'
      show F ∧ ∃ (v : Option Value) (w1 : px_W), ec_E (ec_cl X) n x0 0 (ec_args 0 (st.take y0).reverse) [] w (v, w1) ∧ ∀ x : Int, v = ec_R x → ec_W X.2.2.2.2.1 w1 → ec_E X n j c.toNat L (.inl x :: st.drop y0) w1 r
      rw [h7']
      exact ⟨hF, v, w1, ec_FE e1, e2⟩
    · have h4' : k0 = 2 := h4
      subst h4'
      show F ∧ ∃ (v : Option Value) (w1 : px_W), ec_E (ec_cl X) n x0 0 (ec_args 0 (st.take y0).reverse) [] w (v, w1) ∧ (v = none → ec_W X.2.2.2.2.1 w1 → ec_E X n j c.toNat L (st.drop y0) w1 r)
      rw [h7']
      exact ⟨hF, v, w1, ec_FE e1, e3⟩
    · have h4' : k0 = 5 := h4
      subst h4'
      show F ∧ ∃ (v : Option Value) (w1 : px_W), ec_F X n x0 (st.take y0).reverse w (v, w1) ∧ ∀ x : Int, v = ec_R x → ec_W X.2.2.2.2.1 w1 → ec_E X n j c.toNat L (.inl x :: st.drop y0) w1 r
      rw [h7']
      exact ⟨hF, v, w1, e1, e2⟩
    · have h4' : k0 = 6 := h4
      subst h4'
      show F ∧ ∃ (v : Option Value) (w1 : px_W), ec_F X n x0 (st.take y0).reverse w (v, w1) ∧ (v = none → ec_W X.2.2.2.2.1 w1 → ec_E X n j c.toNat L (st.drop y0) w1 r)
      rw [h7']
      exact ⟨hF, v, w1, e1, e3⟩
  unfold ec_m6 at hm
  dsimp only at hm
  split at hm
  · show (match (generalizing := false) st with
      | [.inl a] => F ∧ r = (ec_R a, w) ∧ ec_W X.2.2.2.2.1 w
      | _ => True)
    split
    · rename_i a
      obtain ⟨n', M0, lc, d, b, b', z, hn, hW, hM0, hl, hx, hz⟩ := ec_step h
      cases hM.symm.trans hM0
      have hn' : n' = n := by omega
      subst hn'
      have hz1 := hz
      rw [ec_only5 hq rfl] at hz1
      have hs5 : ∀ z2, px_s5 .ireturn len M.1.2.2.2.1 ([(Sum.inl a : ec_V)].map ec_v) = some z2 → z2 = ec_R a := by
        intro z2 hz2
        have hz3 : (match M.1.2.2.2.1 with
          | some t => if len = 1 ∧ narrow t (.int (Int32.ofInt a)) = .int (Int32.ofInt a) then some (some (Value.int (Int32.ofInt a))) else none
          | none => none) = some z2 := hz2
        split at hz3
        · split at hz3
          · cases hz3
            rfl
          · cases hz3
        · cases hz3
      cases hs : px_s5 .ireturn len M.1.2.2.2.1 ([(Sum.inl a : ec_V)].map ec_v) with
      | none =>
        rw [hs] at hz1
        cases hz1
      | some z2 =>
        have hz4 := hs5 z2 hs
        subst hz4
        rw [hs] at hz1
        have hz5 : z = .inr (.inl (ec_R a)) := by
          cases hz1
          rfl
        rw [px_exec_succ, hz, hz5] at hx
        have hx' : some (ec_R a, w, b) = some (r.1, r.2, b') := hx
        injection hx' with hx'
        injection hx' with e1 e2
        injection e2 with e2 e3
        exact ⟨hF, Prod.ext e1.symm e2.symm, hW⟩
    · trivial
  · show F ∧ r = (none, w) ∧ ec_W X.2.2.2.2.1 w
    obtain ⟨n', M0, lc, d, b, b', z, hn, hW, hM0, hl, hx, hz⟩ := ec_step h
    cases hM.symm.trans hM0
    have hn' : n' = n := by omega
    subst hn'
    have hz1 := hz
    rw [ec_only5 hq rfl] at hz1
    have hs5 : ∀ (st : List Value) z2, px_s5 .return_ len M.1.2.2.2.1 st = some z2 → z2 = none := by
      intro st z2 hz2
      unfold px_s5 at hz2
      split at hz2
      · rename_i e
        cases e
      · rename_i e
        cases e
      · split at hz2
        · cases hz2
          rfl
        · cases hz2
      · cases hz2
    cases hs : px_s5 .return_ len M.1.2.2.2.1 (st.map ec_v) with
    | none =>
      rw [hs] at hz1
      cases hz1
    | some z2 =>
      have hz4 := hs5 _ z2 hs
      subst hz4
      rw [hs] at hz1
      have hz5 : z = .inr (.inl none) := by
        cases hz1
        rfl
      rw [px_exec_succ, hz, hz5] at hx
      have hx' : some ((none : Option Value), w, b) = some (r.1, r.2, b') := hx
      injection hx' with hx'
      injection hx' with e1 e2
      injection e2 with e2 e3
      exact ⟨hF, Prod.ext e1.symm e2.symm, hW⟩
  · rename_i x
    split at hm
    · rename_i q hlq
      split at hm
      · rename_i M' hP
        simp only [Bool.and_eq_true, Bool.or_eq_true, beq_iff_eq] at hm
        obtain ⟨m1, m2, m3, m4, m5, m6⟩ := hm
        exact call hlq hP (.inl ⟨rfl, m2, rfl⟩) m1 m3 m4 m5 m6
      · cases hm
    · cases hm
  · rename_i x
    split at hm
    · rename_i q hlq
      split at hm
      · rename_i M' hP
        simp only [Bool.and_eq_true, Bool.or_eq_true, beq_iff_eq] at hm
        obtain ⟨m1, m2, m3, m4, m5, m6⟩ := hm
        exact call hlq hP (.inr (.inl ⟨rfl, m2, rfl⟩)) m1 m3 m4 m5 m6
      · cases hm
    · cases hm
  · rename_i x
    split at hm
    · rename_i q hlq
      split at hm
      · rename_i M' hP
        simp only [Bool.and_eq_true, Bool.or_eq_true, beq_iff_eq] at hm
        obtain ⟨m1, m2, m3, m4, m5, m6⟩ := hm
        exact call hlq hP (.inr (.inr ⟨rfl, m2, rfl⟩)) m1 m3 m4 m5 m6
      · cases hm
    · cases hm
  · cases hm
end EC6
/-- what a path says holds -/
theorem ec_p_ok {X : ec_X} {n j : Nat} {r : Option Value × px_W} {G : Nat → Nat → Option (px_M × Instr × Nat)} (hG : px_Gok X.2.2.2.1 G) : ∀ (t : List ec_O) (n0 pc : Nat) (L : List (Nat × ec_V)) (st : List ec_V) (w : px_W) (F : Prop), ec_k X.2.2.1 G X.2.2.2.2.1 j t pc = true → F → n0 ≤ n + 1 → (n0 ≤ n ∨ ∀ o ∈ t.head?, o.1 < 6 ∨ o.2.1 ≠ 0) → ec_E X n0 j pc L st w r → ec_p X n j r t L st w F
  | [], _, _, _, _, _, _, h, _, _, _, _ => by cases h
  | o :: t, n0, pc, L, st, w, F, h, hF, hn, hn', hE => by
    unfold ec_k at h
    by_cases ho : o.1 < 6
    · rw [if_pos ho] at h
      split at h
      · rename_i M i len hg
        obtain ⟨hM, hq⟩ := hG _ _ _ _ _ hg
        split at h
        · rename_i pc' hm
          have hi : ∀ (m : Nat) (L' : List (Nat × ec_V)) (st' : List ec_V) (w' : px_W) (F' : Prop), m + 1 = n0 → F' → ec_E X m j pc' L' st' w' r → ec_p X n j r t L' st' w' F' := fun m L' st' w' F' h1 h2 h3 => ec_p_ok hG t m pc' L' st' w' F' h h2 (by omega) (.inl (by omega)) h3
          obtain ⟨c0, k0, x0, y0, c⟩ := o
          revert hm
          match c0 with
          | 0 =>
            intro hm
            exact ec_c0_ok hM hq hm hF hE hi
          | 1 =>
            intro hm
            exact ec_c1_ok hM hq hm hF hE hi
          | 2 =>
            intro hm
            exact ec_c2_ok hM hq hm hF hE hi
          | 3 =>
            intro hm
            exact ec_c3_ok hM hq hm hF hE hi
          | 4 =>
            intro hm
            exact ec_c4_ok hM hq hm hF hE hi
          | 5 =>
            intro hm
            exact ec_c5_ok hM hq hm hF hE hi
          | _ + 6 =>
            intro hm
            cases hm
        · cases h
      · cases h
    · rw [if_neg ho] at h
      have e6 : ec_p X n j r (o :: t) L st w F = ec_c6 X n j r o L st w F := by
        obtain ⟨c0, k0, x0, y0, c⟩ := o
        have ho' : ¬ c0 < 6 := ho
        match c0, ho' with
        | 0, ho' => exact absurd (by decide) ho'
        | 1, ho' => exact absurd (by decide) ho'
        | 2, ho' => exact absurd (by decide) ho'
        | 3, ho' => exact absurd (by decide) ho'
        | 4, ho' => exact absurd (by decide) ho'
        | 5, ho' => exact absurd (by decide) ho'
        | _ + 6, _ => rfl
      rw [e6]
      by_cases h0 : o.2.1 = 0
      · rw [if_pos h0] at h
        have hpc := of_decide_eq_true h
        obtain ⟨c0, k0, x0, y0, c⟩ := o
        have h0' : k0 = 0 := h0
        have hpc' : x0 = pc := hpc
        subst h0' hpc'
        refine ⟨hF, ec_sub (ec_mono hE ?_) (fun q hq => (List.mem_filter.mp hq).1)⟩
        rcases hn' with h1 | h1
        · exact h1
        · rcases h1 _ rfl with h2 | h2
          · exact absurd h2 ho
          · exact absurd rfl h2
      · rw [if_neg h0] at h
        split at h
        · rename_i M i len hg
          obtain ⟨hM, hq⟩ := hG _ _ _ _ _ hg
          exact ec_c6_ok hM hq h h0 hF (ec_mono hE hn)
        · cases h
def ec_hh (t : List ec_O) : Bool := match t with
  | o :: _ => decide (o.1 < 6) || !(Nat.beq o.2.1 0)
  | [] => false
/-- a path from a cut -/
theorem ec_run {X : ec_X} {G : Nat → Nat → Option (px_M × Instr × Nat)} (hG : px_Gok X.2.2.2.1 G) {n j pc : Nat} {L : List (Nat × ec_V)} {st : List ec_V} {w : px_W} {r : Option Value × px_W} (t : List ec_O) (hk : ec_k X.2.2.1 G X.2.2.2.2.1 j t pc = true) (hh : ec_hh t = true) (h : ec_E X (n + 1) j pc L st w r) : ec_p X n j r t L st w True := by
  refine ec_p_ok hG t (n + 1) pc L st w True hk trivial (Nat.le_refl _) (.inr (fun o ho => ?_)) h
  cases t with
  | nil => cases ho
  | cons o' t =>
    cases ho
    unfold ec_hh at hh
    simp only [Bool.or_eq_true, decide_eq_true_eq, Bool.not_eq_true'] at hh
    rcases hh with hh | hh
    · exact .inl hh
    · exact .inr (Nat.ne_of_beq_eq_false hh)

end
