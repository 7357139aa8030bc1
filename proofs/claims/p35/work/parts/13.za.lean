noncomputable section
/-! TABLES THAT ARE LOOKED UP QUICKLY: in blocks of 20, rows in chunks -/
abbrev px_Q : Type := px_M × Nat × List (Nat × List (Nat × Instr × Nat))
def px_lc (M : px_M) (l : List (Nat × List (Nat × Instr × Nat))) (pc : Nat) : Option (px_M × Instr × Nat) := List.rec (motive := fun _ => Option (px_M × Instr × Nat)) none (fun q _ ih => cond (Nat.ble pc q.1) (Option.rec (motive := fun _ => Option (px_M × Instr × Nat)) none (fun z => some (M, z)) (px_look q.2 pc)) ih) l
def px_cat : List (Nat × List (Nat × Instr × Nat)) → List (Nat × Instr × Nat)
  | [] => []
  | q :: r => q.2 ++ px_cat r
def px_bd (l : List (Nat × List (Nat × Instr × Nat))) : Bool := l.all (fun q => q.2.all (fun z => Nat.ble z.1 q.1))
theorem px_look_app {α : Type} {b : List (Nat × α)} {k : Nat} {v : α} : ∀ {a : List (Nat × α)}, px_look a k = some v → px_look (a ++ b) k = some v
  | [], h => by cases h
  | q :: r, h => by
    rw [px_look_cons] at h
    show px_look (q :: (r ++ b)) k = some v
    rw [px_look_cons]
    split
    · rename_i e
      rw [if_pos e] at h
      exact h
    · rename_i e
      rw [if_neg e] at h
      exact px_look_app h
theorem px_look_pass {α : Type} {b : List (Nat × α)} {k n : Nat} (hk : n < k) : ∀ {a : List (Nat × α)}, (∀ z ∈ a, z.1 ≤ n) → px_look (a ++ b) k = px_look b k
  | [], _ => rfl
  | q :: r, h => by
    show px_look (q :: (r ++ b)) k = px_look b k
    have h1 := h q List.mem_cons_self
    rw [px_look_cons, if_neg (by omega)]
    exact px_look_pass hk (fun z hz => h z (List.mem_cons_of_mem _ hz))
theorem px_lc_ok {M : px_M} {pc : Nat} {z : px_M × Instr × Nat} : ∀ {l : List (Nat × List (Nat × Instr × Nat))}, px_bd l = true → px_lc M l pc = some z → z.1 = M ∧ px_look (px_cat l) pc = some z.2
  | [], _, h => by cases h
  | q :: r, hb, h => by
    have hb' : (q.2.all (fun z => Nat.ble z.1 q.1) && px_bd r) = true := hb
    rw [Bool.and_eq_true] at hb'
    have h0 : cond (Nat.ble pc q.1) (Option.rec (motive := fun _ => Option (px_M × Instr × Nat)) none (fun z => some (M, z)) (px_look q.2 pc)) (px_lc M r pc) = some z := h
    cases hc : Nat.ble pc q.1 with
    | true =>
      rw [hc] at h0
      have h1 : Option.rec (motive := fun _ => Option (px_M × Instr × Nat)) none (fun z => some (M, z)) (px_look q.2 pc) = some z := h0
      cases hl : px_look q.2 pc with
      | none =>
        rw [hl] at h1
        have h2 : (none : Option (px_M × Instr × Nat)) = some z := h1
        cases h2
      | some y =>
        rw [hl] at h1
        have h2 : some (M, y) = some z := h1
        cases h2
        exact ⟨rfl, px_look_app hl⟩
    | false =>
      rw [hc] at h0
      have h1 : px_lc M r pc = some z := h0
      obtain ⟨h2, h3⟩ := px_lc_ok (l := r) hb'.2 h1
      refine ⟨h2, ?_⟩
      have hlt : q.1 < pc := Nat.lt_of_not_le (fun hle => by
        have := Nat.ble_eq_true_of_le hle
        rw [hc] at this
        cases this)
      show px_look (q.2 ++ px_cat r) pc = some z.2
      rw [px_look_pass hlt (fun y hy => Nat.le_of_ble_eq_true (List.all_eq_true.mp hb'.1 y hy))]
      exact h3
def px_g2 {α : Type} (B : List (List α)) (j : Nat) : Option α := Option.rec (motive := fun _ => Option α) none (fun b => px_nth b (Nat.mod j 20)) (px_nth B (Nat.div j 20))
def px_full {α : Type} : List (List α) → Bool
  | [] => true
  | b :: r => (Nat.beq b.length 20 || (r.isEmpty && Nat.ble b.length 20)) && px_full r
theorem px_g2_eq {α : Type} : ∀ {B : List (List α)} (j : Nat), px_full B = true → px_g2 B j = B.flatten[j]?
  | [], _, _ => rfl
  | b :: r, j, hf => by
    have hf' : ((Nat.beq b.length 20 || (r.isEmpty && Nat.ble b.length 20)) && px_full r) = true := hf
    rw [Bool.and_eq_true, Bool.or_eq_true, Bool.and_eq_true] at hf'
    rw [List.flatten_cons]
    by_cases hj : j < 20
    · have e1 : Nat.div j 20 = 0 := Nat.div_eq_of_lt hj
      have e2 : Nat.mod j 20 = j := Nat.mod_eq_of_lt hj
      have e3 : px_g2 (b :: r) j = px_nth b j := by
        unfold px_g2
        rw [e1, e2]
        rfl
      rw [e3, px_nth_ok]
      rcases hf'.1 with h1 | h1
      · rw [List.getElem?_append_left (by rw [Nat.eq_of_beq_eq_true h1]; exact hj)]
      · rw [List.isEmpty_iff.mp h1.1, List.flatten_nil, List.append_nil]
    · have e1 : Nat.div j 20 = Nat.div (j - 20) 20 + 1 := by
        have : j / 20 = (j - 20) / 20 + 1 := by omega
        exact this
      have e2 : Nat.mod j 20 = Nat.mod (j - 20) 20 := by
        have : j % 20 = (j - 20) % 20 := by omega
        exact this
      have e3 : px_g2 (b :: r) j = px_g2 r (j - 20) := by
        unfold px_g2
        rw [e1, e2]
        rfl
      rw [e3, px_g2_eq (j - 20) hf'.2]
      rcases hf'.1 with h1 | h1
      · have hb := Nat.eq_of_beq_eq_true h1
        rw [List.getElem?_append_right (by omega), hb]
      · have hb := Nat.le_of_ble_eq_true h1.2
        rw [List.isEmpty_iff.mp h1.1, List.flatten_nil, List.append_nil]
        exact (List.getElem?_eq_none (by omega : b.length ≤ j)).symm
def px_G (B : List (List px_Q)) (j pc : Nat) : Option (px_M × Instr × Nat) := Option.rec (motive := fun _ => Option (px_M × Instr × Nat)) none (fun Q => px_lc Q.1 Q.2.2 pc) (px_g2 B j)
def px_Hq (B : List (List px_Q)) (j : Nat) : Option (px_M × Nat) := Option.rec (motive := fun _ => Option (px_M × Nat)) none (fun Q => some (Q.1, Q.2.1)) (px_g2 B j)
def px_Qk (cl : List vw_C) (Q : px_Q) : Prop := Q.1.2.1 = px_cat Q.2.2 ∧ px_bd Q.2.2 = true ∧ ∀ kc, Q.2.1 ≠ 0 → cl[Q.2.1 - 1]? = some kc → kc.1 = Q.1.1.1.cls
theorem px_Qk_mk {cl : List vw_C} {M : px_M} {ci : Nat} {l : List (Nat × List (Nat × Instr × Nat))} (h1 : M.2.1 = px_cat l) (h2 : px_bd l = true) (h3 : (cl[ci]?).map (fun k => k.1) = some M.1.1.cls) : px_Qk cl (M, ci + 1, l) := ⟨h1, h2, fun kc _ h => by
  have h' : cl[ci]? = some kc := h
  rw [h'] at h3
  exact Option.some.inj h3⟩
theorem px_Qk_m0 {cl : List vw_C} {M : px_M} {l : List (Nat × List (Nat × Instr × Nat))} (h1 : M.2.1 = px_cat l) (h2 : px_bd l = true) : px_Qk cl (M, 0, l) := ⟨h1, h2, fun _ h => absurd rfl h⟩
def px_Gok (P : List px_M) (G : Nat → Nat → Option (px_M × Instr × Nat)) : Prop := ∀ (j pc : Nat) (M : px_M) (i : Instr) (len : Nat), G j pc = some (M, i, len) → P[j]? = some M ∧ px_look M.2.1 pc = some (i, len)
def px_Hok (cl : List vw_C) (P : List px_M) (H : Nat → Option (px_M × Nat)) : Prop := ∀ (j : Nat) (z : px_M × Nat), H j = some z → P[j]? = some z.1 ∧ ∀ kc, z.2 ≠ 0 → cl[z.2 - 1]? = some kc → kc.1 = z.1.1.1.cls
section PG
variable {cl : List vw_C} {P : List px_M} {B : List (List px_Q)}
theorem px_gB {j : Nat} {Q : px_Q} (hP : P = B.flatten.map (fun Q => Q.1)) (hf : px_full B = true) (hk : ∀ b ∈ B, ∀ Q ∈ b, px_Qk cl Q) (h : px_g2 B j = some Q) : P[j]? = some Q.1 ∧ px_Qk cl Q := by
  rw [px_g2_eq j hf] at h
  refine ⟨by rw [hP, List.getElem?_map, h]; rfl, ?_⟩
  obtain ⟨b, hb, hQ⟩ := List.mem_flatten.mp (List.mem_of_getElem? h)
  exact hk b hb Q hQ
theorem px_G_ok (hP : P = B.flatten.map (fun Q => Q.1)) (hf : px_full B = true) (hk : ∀ b ∈ B, ∀ Q ∈ b, px_Qk cl Q) : px_Gok P (px_G B) := by
  intro j pc M i len h
  unfold px_G at h
  cases hQ : px_g2 B j with
  | none =>
    rw [hQ] at h
    have h2 : (none : Option (px_M × Instr × Nat)) = some (M, i, len) := h
    cases h2
  | some Q =>
    rw [hQ] at h
    have h2 : px_lc Q.1 Q.2.2 pc = some (M, i, len) := h
    obtain ⟨h3, h4⟩ := px_gB hP hf hk hQ
    obtain ⟨h5, h6⟩ := px_lc_ok h4.2.1 h2
    have h7 : M = Q.1 := h5
    rw [h7]
    refine ⟨h3, ?_⟩
    rw [h4.1]
    exact h6
theorem px_Hq_ok (hP : P = B.flatten.map (fun Q => Q.1)) (hf : px_full B = true) (hk : ∀ b ∈ B, ∀ Q ∈ b, px_Qk cl Q) : px_Hok cl P (px_Hq B) := by
  intro j z h
  unfold px_Hq at h
  cases hQ : px_g2 B j with
  | none =>
    rw [hQ] at h
    have h2 : (none : Option (px_M × Nat)) = some z := h
    cases h2
  | some Q =>
    rw [hQ] at h
    have h2 : some (Q.1, Q.2.1) = some z := h
    cases h2
    obtain ⟨h3, h4⟩ := px_gB hP hf hk hQ
    exact ⟨h3, h4.2.2⟩
/-- one method more, behind the others -/
def px_G1 (j0 : Nat) (M : px_M) (l : List (Nat × List (Nat × Instr × Nat))) (G : Nat → Nat → Option (px_M × Instr × Nat)) (j pc : Nat) : Option (px_M × Instr × Nat) := cond (Nat.beq j j0) (px_lc M l pc) (G j pc)
theorem px_G1_ok {j0 : Nat} {M : px_M} {l : List (Nat × List (Nat × Instr × Nat))} {G : Nat → Nat → Option (px_M × Instr × Nat)} (hj : (P ++ [M])[j0]? = some M) (h1 : M.2.1 = px_cat l) (h2 : px_bd l = true) (hG : px_Gok P G) : px_Gok (P ++ [M]) (px_G1 j0 M l G) := by
  intro j pc M' i len h
  unfold px_G1 at h
  cases hb : Nat.beq j j0 with
  | true =>
    rw [hb] at h
    have h3 : px_lc M l pc = some (M', i, len) := h
    obtain ⟨h4, h5⟩ := px_lc_ok h2 h3
    have h6 : M' = M := h4
    rw [h6, Nat.eq_of_beq_eq_true hb, h1]
    exact ⟨hj, h5⟩
  | false =>
    rw [hb] at h
    have h3 : G j pc = some (M', i, len) := h
    obtain ⟨h4, h5⟩ := hG j pc M' i len h3
    exact ⟨by rw [List.getElem?_append_left (List.getElem?_eq_some_iff.mp h4).1]; exact h4, h5⟩
end PG

end
