noncomputable section
/-! CALLS AT THE LAW'S HEAD BY THEIR CONTRACTS -/
def hb_rh (l : List Int) (i : Nat) : Int := l.getD i 0
def hb_in (x : Int) : Prop := -2147483648 ≤ x ∧ x ≤ 2147483647
theorem hb_rh_in {l : List Int} (h : ∀ x ∈ l, hb_in x) (i : Nat) : -2147483648 ≤ hb_rh l i ∧ hb_rh l i ≤ 2147483647 := by
  unfold hb_rh
  rw [List.getD_eq_getElem?_getD]
  cases hi : l[i]? with
  | none => exact ⟨by decide, by decide⟩
  | some x => exact h x (List.mem_of_getElem? hi)
theorem hb_ag0 {r : Nat} {τ : Nat → Int64} : ([.inr (.inl r)] : List sy_A).map (sy_v (hb_rh []) τ) = ([.inr (.inl r)] : List ec_V).map ec_v := rfl
theorem hb_ag1 {r : Nat} {τ : Nat → Int64} {x1 : Int} : ([.inr (.inl r), .inl (0, [(0, 1)])] : List sy_A).map (sy_v (hb_rh [x1]) τ) = ([.inr (.inl r), .inl x1] : List ec_V).map ec_v := by
  show [Value.ref r, Value.int (Int32.ofInt (sy_e (hb_rh [x1]) (sy_x 0)))] = [Value.ref r, Value.int (Int32.ofInt x1)]
  rw [sy_x_e]
  rfl
theorem hb_ag2 {r : Nat} {τ : Nat → Int64} {x1 x2 : Int} : ([.inr (.inl r), .inl (0, [(0, 1)]), .inl (0, [(1, 1)])] : List sy_A).map (sy_v (hb_rh [x1, x2]) τ) = ([.inr (.inl r), .inl x1, .inl x2] : List ec_V).map ec_v := by
  show [Value.ref r, Value.int (Int32.ofInt (sy_e (hb_rh [x1, x2]) (sy_x 0))), Value.int (Int32.ofInt (sy_e (hb_rh [x1, x2]) (sy_x 1)))] = [Value.ref r, Value.int (Int32.ofInt x1), Value.int (Int32.ofInt x2)]
  rw [sy_x_e, sy_x_e]
  rfl
theorem hb_ag3 {r : Nat} {τ : Nat → Int64} {x1 x2 x3 : Int} : ([.inr (.inl r), .inl (0, [(0, 1)]), .inl (0, [(1, 1)]), .inl (0, [(2, 1)])] : List sy_A).map (sy_v (hb_rh [x1, x2, x3]) τ) = ([.inr (.inl r), .inl x1, .inl x2, .inl x3] : List ec_V).map ec_v := by
  show [Value.ref r, Value.int (Int32.ofInt (sy_e (hb_rh [x1, x2, x3]) (sy_x 0))), Value.int (Int32.ofInt (sy_e (hb_rh [x1, x2, x3]) (sy_x 1))), Value.int (Int32.ofInt (sy_e (hb_rh [x1, x2, x3]) (sy_x 2)))] = [Value.ref r, Value.int (Int32.ofInt x1), Value.int (Int32.ofInt x2), Value.int (Int32.ofInt x3)]
  rw [sy_x_e, sy_x_e, sy_x_e]
  rfl
theorem hb_ag4 {r : Nat} {τ : Nat → Int64} {x1 x2 x3 x4 : Int} : ([.inr (.inl r), .inl (0, [(0, 1)]), .inl (0, [(1, 1)]), .inl (0, [(2, 1)]), .inl (0, [(3, 1)])] : List sy_A).map (sy_v (hb_rh [x1, x2, x3, x4]) τ) = ([.inr (.inl r), .inl x1, .inl x2, .inl x3, .inl x4] : List ec_V).map ec_v := by
  show [Value.ref r, Value.int (Int32.ofInt (sy_e (hb_rh [x1, x2, x3, x4]) (sy_x 0))), Value.int (Int32.ofInt (sy_e (hb_rh [x1, x2, x3, x4]) (sy_x 1))), Value.int (Int32.ofInt (sy_e (hb_rh [x1, x2, x3, x4]) (sy_x 2))), Value.int (Int32.ofInt (sy_e (hb_rh [x1, x2, x3, x4]) (sy_x 3)))] = [Value.ref r, Value.int (Int32.ofInt x1), Value.int (Int32.ofInt x2), Value.int (Int32.ofInt x3), Value.int (Int32.ofInt x4)]
  rw [sy_x_e, sy_x_e, sy_x_e, sy_x_e]
  rfl
theorem hb_ag5 {r : Nat} {τ : Nat → Int64} {x1 x2 x3 x4 x5 : Int} : ([.inr (.inl r), .inl (0, [(0, 1)]), .inl (0, [(1, 1)]), .inl (0, [(2, 1)]), .inl (0, [(3, 1)]), .inl (0, [(4, 1)])] : List sy_A).map (sy_v (hb_rh [x1, x2, x3, x4, x5]) τ) = ([.inr (.inl r), .inl x1, .inl x2, .inl x3, .inl x4, .inl x5] : List ec_V).map ec_v := by
  show [Value.ref r, Value.int (Int32.ofInt (sy_e (hb_rh [x1, x2, x3, x4, x5]) (sy_x 0))), Value.int (Int32.ofInt (sy_e (hb_rh [x1, x2, x3, x4, x5]) (sy_x 1))), Value.int (Int32.ofInt (sy_e (hb_rh [x1, x2, x3, x4, x5]) (sy_x 2))), Value.int (Int32.ofInt (sy_e (hb_rh [x1, x2, x3, x4, x5]) (sy_x 3))), Value.int (Int32.ofInt (sy_e (hb_rh [x1, x2, x3, x4, x5]) (sy_x 4)))] = [Value.ref r, Value.int (Int32.ofInt x1), Value.int (Int32.ofInt x2), Value.int (Int32.ofInt x3), Value.int (Int32.ofInt x4), Value.int (Int32.ofInt x5)]
  rw [sy_x_e, sy_x_e, sy_x_e, sy_x_e, sy_x_e]
  rfl
theorem hb_agL {r : Nat} {l : Int64} {x1 : Int} : ([.inr (.inl r), .inr (.inr 0), .inl (0, [(0, 1)])] : List sy_A).map (sy_v (hb_rh [x1]) (fun _ => l)) = ([.inr (.inl r), .inr (.inr l), .inl x1] : List ec_V).map ec_v := by
  show [Value.ref r, Value.long l, Value.int (Int32.ofInt (sy_e (hb_rh [x1]) (sy_x 0)))] = [Value.ref r, Value.long l, Value.int (Int32.ofInt x1)]
  rw [sy_x_e]
  rfl
theorem hb_bo_in (z : Int) : hb_in (hb_bo z) := by
  unfold hb_in hb_bo
  split <;> decide
/-- what is written lies beyond these places -/
def hb_dj (Wr : sy_Wr) (D : List (Nat × Nat × Nat)) : Bool := D.all (fun p => Wr.all (fun q => !(Nat.beq q.1 p.1) || (Nat.ble q.2.2 p.2.1 || Nat.ble p.2.2 q.2.1)))
theorem hb_dj_ok {Wr : sy_Wr} {D : List (Nat × Nat × Nat)} (h : hb_dj Wr D = true) {p : Nat × Nat × Nat} (hp : p ∈ D) {i : Nat} (h1 : p.2.1 ≤ i) (h2 : i < p.2.2) : sy_may Wr p.1 i = false := by
  cases hm : sy_may Wr p.1 i with
  | false => rfl
  | true =>
    obtain ⟨q, hq, h3⟩ := List.any_eq_true.mp hm
    simp only [Bool.and_eq_true, decide_eq_true_eq] at h3
    have h4 := List.all_eq_true.mp (List.all_eq_true.mp h p hp) q hq
    simp only [Bool.or_eq_true, Bool.not_eq_true'] at h4
    rcases h4 with h4 | h4 | h4
    · exact absurd h3.1 (Nat.ne_of_beq_eq_false h4)
    · have := Nat.le_of_ble_eq_true h4
      omega
    · have := Nat.le_of_ble_eq_true h4
      omega

end
