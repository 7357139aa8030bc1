noncomputable section
/-! rows of cells as functions, small methods -/
def ef_a (w : px_W) (k : Nat) (p : Nat) : Int := ec_rd w k (p : Int)
def ef_u (f : Nat → Int) (i : Nat) (v : Int) (p : Nat) : Int := if p = i then v else f p
def ef_s (S : List Nat) (w w' : px_W) : Prop := ∀ k, k ∉ S → w'[k]? = w[k]?
theorem ef_rd (w : px_W) (k p : Nat) : ec_rd w k (p : Int) = ef_a w k p := rfl
theorem ef_in (w : px_W) (k p : Nat) : -2147483648 ≤ ef_a w k p ∧ ef_a w k p ≤ 2147483647 := ec_rd_in w k p
theorem ef_tw (w : px_W) (k p : Nat) : ec_tw (ef_a w k p) = ef_a w k p := ec_tw_rd w k p
theorem ef_s_refl {S : List Nat} {w : px_W} : ef_s S w w := fun _ _ => rfl
theorem ef_s_trans {S : List Nat} {w w1 w2 : px_W} (h1 : ef_s S w w1) (h2 : ef_s S w1 w2) : ef_s S w w2 := fun k hk => (h2 k hk).trans (h1 k hk)
theorem ef_s_wr {S : List Nat} {w : px_W} {k : Nat} {i z : Int} (h : k ∈ S) : ef_s S w (ec_wr w k i z) := fun k' hk => ec_wr_ne (fun e => hk (e ▸ h))
theorem ef_s_pf {S : List Nat} {w : px_W} {k f : Nat} {z : Int} (h : k ∈ S) : ef_s S w (ec_pf w k f z) := fun k' hk => ec_pf_ne (fun e => hk (e ▸ h))
theorem ef_s_a {S : List Nat} {w w' : px_W} (h : ef_s S w w') {k : Nat} (hk : k ∉ S) : ef_a w' k = ef_a w k := funext (fun p => ec_rd_cg (h k hk))
theorem ef_s_f {S : List Nat} {w w' : px_W} (h : ef_s S w w') {k : Nat} (hk : k ∉ S) (f : Nat) : ec_fd w' k f = ec_fd w k f := ec_fd_cg (h k hk)
theorem ef_s_mono {S T : List Nat} {w w' : px_W} (h : ef_s S w w') (hs : ∀ k ∈ S, k ∈ T) : ef_s T w w' := fun k hk => h k (fun e => hk (hs k e))
theorem ef_a_wr {w : px_W} {k n : Nat} {sg : sy_Sg} {i z : Int} (hW : ec_W hb_A w) (ha : hb_A[k]? = some (.inl (n, sg))) (h0 : 0 ≤ i) (h1 : i < (n : Int)) : ef_a (ec_wr w k i z) k = ef_u (ef_a w k) i.toNat (ec_tw z) := by
  funext p
  unfold ef_a ef_u
  rw [ec_rd_wr hW ha h0 h1 (Int.natCast_nonneg p)]
  by_cases hp : (p : Int) = i
  · rw [if_pos hp, if_pos (by omega)]
  · rw [if_neg hp, if_neg (by omega)]
theorem ef_a_wr_o {w : px_W} {k k' : Nat} {i z : Int} (h : k ≠ k') : ef_a (ec_wr w k i z) k' = ef_a w k' := funext (fun p => ec_rd_wr_o h)
theorem ec_mx_max {a b : Int} (ha : -2147483648 ≤ a ∧ a ≤ 2147483647) (hb : -2147483648 ≤ b ∧ b ≤ 2147483647) : ec_mx a b = max a b := by
  unfold ec_mx
  rw [ec_tw_id ha.1 ha.2, ec_tw_id hb.1 hb.2]
  split <;> omega
theorem ec_mn_min {a b : Int} (ha : -2147483648 ≤ a ∧ a ≤ 2147483647) (hb : -2147483648 ≤ b ∧ b ≤ 2147483647) : ec_mn a b = min a b := by
  unfold ec_mn
  rw [ec_tw_id ha.1 ha.2, ec_tw_id hb.1 hb.2]
  split <;> omega
theorem ec_twn {n : Nat} (h : n < 2147483648) : ec_tw (n : Int) = (n : Int) := ec_tw_id (by omega) (by omega)
theorem ec_R_cg {a b : Int} (h : ec_tw a = ec_tw b) : ec_R a = ec_R b := by
  unfold ec_R
  rw [← ec_of_tw a, h, ec_of_tw]
theorem ew_within {n : Nat} {w : px_W} {r : Option Value × px_W} {x0 x1 x2 : Int} (h : ec_E hb_X n 173 0 [(0, .inl x0), (1, .inl x1), (2, .inl x2)] [] w r) : r = (ec_R (if ec_tw x1 ≤ ec_tw x0 ∧ ec_tw x0 ≤ ec_tw x2 then 1 else 0), w) ∧ ec_W hb_A w := by
  by_cases h1 : ec_tw x1 ≤ ec_tw x0
  · by_cases h2 : ec_tw x0 ≤ ec_tw x2
    · rw [if_pos ⟨h1, h2⟩]
      exact (eg173_0_2 h h1 h2).2
    · rw [if_neg (fun e => h2 e.2)]
      exact (eg173_0_1 h h1 (by omega)).2
  · rw [if_neg (fun e => h1 e.1)]
    exact (eg173_0_0 h (by omega)).2
theorem ew_in {n : Nat} {w : px_W} {r : Option Value × px_W} {x0 x1 x2 : Int} (h : ec_E hb_X n 182 0 [(0, .inl x0), (1, .inl x1), (2, .inl x2)] [] w r) : r = (ec_R (if ec_tw x1 ≤ ec_tw x0 ∧ ec_tw x0 ≤ ec_tw x2 then 1 else 0), w) ∧ ec_W hb_A w := by
  by_cases h1 : ec_tw x1 ≤ ec_tw x0
  · by_cases h2 : ec_tw x0 ≤ ec_tw x2
    · rw [if_pos ⟨h1, h2⟩]
      exact (eg182_0_2 h h1 h2).2
    · rw [if_neg (fun e => h2 e.2)]
      exact (eg182_0_1 h h1 (by omega)).2
  · rw [if_neg (fun e => h1 e.1)]
    exact (eg182_0_0 h (by omega)).2
theorem ef_out {w : px_W} {k n p : Nat} {sg : sy_Sg} (hW : ec_W hb_A w) (ha : hb_A[k]? = some (.inl (n, sg))) (hp : n ≤ p) : ef_a w k p = 0 := by
  obtain ⟨l, hl, hn⟩ := ec_W_row hW ha
  unfold ef_a ec_rd
  rw [hl]
  dsimp only
  rw [Int.toNat_natCast, List.getD_eq_getElem?_getD, List.getElem?_eq_none (by omega)]
  rfl
theorem ef_get_a {w w' : px_W} {k n p : Nat} {sg : sy_Sg} (hW : ec_W hb_A w) (hW' : ec_W hb_A w') (ha : hb_A[k]? = some (.inl (n, sg))) (h : sy_get w' k p = sy_get w k p) : ef_a w' k p = ef_a w k p := by
  obtain ⟨l, hl, _⟩ := ec_W_row hW ha
  obtain ⟨l', hl', _⟩ := ec_W_row hW' ha
  unfold sy_get at h
  rw [hl, hl'] at h
  have h2 : l'[p]? = l[p]? := by
    have h1 : (l'[p]?).map Value.int = (l[p]?).map Value.int := h
    cases e1 : l'[p]? with
    | none =>
      cases e2 : l[p]? with
      | none => rfl
      | some y =>
        rw [e1, e2] at h1
        cases h1
    | some x =>
      cases e2 : l[p]? with
      | none =>
        rw [e1, e2] at h1
        cases h1
      | some y =>
        rw [e1, e2] at h1
        cases h1
        rfl
  unfold ef_a ec_rd
  rw [hl, hl']
  dsimp only
  rw [Int.toNat_natCast, List.getD_eq_getElem?_getD, List.getD_eq_getElem?_getD, h2]
theorem ef_get_f {w w' : px_W} {k f ci : Nat} {sl : List ((Int × Int) ⊕ Nat)} (hW : ec_W hb_A w) (hW' : ec_W hb_A w') (ha : hb_A[k]? = some (.inr (.inr (ci, sl)))) (h : sy_get w' k f = sy_get w k f) : ec_fd w' k f = ec_fd w k f := by
  obtain ⟨o, ho, _⟩ := ec_W_obj hW ha
  obtain ⟨o', ho', _⟩ := ec_W_obj hW' ha
  unfold sy_get at h
  rw [ho, ho'] at h
  have h1 : o'.2[f]? = o.2[f]? := h
  unfold ec_fd
  rw [ho, ho']
  dsimp only
  rw [h1]
theorem hb_FE {xs : List Int32} {n j : Nat} {as : List ec_V} {w : px_W} {r : Option Value × px_W} (h : ec_F (hb_XL xs) n j as w r) : ec_E hb_X n j 0 (ec_args 0 as) [] w r := ec_FE h
theorem ef_a_pf_o {w : px_W} {k k' f : Nat} {z : Int} (h : k ≠ k') : ef_a (ec_pf w k f z) k' = ef_a w k' := funext (fun p => ec_rd_pf_o h)
def hb_ok (xs : List Int32) (RR : px_W → Prop) (mA mB : Nat) (asA asB : List ec_V) (cmp : Bool) : Prop := ∀ (n : Nat) (w wA : px_W) (vA : Option Value), hb_I0 w → RR w → ec_F (hb_XL xs) n mA asA w (vA, wA) → ∃ x : Int, vA = ec_R x ∧ ec_W hb_A wA ∧ ∀ (vB : Option Value) (wB : px_W), ec_F (hb_XL xs) n mB asB wA (vB, wB) → ∃ y : Int, vB = ec_R y ∧ ec_W hb_A wB ∧ hb_I0 wB ∧ RR wB ∧ (cmp = true → ec_tw x = ec_tw y)
theorem ec_shl1 : ∀ b : Nat, b < 11 → ec_shl 1 (b : Int) = ((2 ^ b : Nat) : Int) := by decide +kernel
theorem ec_or1 : ∀ b : Nat, b < 8 → ∀ x : Nat, x < 2 ^ b → ec_or (x : Int) ((2 ^ b : Nat) : Int) = ((x + 2 ^ b : Nat) : Int) := by decide +kernel
theorem ec_or_in (a b : Int) : -2147483648 ≤ ec_or a b ∧ ec_or a b ≤ 2147483647 := by
  have h1 := Int32.le_toInt (Int32.ofInt a ||| Int32.ofInt b)
  have h2 := Int32.toInt_lt (Int32.ofInt a ||| Int32.ofInt b)
  unfold ec_or
  omega
theorem ec_or_0 (a : Int) : ec_or a 0 = ec_tw a := by
  show (Int32.ofInt a ||| 0).toInt = (Int32.ofInt a).toInt
  rw [Int32.or_zero]

end
