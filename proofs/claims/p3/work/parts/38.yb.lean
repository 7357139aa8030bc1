noncomputable section
/-! ROWS OF CELLS AS FUNCTIONS -/
def ef_a (w : px_W) (k : Nat) (p : Nat) : Int := ec_rd w k (p : Int)
def ef_u (f : Nat → Int) (i : Nat) (v : Int) (p : Nat) : Int := if p = i then v else f p
/-- only these cells may have changed -/
def ef_s (S : List Nat) (w w' : px_W) : Prop := ∀ k, k ∉ S → w'[k]? = w[k]?
theorem ef_rd (w : px_W) (k p : Nat) : ec_rd w k (p : Int) = ef_a w k p := rfl
theorem ef_in (w : px_W) (k p : Nat) : -2147483648 ≤ ef_a w k p ∧ ef_a w k p ≤ 2147483647 := ec_rd_in w k p
theorem ef_tw (w : px_W) (k p : Nat) : ec_tw (ef_a w k p) = ef_a w k p := ec_tw_rd w k p
theorem ef_s_refl {S : List Nat} {w : px_W} : ef_s S w w := fun _ _ => rfl
theorem ef_s_trans {S : List Nat} {w w1 w2 : px_W} (h1 : ef_s S w w1) (h2 : ef_s S w1 w2) : ef_s S w w2 := fun k hk => (h2 k hk).trans (h1 k hk)
theorem ef_s_wr {S : List Nat} {w : px_W} {k : Nat} {i z : Int} (h : k ∈ S) : ef_s S w (ec_wr w k i z) := fun k' hk => ec_wr_ne (fun e => hk (e ▸ h))
theorem ef_s_pf {S : List Nat} {w : px_W} {k f : Nat} {z : Int} (h : k ∈ S) : ef_s S w (ec_pf w k f z) := fun k' hk => ec_pf_ne (fun e => hk (e ▸ h))
theorem ef_s_a {S : List Nat} {w w' : px_W} (h : ef_s S w w') {k : Nat} (hk : k ∉ S) : ef_a w' k = ef_a w k := funext (fun p => ec_rd_cg (h k hk))
theorem ef_s_f {S : List Nat} {w w' : px_W} (h : ef_s S w w') {k : Nat} (hk : k ∉ S) (f : Nat) : ec_fd w' k f = ec_fd w k f := ec_fd_cg (h k hk)
theorem ef_s_mono {S T : List Nat} {w w' : px_W} (h : ef_s S w w') (hs : ∀ k ∈ S, k ∈ T) : ef_s T w w' := fun k hk => h k (fun e => hk (hs k e))
theorem ef_a_wr {w : px_W} {k n : Nat} {sg : sy_Sg} {i z : Int} (hW : ec_W hb_A w) (ha : hb_A[k]? = some (.inl (n, sg))) (h0 : 0 ≤ i) (h1 : i < (n : Int)) : ef_a (ec_wr w k i z) k = ef_u (ef_a w k) i.toNat (ec_tw z) := by
  funext p
  unfold ef_a ef_u
  rw [ec_rd_wr hW ha h0 h1 (Int.natCast_nonneg p)]
  by_cases hp : (p : Int) = i
  · rw [if_pos hp, if_pos (by omega)]
  · rw [if_neg hp, if_neg (by omega)]
theorem ef_a_wr_o {w : px_W} {k k' : Nat} {i z : Int} (h : k ≠ k') : ef_a (ec_wr w k i z) k' = ef_a w k' := funext (fun p => ec_rd_wr_o h)
theorem ec_mx_max {a b : Int} (ha : -2147483648 ≤ a ∧ a ≤ 2147483647) (hb : -2147483648 ≤ b ∧ b ≤ 2147483647) : ec_mx a b = max a b := by
  unfold ec_mx
  rw [ec_tw_id ha.1 ha.2, ec_tw_id hb.1 hb.2]
  split <;> omega
theorem ec_mn_min {a b : Int} (ha : -2147483648 ≤ a ∧ a ≤ 2147483647) (hb : -2147483648 ≤ b ∧ b ≤ 2147483647) : ec_mn a b = min a b := by
  unfold ec_mn
  rw [ec_tw_id ha.1 ha.2, ec_tw_id hb.1 hb.2]
  split <;> omega
theorem ec_twn {n : Nat} (h : n < 2147483648) : ec_tw (n : Int) = (n : Int) := ec_tw_id (by omega) (by omega)
theorem ec_R_cg {a b : Int} (h : ec_tw a = ec_tw b) : ec_R a = ec_R b := by
  unfold ec_R
  rw [← ec_of_tw a, h, ec_of_tw]
/-! small methods of both -/
theorem ew_within {n : Nat} {w : px_W} {r : Option Value × px_W} {x0 x1 x2 : Int} (h : ec_E hb_X n 173 0 [(0, .inl x0), (1, .inl x1), (2, .inl x2)] [] w r) : r = (ec_R (if ec_tw x1 ≤ ec_tw x0 ∧ ec_tw x0 ≤ ec_tw x2 then 1 else 0), w) ∧ ec_W hb_A w := by
  by_cases h1 : ec_tw x1 ≤ ec_tw x0
  · by_cases h2 : ec_tw x0 ≤ ec_tw x2
    · rw [if_pos ⟨h1, h2⟩]
      exact (eg173_0_2 h h1 h2).2
    · rw [if_neg (fun e => h2 e.2)]
      exact (eg173_0_1 h h1 (by omega)).2
  · rw [if_neg (fun e => h1 e.1)]
    exact (eg173_0_0 h (by omega)).2
theorem ew_in {n : Nat} {w : px_W} {r : Option Value × px_W} {x0 x1 x2 : Int} (h : ec_E hb_X n 182 0 [(0, .inl x0), (1, .inl x1), (2, .inl x2)] [] w r) : r = (ec_R (if ec_tw x1 ≤ ec_tw x0 ∧ ec_tw x0 ≤ ec_tw x2 then 1 else 0), w) ∧ ec_W hb_A w := by
  by_cases h1 : ec_tw x1 ≤ ec_tw x0
  · by_cases h2 : ec_tw x0 ≤ ec_tw x2
    · rw [if_pos ⟨h1, h2⟩]
      exact (eg182_0_2 h h1 h2).2
    · rw [if_neg (fun e => h2 e.2)]
      exact (eg182_0_1 h h1 (by omega)).2
  · rw [if_neg (fun e => h1 e.1)]
    exact (eg182_0_0 h (by omega)).2
theorem ew_isPlaceA {n : Nat} {w : px_W} {r : Option Value × px_W} {x0 : Int} (h : ec_E hb_X n 13 0 [(0, .inl x0)] [] w r) : r = (ec_R (if 0 ≤ ec_tw x0 ∧ ec_tw x0 ≤ 7 then 1 else 0), w) ∧ ec_W hb_A w := by
  have e0 : ec_tw 0 = 0 := rfl
  have e8 : ec_tw 8 = 8 := rfl
  by_cases h1 : 0 ≤ ec_tw x0
  · by_cases h2 : ec_tw x0 ≤ 7
    · rw [if_pos ⟨h1, h2⟩]
      exact (eg13_0_2 h (by omega) (by omega)).2
    · rw [if_neg (fun e => h2 e.2)]
      exact (eg13_0_1 h (by omega) (by omega)).2
  · rw [if_neg (fun e => h1 e.1)]
    exact (eg13_0_0 h (by omega)).2
theorem ew_isPlaceB {n : Nat} {w : px_W} {r : Option Value × px_W} {x0 : Int} (h : ec_E hb_X n 205 0 [(0, .inl x0)] [] w r) : r = (ec_R (if 0 ≤ ec_tw x0 ∧ ec_tw x0 ≤ 7 then 1 else 0), w) ∧ ec_W hb_A w := by
  obtain ⟨_, v, w1, h1, h2⟩ := eg205_0_0 h
  obtain ⟨h3, h4⟩ := ew_in h1
  injection h3 with h3 h5
  subst h5
  exact (eg205_7_0 (h2 _ h3 h4)).2
theorem ew_isGroup {n : Nat} {w : px_W} {r : Option Value × px_W} {x1 : Int} (h : ec_E hb_X n 208 0 [(0, .inr (.inl 215)), (1, .inl x1)] [] w r) : r = (ec_R (if 0 ≤ ec_tw x1 ∧ ec_tw x1 ≤ ec_tw (ef_a w 152 4 - 1) then 1 else 0), w) ∧ ec_W hb_A w := by
  obtain ⟨_, v, w1, h1, h2⟩ := eg208_151_0_0 h
  obtain ⟨h3, h4⟩ := ew_in h1
  injection h3 with h3 h5
  subst h5
  exact (eg208_151_13_0 (h2 _ h3 h4)).2

end
