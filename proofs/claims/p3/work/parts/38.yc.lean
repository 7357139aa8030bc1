noncomputable section
/-! WHO COMES WHERE WHEN -/
def ef_rl (a b : Nat) (m t : Int) (f : Nat → Int) : Nat → Int := if f a < 1000000 ∧ max (f a) t + m < f b then ef_u f b (max (f a) t + m) else f
def ef_ok (f : Nat → Int) : Prop := ∀ p, 0 ≤ f p ∧ f p ≤ 1000000
theorem ef_rl_ok {a b : Nat} {m t : Int} {f : Nat → Int} (h : ef_ok f) (hm : 0 ≤ m) (ht : 0 ≤ t) : ef_ok (ef_rl a b m t f) := by
  unfold ef_rl
  split
  · rename_i hc
    intro p
    unfold ef_u
    split
    · have := h a
      have := h b
      omega
    · exact h p
  · exact h
theorem ew_walk {n : Nat} {w : px_W} {r : Option Value × px_W} {i a b : Nat} (hi : i < 12) (ha : a < 8) (hb : b < 8) (hf : ef_ok (ef_a w 28)) (hm : 0 ≤ ef_a w 18 i ∧ ef_a w 18 i ≤ 20) (ht : 0 ≤ ef_a w 19 i ∧ ef_a w 19 i ≤ 999) (h : ec_E hb_X n 21 0 [(0, .inr (.inl 79)), (1, .inl (i : Int)), (2, .inl (a : Int)), (3, .inl (b : Int))] [] w r) : ∃ (v : Int) (w' : px_W), r = (ec_R v, w') ∧ ec_W hb_A w' ∧ ef_s [28] w w' ∧ (v = 0 ∨ v = 1) ∧ ef_a w' 28 = ef_rl a b (ef_a w 18 i) (ef_a w 19 i) (ef_a w 28) ∧ (v = 0 → ef_a w' 28 = ef_a w 28) := by
  have ei : ec_tw (i : Int) = i := ec_twn (by omega)
  have ea : ec_tw (a : Int) = a := ec_twn (by omega)
  have eb : ec_tw (b : Int) = b := ec_twn (by omega)
  have em : ec_tw 1000000 = 1000000 := rfl
  have ga := hf a
  have gb := hf b
  have k0 := eg21_15_0_0 h
  have k1 := eg21_15_0_1 h
  have k2 := eg21_15_0_2 h
  rw [ei, ea, eb, em] at k0 k1
  rw [ea, em] at k2
  simp only [ef_rd, ef_tw] at k0 k1 k2
  rw [ec_mx_max (ef_in w 28 a) (ef_in w 19 i), ec_tw_id (a := max (ef_a w 28 a) (ef_a w 19 i) + ef_a w 18 i) (by omega) (by omega)] at k0 k1
  unfold ef_rl
  by_cases c1 : ef_a w 28 a = 1000000
  · obtain ⟨_, hr, hW⟩ := k2 c1
    refine ⟨0, w, hr, hW, ef_s_refl, .inl rfl, ?_, fun _ => rfl⟩
    rw [if_neg (by omega)]
  · by_cases c2 : max (ef_a w 28 a) (ef_a w 19 i) + ef_a w 18 i < ef_a w 28 b
    · obtain ⟨_, hr, hW⟩ := k0 c1 c2
      refine ⟨1, _, hr, hW, ef_s_wr List.mem_cons_self, .inr rfl, ?_, fun e => absurd e (by decide)⟩
      rw [if_pos ⟨by omega, c2⟩, ef_a_wr (n := 8) h.1 rfl (by omega) (by omega), ec_tw_id (by omega) (by omega)]
      rfl
    · obtain ⟨_, hr, hW⟩ := k1 c1 (by omega)
      refine ⟨0, w, hr, hW, ef_s_refl, .inl rfl, ?_, fun _ => rfl⟩
      rw [if_neg (fun e => c2 e.2)]
theorem ew_comes {n : Nat} {w : px_W} {r : Option Value × px_W} {a b : Nat} {m t : Int} (ha : a < 8) (hb : b < 8) (hf : ef_ok (ef_a w 159)) (hm : 0 ≤ m ∧ m ≤ 20) (ht : 0 ≤ t ∧ t ≤ 999) (h : ec_E hb_X n 210 0 [(0, .inr (.inl 215)), (1, .inl (a : Int)), (2, .inl (b : Int)), (3, .inl m), (4, .inl t)] [] w r) : ∃ w' : px_W, r = (none, w') ∧ ec_W hb_A w' ∧ ef_s [159] w w' ∧ ef_a w' 159 = ef_rl a b m t (ef_a w 159) := by
  have ea : ec_tw (a : Int) = a := ec_twn (by omega)
  have eb : ec_tw (b : Int) = b := ec_twn (by omega)
  have em : ec_tw 1000000 = 1000000 := rfl
  have et : ec_tw t = t := ec_tw_id (by omega) (by omega)
  have ga := hf a
  have gb := hf b
  have k0 := eg210_151_0_0 h
  have k1 := eg210_151_0_1 h
  have k2 := eg210_151_0_2 h
  have k3 := eg210_151_0_3 h
  have k4 := eg210_151_0_4 h
  have k5 := eg210_151_0_5 h
  rw [ea, eb, em, et] at k0 k1 k2 k3 k4 k5
  simp only [ef_rd, ef_tw] at k0 k1 k2 k3 k4 k5
  rw [ec_tw_id (a := ef_a w 159 a + m) (by omega) (by omega)] at k1 k2
  rw [ec_tw_id (a := t + m) (by omega) (by omega)] at k4 k5
  have same : ef_a (ec_wr w 159 (b : Int) (ef_a w 159 b)) 159 = ef_a w 159 := by
    rw [ef_a_wr (n := 8) h.1 rfl (by omega) (by omega), ef_tw]
    funext p
    unfold ef_u
    split
    · rename_i e
      rw [e]
      rfl
    · rfl
  have wr : ∀ z : Int, -2147483648 ≤ z → z ≤ 2147483647 → ef_a (ec_wr w 159 (b : Int) z) 159 = ef_u (ef_a w 159) b z := by
    intro z z1 z2
    rw [ef_a_wr (n := 8) h.1 rfl (by omega) (by omega), ec_tw_id z1 z2]
    rfl
  unfold ef_rl
  by_cases c0 : t ≤ ef_a w 159 a
  · by_cases c1 : 1000000 ≤ ef_a w 159 a
    · obtain ⟨_, hr, hW⟩ := k0 c0 c1
      exact ⟨_, hr, hW, ef_s_wr List.mem_cons_self, by rw [same, if_neg (by omega)]⟩
    · by_cases c2 : ef_a w 159 a + m < ef_a w 159 b
      · obtain ⟨_, hr, hW⟩ := k2 c0 (by omega) c2
        refine ⟨_, hr, hW, ef_s_wr List.mem_cons_self, ?_⟩
        rw [wr _ (by omega) (by omega), if_pos ⟨by omega, by omega⟩, show max (ef_a w 159 a) t = ef_a w 159 a by omega]
      · obtain ⟨_, hr, hW⟩ := k1 c0 (by omega) (by omega)
        exact ⟨_, hr, hW, ef_s_wr List.mem_cons_self, by rw [same, if_neg (by omega)]⟩
  · by_cases c1 : 1000000 ≤ ef_a w 159 a
    · obtain ⟨_, hr, hW⟩ := k3 (by omega) c1
      exact ⟨_, hr, hW, ef_s_wr List.mem_cons_self, by rw [same, if_neg (by omega)]⟩
    · by_cases c2 : t + m < ef_a w 159 b
      · obtain ⟨_, hr, hW⟩ := k5 (by omega) (by omega) c2
        refine ⟨_, hr, hW, ef_s_wr List.mem_cons_self, ?_⟩
        rw [wr _ (by omega) (by omega), if_pos ⟨by omega, by omega⟩, show max (ef_a w 159 a) t = t by omega]
      · obtain ⟨_, hr, hW⟩ := k4 (by omega) (by omega) (by omega)
        exact ⟨_, hr, hW, ef_s_wr List.mem_cons_self, by rw [same, if_neg (by omega)]⟩

end
