noncomputable section
section EW2
variable {c : Nat} {A B : Nat → Nat} {Mi Ti : Nat → Int}
/-- the reference: all WAYS once -/
theorem ew_waysB (hD : ef_D c A B Mi Ti) : ∀ (k n i : Nat) (w : px_W) (x1 x2 : Int) (r : Option Value × px_W), ef_DB w c A B Mi Ti → ef_ok (ef_a w 159) → i + k = c → ec_E hb_X n 209 67 [(0, .inr (.inl 215)), (1, .inl x1), (2, .inl x2), (3, .inl (i : Int))] [] w r → ∃ w' : px_W, ec_E hb_X n 209 59 [(0, .inr (.inl 215)), (1, .inl x1), (2, .inl (x2 + 1))] [] w' r ∧ ef_s [159] w w' ∧ ef_a w' 159 = ef_ws A B Mi Ti k i (ef_a w 159) ∧ ef_ok (ef_a w' 159) := by
  intro k
  induction k with
  | zero =>
    intro n i w x1 x2 r hB hf hik h
    have hi : i = c := by omega
    subst hi
    have e3 : ec_tw 3 = ((3 : Nat) : Int) := rfl
    have k0 := eg209_151_67_0 h
    rw [e3, ef_rd, hB.1] at k0
    exact ⟨w, (k0 (Int.le_refl _)).2, ef_s_refl, rfl, hf⟩
  | succ k ih =>
    intro n i w x1 x2 r hB hf hik h
    have hc := hD.1
    have hi : i < c := by omega
    obtain ⟨d1, d2, d3, d4⟩ := hD.2 i hi
    obtain ⟨a1, a2, a3, a4⟩ := hB.2 i hi
    have e3 : ec_tw 3 = ((3 : Nat) : Int) := rfl
    have p0 : ec_tw (128 + 4 * (i : Int)) = ((128 + 4 * i : Nat) : Int) := by rw [ec_tw_id (by omega) (by omega)]; omega
    have p1 : ec_tw (128 + 4 * (i : Int) + 1) = ((128 + 4 * i + 1 : Nat) : Int) := by rw [ec_tw_id (by omega) (by omega)]; omega
    have p2 : ec_tw (128 + 4 * (i : Int) + 2) = ((128 + 4 * i + 2 : Nat) : Int) := by rw [ec_tw_id (by omega) (by omega)]; omega
    have p3 : ec_tw (128 + 4 * (i : Int) + 3) = ((128 + 4 * i + 3 : Nat) : Int) := by rw [ec_tw_id (by omega) (by omega)]; omega
    have k1 := eg209_151_67_1 h
    rw [e3, p0, p1, p2, p3, ef_rd, ef_rd, ef_rd, ef_rd, ef_rd, hB.1, a1, a2, a3, a4, ec_twn (by omega), ec_twn (by omega)] at k1
    obtain ⟨_, v, w1, h1, h2⟩ := k1 (by omega)
    obtain ⟨w1', e1, hW1, s1, f1⟩ := ew_comes d1 d2 hf d3 d4 h1
    injection e1 with e1 e1'
    subst e1'
    have h3 := h2 e1 hW1
    have hB1 : ef_DB w1 c A B Mi Ti := ef_DB_s hB s1 (by decide)
    obtain ⟨b1, b2, b3, b4⟩ := hB1.2 i hi
    have hf1 : ef_ok (ef_a w1 159) := by
      rw [f1]
      exact ef_rl_ok hf d3.1 d4.1
    have k2 := eg209_151_124_0 h3
    rw [p0, p1, p2, p3, ef_rd, ef_rd, ef_rd, ef_rd, b1, b2, b3, b4] at k2
    obtain ⟨_, v', w2, h4, h5⟩ := k2
    obtain ⟨w2', e2, hW2, s2, f2⟩ := ew_comes d2 d1 hf1 d3 d4 h4
    injection e2 with e2 e2'
    subst e2'
    have h6 := (eg209_151_162_0 (h5 e2 hW2)).2
    have hf2 : ef_ok (ef_a w2 159) := by
      rw [f2]
      exact ef_rl_ok hf1 d3.1 d4.1
    obtain ⟨w', h7, s3, f3, o3⟩ := ih n (i + 1) w2 x1 x2 r (ef_DB_s hB1 s2 (by decide)) hf2 (by omega) h6
    exact ⟨w', h7, ef_s_trans s1 (ef_s_trans s2 s3), by rw [f3, f2, f1]; rfl, o3⟩
theorem ew_roundsB (hD : ef_D c A B Mi Ti) : ∀ (k n i : Nat) (w : px_W) (x1 : Int) (r : Option Value × px_W), ef_DB w c A B Mi Ti → ef_ok (ef_a w 159) → i + k = 8 → ec_E hb_X n 209 59 [(0, .inr (.inl 215)), (1, .inl x1), (2, .inl (i : Int))] [] w r → ∃ w' : px_W, r = (none, w') ∧ ec_W hb_A w' ∧ ef_s [159] w w' ∧ ef_a w' 159 = ef_it A B Mi Ti c k (ef_a w 159) := by
  intro k
  induction k with
  | zero =>
    intro n i w x1 r hB hf hik h
    have hi : i = 8 := by omega
    subst hi
    obtain ⟨_, hr, hW⟩ := eg209_151_59_0 h (Int.le_refl _)
    exact ⟨w, hr, hW, ef_s_refl, rfl⟩
  | succ k ih =>
    intro n i w x1 r hB hf hik h
    have ei : ec_tw (i : Int) = i := ec_twn (by omega)
    have t8 : ec_tw 8 = 8 := rfl
    have h1 := (eg209_151_59_1 h (by omega)).2
    obtain ⟨w', h2, s1, f1, o1⟩ := ew_waysB hD c n 0 w x1 i r hB hf (by omega) h1
    obtain ⟨w2, hr, hW, s2, f2⟩ := ih n (i + 1) w' x1 r (ef_DB_s hB s1 (by decide)) o1 (by omega) h2
    exact ⟨w2, hr, hW, ef_s_trans s1 s2, by rw [f2, f1]; rfl⟩
theorem ew_noneB {g pl : Nat} {t : Int} (hg : g < 10) (hp8 : pl < 8) : ∀ (k n i : Nat) (w : px_W) (r : Option Value × px_W), ef_a w 152 (176 + 4 * g + 2) = pl → ef_a w 152 (176 + 4 * g + 3) = t → i + k = 8 → ec_E hb_X n 209 2 [(0, .inr (.inl 215)), (1, .inl (g : Int)), (2, .inl (i : Int))] [] w r → ∃ w' : px_W, ec_E hb_X n 209 2 [(0, .inr (.inl 215)), (1, .inl (g : Int)), (2, .inl 8)] [] w' r ∧ ef_s [159] w w' ∧ ∀ p, ef_a w' 159 p = if i ≤ p ∧ p < 8 then ef_f0 pl t p else ef_a w 159 p := by
  intro k
  induction k with
  | zero =>
    intro n i w r hp ht hik h
    have hi : i = 8 := by omega
    subst hi
    exact ⟨w, h, ef_s_refl, fun p => by rw [if_neg (by omega)]⟩
  | succ k ih =>
    intro n i w r hp ht hik h
    have ei : ec_tw (i : Int) = i := ec_twn (by omega)
    have t8 : ec_tw 8 = 8 := rfl
    have p2 : ec_tw (176 + 4 * (g : Int) + 2) = ((176 + 4 * g + 2 : Nat) : Int) := by rw [ec_tw_id (by omega) (by omega)]; omega
    have p3 : ec_tw (176 + 4 * (g : Int) + 3) = ((176 + 4 * g + 3 : Nat) : Int) := by rw [ec_tw_id (by omega) (by omega)]; omega
    have tr := (ef_in w 152 (176 + 4 * g + 3))
    rw [ht] at tr
    have k1 := eg209_151_2_1 h
    have k2 := eg209_151_2_2 h
    rw [ei, t8, p2, ef_rd, hp, ec_twn (by omega)] at k1 k2
    rw [p3, ef_rd, ht] at k2
    have fin : ∀ z : Int, -2147483648 ≤ z → z ≤ 2147483647 → z = ef_f0 pl t i → ec_E hb_X n 209 2 [(0, .inr (.inl 215)), (1, .inl (g : Int)), (2, .inl ((i : Int) + 1))] [] (ec_wr w 159 (i : Int) z) r → ∃ w' : px_W, ec_E hb_X n 209 2 [(0, .inr (.inl 215)), (1, .inl (g : Int)), (2, .inl 8)] [] w' r ∧ ef_s [159] w w' ∧ ∀ p, ef_a w' 159 p = if i ≤ p ∧ p < 8 then ef_f0 pl t p else ef_a w 159 p := by
      intro z z1 z2 hz h1
      obtain ⟨w', h2, s2, f2⟩ := ih n (i + 1) _ r (by rw [ef_a_wr_o (by decide)]; exact hp) (by rw [ef_a_wr_o (by decide)]; exact ht) (by omega) h1
      refine ⟨w', h2, ef_s_trans (ef_s_wr List.mem_cons_self) s2, fun p => ?_⟩
      rw [f2 p, ef_a_wr (n := 8) h.1 rfl (by omega) (by omega)]
      unfold ef_u
      by_cases h3 : i + 1 ≤ p ∧ p < 8
      · rw [if_pos h3, if_pos (by omega)]
      · rw [if_neg h3]
        by_cases h4 : p = i
        · rw [if_pos (by omega), if_pos (by omega), ec_tw_id z1 z2, hz, h4]
        · rw [if_neg (by omega), if_neg (by omega)]
    by_cases hpi : i = pl
    · exact fin t tr.1 tr.2 (by unfold ef_f0; rw [if_pos hpi]) (k2 (by omega) (by omega)).2
    · exact fin 1000000 (by omega) (by omega) (by unfold ef_f0; rw [if_neg hpi, if_pos (by omega)]) (k1 (by omega) (by omega)).2
theorem ew_findReach (hD : ef_D c A B Mi Ti) {n g pl : Nat} {t : Int} {w : px_W} {r : Option Value × px_W} (hB : ef_DB w c A B Mi Ti) (hg : g < 10) (hp : ef_a w 152 (176 + 4 * g + 2) = pl) (hp8 : pl < 8) (ht : ef_a w 152 (176 + 4 * g + 3) = t) (h0 : 0 ≤ t) (h1 : t ≤ 999) (h : ec_E hb_X n 209 0 [(0, .inr (.inl 215)), (1, .inl (g : Int))] [] w r) : ∃ w' : px_W, r = (none, w') ∧ ec_W hb_A w' ∧ ef_s [159] w w' ∧ ef_a w' 159 = ef_it A B Mi Ti c 8 (ef_f0 pl t) := by
  have h2 := (eg209_151_0_0 h).2
  obtain ⟨w1, h3, s1, f1⟩ := ew_noneB hg hp8 8 n 0 w r hp ht rfl h2
  have h4 := (eg209_151_2_0 h3 (Int.le_refl _)).2
  have fe : ef_a w1 159 = ef_f0 pl t := by
    funext p
    rw [f1 p]
    by_cases h8 : p < 8
    · rw [if_pos (by omega)]
    · rw [if_neg (by omega)]
      unfold ef_f0
      rw [if_neg (by omega), if_neg h8]
      exact ef_out (n := 8) h.1 rfl (by omega)
  obtain ⟨w2, hr, hW, s3, f3⟩ := ew_roundsB hD 8 n 0 _ g r (ef_DB_s hB s1 (by decide)) (by rw [fe]; exact ef_f0_ok h0 h1) rfl h4
  exact ⟨w2, hr, hW, ef_s_trans s1 s3, by rw [f3, fe]⟩
end EW2
/-- GROUPS, as numbers; as the class has them; as the reference has them -/
def ef_G (gn : Nat) (Pl : Nat → Nat) (To : Nat → Int) : Prop := gn ≤ 10 ∧ ∀ g, g < gn → Pl g < 8 ∧ 0 ≤ To g ∧ To g ≤ 999
def ef_GA (w : px_W) (gn : Nat) (Pl : Nat → Nat) (To : Nat → Int) : Prop := ec_fd w 15 5 = gn ∧ ∀ g, g < gn → ef_a w 22 g = Pl g ∧ ef_a w 23 g = To g
def ef_GB (w : px_W) (gn : Nat) (Pl : Nat → Nat) (To : Nat → Int) : Prop := ef_a w 152 4 = gn ∧ ∀ g, g < gn → ef_a w 152 (176 + 4 * g + 2) = Pl g ∧ ef_a w 152 (176 + 4 * g + 3) = To g
/-- what reach answers -/
def ef_rv (c gn : Nat) (A B Pl : Nat → Nat) (Mi Ti To : Nat → Int) (x1 x2 : Int) : Int := if (0 ≤ x1 ∧ x1 ≤ (gn : Int) - 1) ∧ 0 ≤ x2 ∧ x2 ≤ 7 then (if ef_it A B Mi Ti c 8 (ef_f0 (Pl x1.toNat) (To x1.toNat)) x2.toNat = 1000000 then -3 else ef_it A B Mi Ti c 8 (ef_f0 (Pl x1.toNat) (To x1.toNat)) x2.toNat) else -1
theorem ew_reachA {c gn : Nat} {A B Pl : Nat → Nat} {Mi Ti To : Nat → Int} {w : px_W} {x1 x2 : Int} {n : Nat} {r : Option Value × px_W} (hD : ef_D c A B Mi Ti) (hA : ef_DA w c A B Mi Ti) (hG : ef_G gn Pl To) (hGA : ef_GA w gn Pl To) (r1 : -2147483648 ≤ x1 ∧ x1 ≤ 2147483647) (r2 : -2147483648 ≤ x2 ∧ x2 ≤ 2147483647) (h : ec_E hb_X n 132 0 [(0, .inr (.inl 64)), (1, .inl x1), (2, .inl x2)] [] w r) : ∃ w' : px_W, r = (ec_R (ef_rv c gn A B Pl Mi Ti To x1 x2), w') ∧ ec_W hb_A w' ∧ ef_s [28] w w' := by
  have g0 := hG.1
  have t0 : ec_tw 0 = 0 := rfl
  have tg : ec_tw ((gn : Int) - 1) = (gn : Int) - 1 := ec_tw_id (by omega) (by omega)
  have tx1 : ec_tw x1 = x1 := ec_tw_id r1.1 r1.2
  have tx2 : ec_tw x2 = x2 := ec_tw_id r2.1 r2.2
  unfold ef_rv
  obtain ⟨_, v1, w1, a1, a2⟩ := eg132_0_0_0 h
  obtain ⟨e1, hW1⟩ := ew_within a1
  rw [hGA.1, tg, t0, tx1] at e1
  injection e1 with e1 e1'
  subst e1'
  have a3 := a2 _ e1 hW1
  by_cases cg : 0 ≤ x1 ∧ x1 ≤ (gn : Int) - 1
  · rw [if_pos cg] at a3
    obtain ⟨_, v2, w2, a4, a5⟩ := eg132_0_14_1 a3 (by decide)
    obtain ⟨e3, hW2⟩ := ew_isPlaceA a4
    rw [tx2] at e3
    injection e3 with e3 e3'
    subst e3'
    have a6 := a5 _ e3 hW2
    by_cases cp : 0 ≤ x2 ∧ x2 ≤ 7
    · rw [if_pos cp] at a6
      obtain ⟨_, v3, w3, a7, a8⟩ := eg132_0_21_0 a6 (by decide)
      obtain ⟨g, rfl⟩ : ∃ g : Nat, x1 = g := ⟨x1.toNat, by omega⟩
      obtain ⟨p, rfl⟩ : ∃ p : Nat, x2 = p := ⟨x2.toNat, by omega⟩
      have q0 := hG.2 g (by omega)
      have q1 := hGA.2 g (by omega)
      obtain ⟨w3', e4, hW3, s3, f3⟩ := ew_spread hD hA (by omega) q1.1 q0.1 q1.2 q0.2.1 q0.2.2 a7
      injection e4 with e4 e4'
      subst e4'
      have a9 := a8 e4 hW3
      have k0 := eg132_0_34_0 a9
      have k1 := eg132_0_34_1 a9
      have tm : ec_tw 1000000 = 1000000 := rfl
      rw [tx2, ef_rd, ef_tw, tm, f3] at k0 k1
      rw [if_pos ⟨cg, cp⟩, Int.toNat_natCast, Int.toNat_natCast]
      by_cases cm : ef_it A B Mi Ti c 8 (ef_f0 (Pl g) (To g)) p = 1000000
      · rw [if_pos cm]
        obtain ⟨_, hr, hW⟩ := k1 cm
        exact ⟨w3, hr, hW, s3⟩
      · rw [if_neg cm]
        obtain ⟨_, hr, hW⟩ := k0 cm
        exact ⟨w3, hr, hW, s3⟩
    · rw [if_neg cp] at a6
      obtain ⟨_, hr, hW⟩ := eg132_0_21_1 a6 rfl
      rw [if_neg (fun e => cp e.2)]
      exact ⟨_, hr, hW, ef_s_refl⟩
  · rw [if_neg cg] at a3
    obtain ⟨_, hr, hW⟩ := eg132_0_14_0 a3 rfl
    rw [if_neg (fun e => cg e.1)]
    exact ⟨_, hr, hW, ef_s_refl⟩
theorem ew_reachB {c gn : Nat} {A B Pl : Nat → Nat} {Mi Ti To : Nat → Int} {w : px_W} {x1 x2 : Int} {n : Nat} {r : Option Value × px_W} (hD : ef_D c A B Mi Ti) (hB : ef_DB w c A B Mi Ti) (hG : ef_G gn Pl To) (hGB : ef_GB w gn Pl To) (r1 : -2147483648 ≤ x1 ∧ x1 ≤ 2147483647) (r2 : -2147483648 ≤ x2 ∧ x2 ≤ 2147483647) (h : ec_E hb_X n 211 0 [(0, .inr (.inl 215)), (1, .inl x1), (2, .inl x2)] [] w r) : ∃ w' : px_W, r = (ec_R (ef_rv c gn A B Pl Mi Ti To x1 x2), w') ∧ ec_W hb_A w' ∧ ef_s [159] w w' := by
  have g0 := hG.1
  have tg : ec_tw ((gn : Int) - 1) = (gn : Int) - 1 := ec_tw_id (by omega) (by omega)
  have tx1 : ec_tw x1 = x1 := ec_tw_id r1.1 r1.2
  have tx2 : ec_tw x2 = x2 := ec_tw_id r2.1 r2.2
  unfold ef_rv
  obtain ⟨_, v1, w1, a1, a2⟩ := eg211_151_0_0 h
  obtain ⟨e1, hW1⟩ := ew_isGroup a1
  rw [hGB.1, tg, tx1] at e1
  injection e1 with e1 e1'
  subst e1'
  have a3 := a2 _ e1 hW1
  by_cases cg : 0 ≤ x1 ∧ x1 ≤ (gn : Int) - 1
  · rw [if_pos cg] at a3
    obtain ⟨_, v2, w2, a4, a5⟩ := eg211_151_5_1 a3 (by decide)
    obtain ⟨e3, hW2⟩ := ew_isPlaceB a4
    rw [tx2] at e3
    injection e3 with e3 e3'
    subst e3'
    have a6 := a5 _ e3 hW2
    by_cases cp : 0 ≤ x2 ∧ x2 ≤ 7
    · rw [if_pos cp] at a6
      obtain ⟨_, v3, w3, a7, a8⟩ := eg211_151_12_0 a6 (by decide)
      obtain ⟨g, rfl⟩ : ∃ g : Nat, x1 = g := ⟨x1.toNat, by omega⟩
      obtain ⟨p, rfl⟩ : ∃ p : Nat, x2 = p := ⟨x2.toNat, by omega⟩
      have q0 := hG.2 g (by omega)
      have q1 := hGB.2 g (by omega)
      obtain ⟨w3', e4, hW3, s3, f3⟩ := ew_findReach hD hB (by omega) q1.1 q0.1 q1.2 q0.2.1 q0.2.2 a7
      injection e4 with e4 e4'
      subst e4'
      have a9 := a8 e4 hW3
      have k0 := eg211_151_22_0 a9
      have k1 := eg211_151_22_1 a9
      have tm : ec_tw 1000000 = 1000000 := rfl
      rw [tx2, ef_rd, ef_tw, tm, f3] at k0 k1
      rw [if_pos ⟨cg, cp⟩, Int.toNat_natCast, Int.toNat_natCast]
      by_cases cm : ef_it A B Mi Ti c 8 (ef_f0 (Pl g) (To g)) p = 1000000
      · rw [if_pos cm]
        obtain ⟨_, hr, hW⟩ := k1 cm
        exact ⟨w3, hr, hW, s3⟩
      · rw [if_neg cm]
        obtain ⟨_, hr, hW⟩ := k0 cm
        exact ⟨w3, hr, hW, s3⟩
    · rw [if_neg cp] at a6
      obtain ⟨_, hr, hW⟩ := eg211_151_12_1 a6 rfl
      rw [if_neg (fun e => cp e.2)]
      exact ⟨_, hr, hW, ef_s_refl⟩
  · rw [if_neg cg] at a3
    obtain ⟨_, hr, hW⟩ := eg211_151_5_0 a3 rfl
    rw [if_neg (fun e => cg e.1)]
    exact ⟨_, hr, hW, ef_s_refl⟩

end
