noncomputable section
/-! BOATS (SEATS, READINGS) and SHELVES are the same on both sides -/
def eb_P : ej_T := fun F R D => ∃ b : Nat, b ≤ 8 ∧ F 15 10 = (b : Int) ∧ D 5 = (b : Int) ∧ ∀ i, i < b → R 24 i = D (216 + 4 * i) ∧ R 27 i = D (216 + 4 * i + 3)
def eb_FL : List (Nat × Nat) := [(15, 10)]
def eb_RL : List (Nat × Nat) := [(24, 8), (27, 8)]
def eb_DL : List (Nat × Nat) := [(5, 6), (216, 248)]
theorem eb_dep : ej_dep eb_FL eb_RL eb_DL eb_P := by
  intro F F' R R' D D' hF hR hD h
  obtain ⟨b, h8, h1, h2, h3⟩ := h
  have f0 : F' 15 10 = F 15 10 := hF (15, 10) (by decide)
  have r24 : ∀ p, p < 8 → R' 24 p = R 24 p := hR (24, 8) (by decide)
  have r27 : ∀ p, p < 8 → R' 27 p = R 27 p := hR (27, 8) (by decide)
  have d5 : D' 5 = D 5 := hD (5, 6) (by decide) 5 (by decide) (by decide)
  have d216 : ∀ p, 216 ≤ p → p < 248 → D' p = D p := hD (216, 248) (by decide)
  refine ⟨b, h8, f0.trans h1, d5.trans h2, fun i hi => ?_⟩
  rw [r24 i (by omega), r27 i (by omega), d216 (216 + 4 * i) (by omega) (by omega), d216 (216 + 4 * i + 3) (by omega) (by omega)]
  exact h3 i hi
def eb_R (w : px_W) : Prop := ej_RR eb_P w
def eb_dc : List (Nat × Nat × Nat) := ej_dc eb_FL eb_RL eb_DL
theorem eb_dc_st {w w' : px_W} (hW : ec_W hb_A w) (hW' : ec_W hb_A w') (h : ∀ p ∈ eb_dc, ∀ i, p.2.1 ≤ i → i < p.2.2 → sy_get w' p.1 i = sy_get w p.1 i) (hR : eb_R w) : eb_R w' := ej_dc_st (by decide +kernel) eb_dep hW hW' h hR
theorem eb_frB {Wr : sy_Wr} {w w1 : px_W} (hd : hb_dj Wr eb_dc = true) (hW : ec_W hb_A w) (hW1 : ec_W hb_A w1) (f : ∀ k i : Nat, sy_may Wr k i = false → sy_get w1 k i = sy_get w k i) (hR : eb_R w) : eb_R w1 := eb_dc_st hW hW1 (fun p hp i h1 h2 => f p.1 i (hb_dj_ok hd hp h1 h2)) hR
theorem eb_keep2 {xs : List Int32} {n : Nat} {w wA wB : px_W} {vA vB : Option Value} (hR : eb_R w) (hA : ec_F (hb_XL xs) n 171 [.inr (.inl 64)] w (vA, wA)) (hB : ec_F (hb_XL xs) n 292 [.inr (.inl 215)] wA (vB, wB)) : eb_R wB := ej_keep2 (by decide +kernel) (by decide +kernel) eb_dep hR hA hB
theorem eb_again2 {xs : List Int32} {n : Nat} {w wA wB : px_W} {vA vB : Option Value} (hR : eb_R w) (hA : ec_F (hb_XL xs) n 172 [.inr (.inl 64)] w (vA, wA)) (hB : ec_F (hb_XL xs) n 293 [.inr (.inl 215)] wA (vB, wB)) : eb_R wB := ej_again2 (by decide +kernel) (by decide +kernel) eb_dep hR hA hB
theorem eb_kcg {P : ej_T} {FL RL DL : List (Nat × Nat)} {S : List Nat} {w w' : px_W} (hd : ej_dep FL RL DL P) (hF : ∀ q ∈ FL, q.1 + 58 ∉ S) (hR : ∀ q ∈ RL, q.1 + 58 ∉ S) (h0 : 0 ∉ S) (h3 : 153 ∉ S) (s : ef_s S w w') (f2 : ec_fd w' 151 2 = ec_fd w 151 2) (h : ej_kc P w) : ej_kc P w' := by
  have k1 : ec_fd w' 0 14 = ec_fd w 0 14 := ef_s_f s h0 14
  rcases h with ⟨g1, g2⟩ | ⟨g1, g2, g3⟩
  · exact .inl ⟨k1.trans g1, f2.trans g2⟩
  · exact .inr ⟨k1.trans g1, f2.trans g2, ej_P_of hd (fun q hq => ef_s_f s (hF q hq) q.2) (fun q hq p _ => congrFun (ef_s_a s (hR q hq)) p) (fun q _ p _ _ => congrFun (ef_s_a s h3) p) g3⟩
theorem eb_boat2 {xs : List Int32} {n : Nat} {w wA wB : px_W} {vA vB : Option Value} {x1 x2 x3 x4 : Int} (hR : eb_R w) (hA : ec_F (hb_XL xs) n 133 [.inr (.inl 64), .inl x1, .inl x2, .inl x3, .inl x4] w (vA, wA)) (hB : ec_F (hb_XL xs) n 212 [.inr (.inl 215), .inl x1, .inl x2, .inl x3, .inl x4] wA (vB, wB)) : eb_R wB := by
  obtain ⟨b, h8, h1, h2, h3⟩ := hR.1
  have q1 : ec_fd w 15 10 = (b : Int) := h1
  have q2 : ef_a w 152 5 = (b : Int) := h2
  have q3 : ∀ i, i < b → ef_a w 24 i = ef_a w 152 (216 + 4 * i) ∧ ef_a w 27 i = ef_a w 152 (216 + 4 * i + 3) := h3
  have W0 := hA.1
  obtain ⟨_, w', e, WA, o⟩ := ew_boatA (hb_FE hA)
  injection e with _ e
  rw [← e, q1] at o
  rw [← e] at WA
  rcases o with ⟨p, eA⟩ | ⟨p, eA⟩
  · rw [eA] at hB
    obtain ⟨_, w2, e2, _, o2⟩ := ew_boatB (c := b) q2 h8 (hb_FE hB)
    injection e2 with _ e2
    rw [← e2] at o2
    rcases o2 with ⟨_, eB⟩ | ⟨p2, _⟩
    · rw [eB]
      exact hR
    · exact absurd ⟨p2.1, by have := p2.2; omega⟩ p
  · have c5 : b < 8 := by
      have := p.2
      omega
    unfold ef_addboatA at eA
    have Wa : ec_W hb_A (ec_wr w 24 (b : Int) x1) := ec_W_wr W0
    have Wd : ec_W hb_A (ec_wr (ec_wr (ec_wr (ec_wr w 24 (b : Int) x1) 25 (b : Int) x2) 26 (b : Int) x3) 27 (b : Int) x4) := ec_W_wr (ec_W_wr (ec_W_wr Wa))
    have s1 : ef_s [15, 24, 25, 26, 27] w wA := by
      rw [eA]
      exact ef_s_trans (ef_s_trans (ef_s_trans (ef_s_trans (ef_s_wr (by decide)) (ef_s_wr (by decide))) (ef_s_wr (by decide))) (ef_s_wr (by decide))) (ef_s_pf (by decide))
    have f15 : ec_fd wA 15 10 = ((b + 1 : Nat) : Int) := by
      rw [eA, ec_fd_pf (k := 15) (f := 10) Wd rfl (by decide), if_pos rfl]
      exact ec_twn (n := b + 1) (by omega)
    have a24 : ∀ i, ef_a wA 24 i = if i = b then ec_tw x1 else ef_a w 24 i := by
      intro i
      rw [eA, ef_s_a (ef_s_pf (S := [15]) List.mem_cons_self) (by decide), ef_a_wr_o (by decide), ef_a_wr_o (by decide), ef_a_wr_o (by decide), ef_a_wr (n := 8) W0 rfl (by omega) (by omega)]
      unfold ef_u
      rw [Int.toNat_natCast]
    have Wc : ec_W hb_A (ec_wr (ec_wr (ec_wr w 24 (b : Int) x1) 25 (b : Int) x2) 26 (b : Int) x3) := ec_W_wr (ec_W_wr Wa)
    have a27 : ∀ i, ef_a wA 27 i = if i = b then ec_tw x4 else ef_a w 27 i := by
      intro i
      rw [eA, ef_s_a (ef_s_pf (S := [15]) List.mem_cons_self) (by decide), ef_a_wr (n := 8) Wc rfl (by omega) (by omega)]
      unfold ef_u
      rw [Int.toNat_natCast, ef_a_wr_o (by decide), ef_a_wr_o (by decide), ef_a_wr_o (by decide)]
    have d1 : ef_a wA 152 = ef_a w 152 := ef_s_a s1 (by decide)
    obtain ⟨_, w2, e2, _, o2⟩ := ew_boatB (c := b) (w := wA) (by rw [d1]; exact q2) h8 (hb_FE hB)
    injection e2 with _ e2
    rw [← e2] at o2
    rcases o2 with ⟨p2, _⟩ | ⟨_, s2, d2⟩
    · exact absurd ⟨p.1, c5⟩ p2
    · have s12 : ef_s [15, 24, 25, 26, 27, 152] w wB := ef_s_trans (ef_s_mono s1 (by decide)) (ef_s_mono s2 (by decide))
      refine ⟨⟨b + 1, by omega, ?_, ?_, fun i hi => ?_⟩, ?_⟩
      · show ec_fd wB 15 10 = ((b + 1 : Nat) : Int)
        rw [ef_s_f s2 (by decide)]
        exact f15
      · show ef_a wB 152 5 = ((b + 1 : Nat) : Int)
        rw [d2 5, if_pos rfl]
        rfl
      · show ef_a wB 24 i = ef_a wB 152 (216 + 4 * i) ∧ ef_a wB 27 i = ef_a wB 152 (216 + 4 * i + 3)
        rw [ef_s_a s2 (k := 24) (by decide), ef_s_a s2 (k := 27) (by decide), a24 i, a27 i, d2 (216 + 4 * i), d2 (216 + 4 * i + 3), if_neg (by omega : ¬ 216 + 4 * i = 5), if_neg (by omega : ¬ 216 + 4 * i + 3 = 5)]
        by_cases q : i = b
        · have c0 : 216 + 4 * i = 216 + 4 * b := by omega
          have c1 : ¬ 216 + 4 * i + 3 = 216 + 4 * b := by omega
          have c2 : ¬ 216 + 4 * i + 3 = 216 + 4 * b + 1 := by omega
          have c3 : ¬ 216 + 4 * i + 3 = 216 + 4 * b + 2 := by omega
          have c4 : 216 + 4 * i + 3 = 216 + 4 * b + 3 := by omega
          rw [if_pos q, if_pos q, if_pos c0, if_neg c1, if_neg c2, if_neg c3, if_pos c4]
          exact ⟨rfl, rfl⟩
        · have o0 : ¬ 216 + 4 * i = 216 + 4 * b := by omega
          have o1 : ¬ 216 + 4 * i = 216 + 4 * b + 1 := by omega
          have o2 : ¬ 216 + 4 * i = 216 + 4 * b + 2 := by omega
          have o3 : ¬ 216 + 4 * i = 216 + 4 * b + 3 := by omega
          have c1 : ¬ 216 + 4 * i + 3 = 216 + 4 * b := by omega
          have c2 : ¬ 216 + 4 * i + 3 = 216 + 4 * b + 1 := by omega
          have c3 : ¬ 216 + 4 * i + 3 = 216 + 4 * b + 2 := by omega
          have c4 : ¬ 216 + 4 * i + 3 = 216 + 4 * b + 3 := by omega
          rw [if_neg q, if_neg q, if_neg o0, if_neg o1, if_neg o2, if_neg o3, if_neg c1, if_neg c2, if_neg c3, if_neg c4, d1]
          exact q3 i (by omega)
      · exact eb_kcg eb_dep (by decide) (by decide) (by decide) (by decide) s12 (ef_s_f s12 (by decide) 2) hR.2

end
