noncomputable section
/-! RULES: the class reads THE TAPE -/
theorem er_co_r {t : Nat → Int} {N : Nat} (hb : ∀ i, i < N → 0 ≤ t i ∧ t i ≤ 255) (i : Nat) : 0 ≤ er_co t N i ∧ er_co t N i ≤ 400 := by
  have kin := er_cc_in _ (er_wk_lt (er_bs t i (er_en t N i)))
  unfold er_co
  by_cases c : i < N
  · have bi := hb i c
    rw [if_pos c]
    split
    · omega
    · split <;> omega
  · rw [if_neg c]
    decide
theorem er_va_r {t : Nat → Int} {N : Nat} (hb : ∀ i, i < N → 0 ≤ t i ∧ t i ≤ 255) (i : Nat) : -100000 ≤ er_va t N i ∧ er_va t N i ≤ 100000 := by
  unfold er_va
  by_cases c : i < N ∧ er_dg (t i) = true
  · rw [if_pos c]
    have eb := er_en_b (t := t) c.1
    by_cases q : 3 < er_en t N i - i
    · rw [if_pos q]
      decide
    · rw [if_neg q]
      exact er_nb_in hb _ (by omega) (by omega)
  · rw [if_neg c]
    decide
section ER16
variable {N : Nat} {t : Nat → Int} {H : Bool} {M : Nat → Int} {c : Nat}
/-- what may change while THE TAPE is read -/
def er_k3 (c : Nat) (w w' : px_W) : Prop := ef_s [137, 139, 140, 141, 46, 47, 48, 49, 50, 51] w w' ∧ (∀ v, v ≠ c → ef_a w' 51 v = ef_a w 51 v ∧ ef_a w' 46 v = ef_a w 46 v) ∧ (∀ i, (i < c * 64 ∨ c * 64 + 64 ≤ i) → ef_a w' 50 i = ef_a w 50 i) ∧ ∀ i, (i < c * 8 ∨ c * 8 + 8 ≤ i) → ef_a w' 47 i = ef_a w 47 i ∧ ef_a w' 48 i = ef_a w 48 i ∧ ef_a w' 49 i = ef_a w 49 i
theorem ew_into {n : Nat} {w w1 : px_W} {v : Option Value} (hN : N ≤ 200) (hb : ∀ i, i < N → 0 ≤ t i ∧ t i ≤ 255) (hc6 : c ≤ 6) (h0 : ec_fd w 137 0 = (N : Int)) (ht : ∀ y, y < N → ef_a w 138 y = t y) (h44 : ec_fd w 44 0 = (c : Int)) (h : ec_E hb_X n 53 0 [(0, .inr (.inl 201)), (1, .inr (.inl 108))] [] w (v, w1)) : ec_W hb_A w1 ∧ er_k3 c w w1 ∧ ec_fd w1 137 0 = 0 ∧ (match er_rd (fun j => er_co t N (er_p t N j)) (fun j => er_va t N (er_p t N j)) H M 8 0 [] [] with
    | (a, none) => v = ec_R (er_p t N a : Int)
    | (_, some q) => v = ec_R (-1) ∧ er_KL w1 c q.1 ∧ er_Cs w1 c q.2) := by
  obtain ⟨_, u2, w2, a1, a2⟩ := eg53_137_0_0 h
  obtain ⟨e2, W2, s2, f2, J, hJN, pJ, hlt, Tk⟩ := ew_scan hN hb h0 ht a1
  obtain ⟨_, u3, w3, a3, a4⟩ := eg53_137_4_0 (a2 e2 W2)
  have Wa : ec_W hb_A (ec_pf w2 137 0 0) := ec_W_pf (k := 137) (f := 0) rfl rfl W2
  have Wb : ec_W hb_A (ec_pf (ec_pf w2 137 0 0) 137 6 0) := ec_W_pf (k := 137) (f := 6) rfl rfl Wa
  have Wc : ec_W hb_A (ec_pf (ec_pf (ec_pf w2 137 0 0) 137 6 0) 137 7 (-1)) := ec_W_pf (k := 137) (f := 7) rfl rfl Wb
  have F : ∀ g, ec_fd (ec_pf (ec_pf (ec_pf w2 137 0 0) 137 6 0) 137 7 (-1)) 137 g = if g = 7 then ec_tw (-1) else if g = 6 then ec_tw 0 else if g = 0 then ec_tw 0 else ec_fd w2 137 g := by
    intro g
    rw [ec_fd_pf (k := 137) (f := 7) Wb rfl (by decide), ec_fd_pf (k := 137) (f := 6) Wa rfl (by decide), ec_fd_pf (k := 137) (f := 0) W2 rfl (by decide)]
  have sc : ef_s [137] w2 (ec_pf (ec_pf (ec_pf w2 137 0 0) 137 6 0) 137 7 (-1)) := ef_s_trans (ef_s_trans (ef_s_pf (by decide)) (ef_s_pf (by decide))) (ef_s_pf (by decide))
  obtain ⟨y, hy⟩ : ∃ y, y = ec_pf (ec_pf (ec_pf w2 137 0 0) 137 6 0) 137 7 (-1) := ⟨_, rfl⟩
  rw [← hy] at a3 F sc Wc
  have c44 : ec_fd y 44 0 = (c : Int) := (ef_s_f sc (by decide) 0).trans ((ef_s_f s2 (by decide) 0).trans h44)
  have tc : ec_tw (ec_fd y 44 0) = (c : Int) := by
    rw [ec_tw_fd]
    exact c44
  have g1 : ∀ (i z : Int), ec_fd (ec_wr y 46 i z) 44 0 = ec_fd y 44 0 := fun _ _ => ec_fd_wr_o (by decide)
  have k74 := eg74_44_0_0 a3
  simp only [g1, tc] at k74
  obtain ⟨_, hr, W3⟩ := k74
  injection hr with e3 i3
  have t0 : ec_tw 0 = 0 := rfl
  have W46 : ec_W hb_A (ec_wr y 46 (c : Int) 0) := ec_W_wr Wc
  have s3 : ef_s [46, 51] y w3 := by
    rw [i3]
    exact ef_s_trans (ef_s_wr (by decide)) (ef_s_wr (by decide))
  have r46 : ∀ i, ef_a w3 46 i = if i = c then 0 else ef_a y 46 i := by
    intro i
    rw [i3, ef_a_wr_o (by decide), ef_a_wr (n := 7) Wc rfl (by omega) (by omega), t0]
    unfold ef_u
    rw [Int.toNat_natCast]
  have r51 : ∀ i, ef_a w3 51 i = if i = c then 0 else ef_a y 51 i := by
    intro i
    rw [i3, ef_a_wr (n := 7) W46 rfl (by omega) (by omega), t0, ef_a_wr_o (by decide)]
    unfold ef_u
    rw [Int.toNat_natCast]
  rw [← i3] at W3
  have cJ : er_co t N (er_p t N J) = 300 := (er_co_end hb).mpr (by omega)
  have K3 : er_K w3 (fun j => er_co t N (er_p t N j)) (fun j => er_va t N (er_p t N j)) (er_p t N) J c [] 0 := by
    refine ⟨⟨fun j hj => ?_, (ef_s_f s3 (by decide) 0).trans c44⟩, ?_, Nat.zero_le _, ?_, ?_, fun i hi => absurd hi (Nat.not_lt_zero _)⟩
    · rw [ef_s_a s3 (by decide), ef_s_a s3 (by decide), ef_s_a s3 (by decide), ef_s_a sc (by decide), ef_s_a sc (by decide), ef_s_a sc (by decide)]
      exact Tk j (by omega)
    · rw [ef_s_f s3 (by decide) 6, F 6, if_neg (by decide), if_pos rfl]
      rfl
    · rw [ef_s_f s3 (by decide) 7, F 7, if_pos rfl]
      rfl
    · rw [r51 c, if_pos rfl]
      rfl
  have S3 : er_KL w3 c [] := ⟨by rw [r46 c, if_pos rfl]; rfl, fun i hi => absurd hi (Nat.not_lt_zero _)⟩
  have h25 := (eg53_137_23_0 (a4 e3 W3)).2
  obtain ⟨y1, y2, y3⟩ := ew_ri25 (C := fun j => er_co t N (er_p t N j)) (V := fun j => er_va t N (er_p t N j)) (P := er_p t N) (J := J) (H := H) (M := M) (by omega) cJ hc6 (fun j => er_co_r hb _) (fun j => er_va_r hb _) (fun j => Nat.le_trans (er_p_b j) hN) 8 n 0 [] [] w3 w1 v rfl K3 S3 h25
  refine ⟨y1, ⟨ef_s_trans (ef_s_trans (ef_s_mono s2 (by decide)) (ef_s_mono sc (by decide))) (ef_s_trans (ef_s_mono s3 (by decide)) (ef_s_mono y2.1 (by decide))), fun v hv => ⟨?_, ?_⟩, fun i hi => ?_, fun i hi => ⟨?_, ?_, ?_⟩⟩, ?_, y3⟩
  · rw [(y2.2.2.1 v hv).1, r51 v, if_neg hv, ef_s_a sc (by decide), ef_s_a s2 (by decide)]
  · rw [(y2.2.2.1 v hv).2, r46 v, if_neg hv, ef_s_a sc (by decide), ef_s_a s2 (by decide)]
  · rw [y2.2.2.2.1 i hi, ef_s_a s3 (by decide), ef_s_a sc (by decide), ef_s_a s2 (by decide)]
  · rw [(y2.2.2.2.2 i hi).1, ef_s_a s3 (by decide), ef_s_a sc (by decide), ef_s_a s2 (by decide)]
  · rw [(y2.2.2.2.2 i hi).2.1, ef_s_a s3 (by decide), ef_s_a sc (by decide), ef_s_a s2 (by decide)]
  · rw [(y2.2.2.2.2 i hi).2.2, ef_s_a s3 (by decide), ef_s_a sc (by decide), ef_s_a s2 (by decide)]
  · rw [y2.2.1 0 (by decide) (by decide), ef_s_f s3 (by decide) 0, F 0, if_neg (by decide), if_neg (by decide), if_pos rfl]
    rfl
end ER16

end
