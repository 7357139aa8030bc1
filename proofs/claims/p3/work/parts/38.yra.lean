noncomputable section
/-! THE HULL: A MINUTE AS A FUNCTION OF WATER, ROOM, HOLES, PUMPS, HEIGHTS, DOORS -/
theorem ec_tw_addl (a b : Int) : ec_tw (ec_tw a + b) = ec_tw (a + b) := by
  unfold ec_tw
  rw [Int32.ofInt_add, Int32.ofInt_add, Int32.ofInt_toInt]
theorem ec_dv_tw (a b : Int) : ec_dv (ec_tw a) b = ec_dv a b := by
  unfold ec_dv
  rw [ec_of_tw]
theorem ec_tw_dv (a b : Int) : ec_tw (ec_dv a b) = ec_dv a b := by
  unfold ec_tw ec_dv
  rw [Int32.ofInt_toInt]
theorem ec_dv_ct {a b : Int} (h1 : -2147483648 ≤ a) (h2 : a ≤ 2147483647) (h3 : 0 < b) (h4 : b ≤ 2147483647) : ec_dv a b = a.tdiv b := by
  have e1 : (Int32.ofInt a).toInt = a := ec_tw_id h1 h2
  have e2 : (Int32.ofInt b).toInt = b := ec_tw_id (by omega) h4
  have e3 : Int32.ofInt b ≠ -1 := by
    intro e
    rw [e] at e2
    have e4 : (-1 : Int32).toInt = -1 := by decide
    omega
  unfold ec_dv
  rw [Int32.toInt_div_of_ne_right _ _ e3, e1, e2]
theorem ec_dv_nn {a b : Int} (h1 : 0 ≤ a) (h2 : a ≤ 2147483647) (h3 : 0 < b) (h4 : b ≤ 2147483647) : ec_dv a b = a / b := by
  rw [ec_dv_ct (by omega) h2 h3 h4, Int.tdiv_eq_ediv_of_nonneg h1]
theorem ec_dv_np {a b : Int} (h1 : -2147483647 ≤ a) (h2 : a ≤ 0) (h3 : 0 < b) (h4 : b ≤ 2147483647) : ec_dv a b ≤ 0 := by
  have e : a = -(-a) := by omega
  rw [ec_dv_ct (by omega) (by omega) h3 h4, e, Int.neg_tdiv, Int.tdiv_eq_ediv_of_nonneg (by omega)]
  have := Int.ediv_nonneg (a := -a) (b := b) (by omega) (by omega)
  omega
def eh_lv (W R : Nat → Int) (c : Nat) : Int := ec_dv (100 * W c) (R c)
def eh_ou (a t c : Int) : Int := max 0 (min 100 (ec_tw (40 + ec_dv a 20 + ec_dv (t * (7 - 2 * c)) 7)))
theorem eh_ou_in (a t c : Int) : 0 ≤ eh_ou a t c ∧ eh_ou a t c ≤ 100 := by
  unfold eh_ou
  omega
theorem eh_cl (x : Int) : ec_tw (ec_mx 0 (ec_mn 100 x)) = max 0 (min 100 (ec_tw x)) := by
  have t0 : ec_tw 0 = 0 := rfl
  have t1 : ec_tw 100 = 100 := rfl
  unfold ec_mx ec_mn
  by_cases h1 : ec_tw x < ec_tw 100
  · rw [if_pos h1]
    by_cases h2 : ec_tw 0 < ec_tw x
    · rw [if_pos h2]
      omega
    · rw [if_neg h2]
      omega
  · rw [if_neg h1, if_pos (by decide)]
    omega
/-- ranges of a hull -/
def eh_D (W R H P : Nat → Int) : Prop := ∀ c, c < 8 → (0 ≤ W c ∧ W c ≤ R c) ∧ (10 ≤ R c ∧ R c ≤ 999) ∧ (0 ≤ H c ∧ H c ≤ 9) ∧ (0 ≤ P c ∧ P c ≤ 9)
theorem eh_lv_in {W R H P : Nat → Int} (hD : eh_D W R H P) {c : Nat} (hc : c < 8) : 0 ≤ eh_lv W R c ∧ eh_lv W R c ≤ 100 := by
  obtain ⟨⟨a1, a2⟩, ⟨a3, a4⟩, _⟩ := hD c hc
  unfold eh_lv
  rw [ec_dv_nn (by omega) (by omega) (by omega) (by omega)]
  exact ⟨Int.ediv_nonneg (by omega) (by omega), Int.ediv_le_of_le_mul (by omega) (by omega)⟩
/-- what comes in by a hole -/
def eh_in (h b : Int) : Int := if 0 < b then ec_dv (h * b) 10 else 0
theorem eh_mul {h b : Int} (h1 : 0 ≤ h) (h2 : h ≤ 9) (h3 : -100 ≤ b) (h4 : b ≤ 100) : -900 ≤ h * b ∧ h * b ≤ 900 ∧ (0 ≤ b → 0 ≤ h * b) ∧ (b ≤ 0 → h * b ≤ 0) := by
  have : h = 0 ∨ h = 1 ∨ h = 2 ∨ h = 3 ∨ h = 4 ∨ h = 5 ∨ h = 6 ∨ h = 7 ∨ h = 8 ∨ h = 9 := by omega
  rcases this with rfl | rfl | rfl | rfl | rfl | rfl | rfl | rfl | rfl | rfl <;> omega
theorem eh_in_in {h b : Int} (h1 : 0 ≤ h) (h2 : h ≤ 9) (h3 : -100 ≤ b) (h4 : b ≤ 100) : 0 ≤ eh_in h b ∧ eh_in h b ≤ 90 := by
  obtain ⟨m1, m2, m3, m4⟩ := eh_mul h1 h2 h3 h4
  unfold eh_in
  by_cases hb : 0 < b
  · have m5 := m3 (by omega)
    rw [if_pos hb, ec_dv_nn m5 (by omega) (by decide) (by decide)]
    omega
  · rw [if_neg hb]
    decide
theorem eh_in_0 (b : Int) : eh_in 0 b = 0 := by
  unfold eh_in
  rw [Int.zero_mul]
  split <;> rfl
theorem eh_in_mx {h b : Int} (h1 : 0 ≤ h) (h2 : h ≤ 9) (h3 : -100 ≤ b) (h4 : b ≤ 100) : ec_mx 0 (ec_dv (h * b) 10) = eh_in h b := by
  obtain ⟨m1, m2, m3, m4⟩ := eh_mul h1 h2 h3 h4
  have t0 : ec_tw 0 = 0 := rfl
  unfold ec_mx eh_in
  rw [ec_tw_dv, t0]
  by_cases hb : 0 < b
  · have m5 := m3 (by omega)
    have q : 0 ≤ ec_dv (h * b) 10 := by
      rw [ec_dv_nn m5 (by omega) (by decide) (by decide)]
      omega
    rw [if_pos hb]
    by_cases q2 : 0 < ec_dv (h * b) 10
    · rw [if_pos q2]
    · rw [if_neg q2]
      omega
  · have m5 := m4 (by omega)
    have q := ec_dv_np (a := h * b) (b := 10) (by omega) m5 (by decide) (by decide)
    rw [if_neg hb, if_neg (by omega)]
/-- before the walls -/
def eh_g0 (W R H P : Nat → Int) (a t : Int) (c : Nat) : Int := eh_in (H c) (eh_ou a t (c : Int) - eh_lv W R c) - P c
/-- over a wall -/
def eh_go (L S D : Nat → Int) (k : Nat) : Int := if max (if D k = 1 then 0 else S k) (min (L k) (L (k + 1))) < max (L k) (L (k + 1)) then ec_dv (max (L k) (L (k + 1)) - max (if D k = 1 then 0 else S k) (min (L k) (L (k + 1)))) 4 else 0
def eh_st (L S D G : Nat → Int) (k c : Nat) : Int := if c = k then G c + (if L k < L (k + 1) then eh_go L S D k else -(eh_go L S D k)) else if c = k + 1 then G c + (if L k < L (k + 1) then -(eh_go L S D k) else eh_go L S D k) else G c
def eh_fl (L S D G : Nat → Int) : Nat → Nat → Int
  | 0 => G
  | k + 1 => eh_st L S D (eh_fl L S D G k) k
theorem eh_go_in {L S D : Nat → Int} {k : Nat} (h1 : 0 ≤ L k ∧ L k ≤ 100) (h2 : 0 ≤ L (k + 1) ∧ L (k + 1) ≤ 100) : 0 ≤ eh_go L S D k ∧ eh_go L S D k ≤ 25 := by
  unfold eh_go
  generalize (if D k = 1 then 0 else S k) = s
  by_cases h : max s (min (L k) (L (k + 1))) < max (L k) (L (k + 1))
  · rw [if_pos h, ec_dv_nn (by omega) (by omega) (by decide) (by decide)]
    omega
  · rw [if_neg h]
    decide
theorem eh_go_eq {L S D : Nat → Int} {k : Nat} (h : L k = L (k + 1)) : eh_go L S D k = 0 := by
  unfold eh_go
  generalize (if D k = 1 then 0 else S k) = s
  rw [if_neg (by omega)]
theorem eh_st_0 {L S D G : Nat → Int} {k c : Nat} (h : eh_go L S D k = 0) : eh_st L S D G k c = G c := by
  unfold eh_st
  rw [h]
  by_cases h1 : c = k
  · rw [if_pos h1]
    split <;> omega
  · rw [if_neg h1]
    by_cases h2 : c = k + 1
    · rw [if_pos h2]
      split <;> omega
    · rw [if_neg h2]
theorem eh_fl_in {L S D G : Nat → Int} (hL : ∀ c, c < 8 → 0 ≤ L c ∧ L c ≤ 100) (hG : ∀ c, c < 8 → -100 ≤ G c ∧ G c ≤ 100) : ∀ k : Nat, k ≤ 7 → ∀ c, c < 8 → -100 - 25 * (k : Int) ≤ eh_fl L S D G k c ∧ eh_fl L S D G k c ≤ 100 + 25 * (k : Int)
  | 0, _, c, hc => by
    have := hG c hc
    show -100 - 25 * ((0 : Nat) : Int) ≤ G c ∧ G c ≤ 100 + 25 * ((0 : Nat) : Int)
    omega
  | k + 1, hk, c, hc => by
    have ih := eh_fl_in (S := S) (D := D) hL hG k (by omega) c hc
    have g := eh_go_in (S := S) (D := D) (hL k (by omega)) (hL (k + 1) (by omega))
    show -100 - 25 * ((k + 1 : Nat) : Int) ≤ eh_st L S D (eh_fl L S D G k) k c ∧ eh_st L S D (eh_fl L S D G k) k c ≤ 100 + 25 * ((k + 1 : Nat) : Int)
    unfold eh_st
    split
    · split <;> omega
    · split
      · split <;> omega
      · omega
def eh_nw (W R F : Nat → Int) (c : Nat) : Int := max 0 (min (R c) (W c + F c))
/-- WATER after a minute -/
def eh_nx (W R H P S D : Nat → Int) (a t : Int) : Nat → Int := eh_nw W R (eh_fl (eh_lv W R) S D (eh_g0 W R H P a t) 7)
def eh_sk (a t : Int) : Prop := eh_ou a t 0 = 100 ∨ eh_ou a t 7 = 100
theorem eh_g0_in {W R H P : Nat → Int} {a t : Int} (hD : eh_D W R H P) {c : Nat} (hc : c < 8) : -100 ≤ eh_g0 W R H P a t c ∧ eh_g0 W R H P a t c ≤ 100 := by
  obtain ⟨_, _, h1, h2⟩ := hD c hc
  have l := eh_lv_in hD hc
  have o := eh_ou_in a t (c : Int)
  have i := eh_in_in (h := H c) (b := eh_ou a t (c : Int) - eh_lv W R c) h1.1 h1.2 (by omega) (by omega)
  unfold eh_g0
  omega
theorem eh_f7_in {W R H P S D : Nat → Int} {a t : Int} (hD : eh_D W R H P) {k c : Nat} (hk : k ≤ 7) (hc : c < 8) : -300 ≤ eh_fl (eh_lv W R) S D (eh_g0 W R H P a t) k c ∧ eh_fl (eh_lv W R) S D (eh_g0 W R H P a t) k c ≤ 300 := by
  have := eh_fl_in (L := eh_lv W R) (G := eh_g0 W R H P a t) (S := S) (D := D) (fun c hc => eh_lv_in hD hc) (fun c hc => eh_g0_in (a := a) (t := t) hD hc) k hk c hc
  omega
theorem eh_nx_in {W R H P S D : Nat → Int} {a t : Int} (hD : eh_D W R H P) : eh_D (eh_nx W R H P S D a t) R H P := by
  intro c hc
  obtain ⟨h1, h2, h3, h4⟩ := hD c hc
  refine ⟨?_, h2, h3, h4⟩
  unfold eh_nx eh_nw
  omega
/-- all WATER and its turning -/
def eh_all (W : Nat → Int) : Nat → Int
  | 0 => 0
  | k + 1 => eh_all W k + W k
def eh_mom (W : Nat → Int) : Nat → Int
  | 0 => 0
  | k + 1 => eh_mom W k + W k * (7 - 2 * (k : Int))
theorem eh_all_cg {W V : Nat → Int} : ∀ k, (∀ c, c < k → W c = V c) → eh_all W k = eh_all V k
  | 0, _ => rfl
  | k + 1, h => by
    show eh_all W k + W k = eh_all V k + V k
    rw [eh_all_cg k (fun c hc => h c (by omega)), h k (by omega)]
theorem eh_mom_cg {W V : Nat → Int} : ∀ k, (∀ c, c < k → W c = V c) → eh_mom W k = eh_mom V k
  | 0, _ => rfl
  | k + 1, h => by
    show eh_mom W k + W k * (7 - 2 * (k : Int)) = eh_mom V k + V k * (7 - 2 * (k : Int))
    rw [eh_mom_cg k (fun c hc => h c (by omega)), h k (by omega)]
def eh_al (W : Nat → Int) : Int := ec_tw (eh_all W 8)
def eh_tl (W : Nat → Int) : Int := ec_dv (eh_mom W 8) 100
theorem eh_al_cg {W V : Nat → Int} (h : ∀ c, c < 8 → W c = V c) : eh_al W = eh_al V := by
  unfold eh_al
  rw [eh_all_cg 8 h]
theorem eh_tl_cg {W V : Nat → Int} (h : ∀ c, c < 8 → W c = V c) : eh_tl W = eh_tl V := by
  unfold eh_tl
  rw [eh_mom_cg 8 h]
theorem eh_go_cg {L S D L' S' D' : Nat → Int} {k : Nat} (h1 : L k = L' k) (h2 : L (k + 1) = L' (k + 1)) (h3 : S k = S' k) (h4 : D k = D' k) : eh_go L S D k = eh_go L' S' D' k := by
  unfold eh_go
  rw [h1, h2, h3, h4]
theorem eh_fl_cg {L S D G L' S' D' G' : Nat → Int} (hL : ∀ c, c < 8 → L c = L' c) (hS : ∀ c, c < 7 → S c = S' c ∧ D c = D' c) (hG : ∀ c, c < 8 → G c = G' c) : ∀ k, k ≤ 7 → ∀ c, c < 8 → eh_fl L S D G k c = eh_fl L' S' D' G' k c
  | 0, _, c, hc => hG c hc
  | k + 1, hk, c, hc => by
    show eh_st L S D (eh_fl L S D G k) k c = eh_st L' S' D' (eh_fl L' S' D' G' k) k c
    unfold eh_st
    rw [eh_fl_cg hL hS hG k (by omega) c hc, hL k (by omega), hL (k + 1) (by omega), eh_go_cg (hL k (by omega)) (hL (k + 1) (by omega)) (hS k (by omega)).1 (hS k (by omega)).2]

end
