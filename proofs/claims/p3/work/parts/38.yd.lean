noncomputable section
def ef_w1 (A B : Nat → Nat) (Mi Ti : Nat → Int) (i : Nat) (f : Nat → Int) : Nat → Int := ef_rl (B i) (A i) (Mi i) (Ti i) (ef_rl (A i) (B i) (Mi i) (Ti i) f)
def ef_ws (A B : Nat → Nat) (Mi Ti : Nat → Int) : Nat → Nat → (Nat → Int) → Nat → Int
  | 0, _, f => f
  | k + 1, i, f => ef_ws A B Mi Ti k (i + 1) (ef_w1 A B Mi Ti i f)
def ef_it (A B : Nat → Nat) (Mi Ti : Nat → Int) (c : Nat) : Nat → (Nat → Int) → Nat → Int
  | 0, f => f
  | k + 1, f => ef_it A B Mi Ti c k (ef_ws A B Mi Ti c 0 f)
theorem ef_it_fix {A B : Nat → Nat} {Mi Ti : Nat → Int} {c : Nat} {f : Nat → Int} (h : ef_ws A B Mi Ti c 0 f = f) : ∀ k, ef_it A B Mi Ti c k f = f
  | 0 => rfl
  | k + 1 => by
    show ef_it A B Mi Ti c k (ef_ws A B Mi Ti c 0 f) = f
    rw [h]
    exact ef_it_fix h k
/-- WAYS, as numbers -/
def ef_D (c : Nat) (A B : Nat → Nat) (Mi Ti : Nat → Int) : Prop := c ≤ 12 ∧ ∀ i, i < c → A i < 8 ∧ B i < 8 ∧ (0 ≤ Mi i ∧ Mi i ≤ 20) ∧ 0 ≤ Ti i ∧ Ti i ≤ 999
/-- as the class has them -/
def ef_DA (w : px_W) (c : Nat) (A B : Nat → Nat) (Mi Ti : Nat → Int) : Prop := ec_fd w 15 0 = c ∧ ∀ i, i < c → ef_a w 16 i = A i ∧ ef_a w 17 i = B i ∧ ef_a w 18 i = Mi i ∧ ef_a w 19 i = Ti i
/-- as the reference has them -/
def ef_DB (w : px_W) (c : Nat) (A B : Nat → Nat) (Mi Ti : Nat → Int) : Prop := ef_a w 152 3 = c ∧ ∀ i, i < c → ef_a w 152 (128 + 4 * i) = A i ∧ ef_a w 152 (128 + 4 * i + 1) = B i ∧ ef_a w 152 (128 + 4 * i + 2) = Mi i ∧ ef_a w 152 (128 + 4 * i + 3) = Ti i
theorem ef_DA_s {w w' : px_W} {S : List Nat} {c : Nat} {A B : Nat → Nat} {Mi Ti : Nat → Int} (h : ef_DA w c A B Mi Ti) (hs : ef_s S w w') (hS : ∀ k ∈ S, 19 < k) : ef_DA w' c A B Mi Ti := by
  have no : ∀ k, k ≤ 19 → k ∉ S := fun k hk e => by have := hS k e; omega
  refine ⟨by rw [ef_s_f hs (no 15 (by omega))]; exact h.1, fun i hi => ?_⟩
  rw [ef_s_a hs (no 16 (by omega)), ef_s_a hs (no 17 (by omega)), ef_s_a hs (no 18 (by omega)), ef_s_a hs (no 19 (by omega))]
  exact h.2 i hi
theorem ef_DB_s {w w' : px_W} {S : List Nat} {c : Nat} {A B : Nat → Nat} {Mi Ti : Nat → Int} (h : ef_DB w c A B Mi Ti) (hs : ef_s S w w') (hS : 152 ∉ S) : ef_DB w' c A B Mi Ti := by
  unfold ef_DB
  rw [ef_s_a hs hS]
  exact h
section EW1
variable {c : Nat} {A B : Nat → Nat} {Mi Ti : Nat → Int}
/-- the class: all WAYS once -/
theorem ew_waysA (hD : ef_D c A B Mi Ti) : ∀ (k n i : Nat) (w : px_W) (x1 x2 x3 : Int) (r : Option Value × px_W), ef_DA w c A B Mi Ti → ef_ok (ef_a w 28) → i + k = c → (x2 = 0 ∨ x2 = 1) → ec_E hb_X n 20 58 [(0, .inr (.inl 79)), (1, .inl x1), (2, .inl x2), (3, .inl x3), (4, .inl (i : Int))] [] w r → ∃ (w' : px_W) (x2' : Int), ec_E hb_X n 20 43 [(0, .inr (.inl 79)), (1, .inl x1), (2, .inl x2'), (3, .inl (x3 + 1))] [] w' r ∧ ef_s [28] w w' ∧ (x2' = 0 ∨ x2' = 1) ∧ ef_a w' 28 = ef_ws A B Mi Ti k i (ef_a w 28) ∧ ef_ok (ef_a w' 28) ∧ (x2' = 0 → x2 = 0 ∧ ef_a w' 28 = ef_a w 28) := by
  intro k
  induction k with
  | zero =>
    intro n i w x1 x2 x3 r hA hf hik hx h
    have hi : i = c := by omega
    subst hi
    have e1 := hA.1
    have := hD.1
    obtain ⟨_, h2⟩ := eg20_15_58_0 h (by rw [e1]; omega)
    exact ⟨w, x2, h2, ef_s_refl, hx, rfl, hf, fun e => ⟨e, rfl⟩⟩
  | succ k ih =>
    intro n i w x1 x2 x3 r hA hf hik hx h
    have hc := hD.1
    have hi : i < c := by omega
    have ei : ec_tw (i : Int) = i := ec_twn (by omega)
    obtain ⟨d1, d2, d3, d4⟩ := hD.2 i hi
    obtain ⟨a1, a2, a3, a4⟩ := hA.2 i hi
    obtain ⟨_, v, w1, h1, h2⟩ := eg20_15_58_1 h (by rw [hA.1, ei, ec_twn (by omega)]; omega)
    rw [ei, ef_rd, ef_rd, a1, a2] at h1
    obtain ⟨v1, w1', e1, hW1, s1, z1, f1, g1⟩ := ew_walk (by omega) d1 d2 hf (by rw [a3]; exact d3) (by rw [a4]; exact d4) h1
    injection e1 with e1 e1'
    subst e1'
    have h3 := h2 _ e1 hW1
    have hA1 : ef_DA w1 c A B Mi Ti := ef_DA_s hA s1 (by decide)
    obtain ⟨b1, b2, b3, b4⟩ := hA1.2 i hi
    have hf1 : ef_ok (ef_a w1 28) := by
      rw [f1]
      exact ef_rl_ok hf (by rw [a3]; exact d3.1) (by rw [a4]; exact d4.1)
    obtain ⟨_, v', w2, h4, h5⟩ := eg20_15_87_0 h3
    rw [ei, ef_rd, ef_rd, b1, b2] at h4
    obtain ⟨v2, w2', e2, hW2, s2, z2, f2, g2⟩ := ew_walk (by omega) d2 d1 hf1 (by rw [b3]; exact d3) (by rw [b4]; exact d4) h4
    injection e2 with e2 e2'
    subst e2'
    have h6 := (eg20_15_109_0 (h5 _ e2 hW2)).2
    have hA2 : ef_DA w2 c A B Mi Ti := ef_DA_s hA1 s2 (by decide)
    have hf2 : ef_ok (ef_a w2 28) := by
      rw [f2]
      exact ef_rl_ok hf1 (by rw [b3]; exact d3.1) (by rw [b4]; exact d4.1)
    have t0 : ec_tw 0 = 0 := rfl
    have t1 : ec_tw 1 = 1 := rfl
    have h7 : ∃ x : Int, (x = 0 ∨ x = 1) ∧ (x = 0 → x2 = 0 ∧ v1 = 0 ∧ v2 = 0) ∧ ec_E hb_X n 20 130 [(0, .inr (.inl 79)), (1, .inl x1), (2, .inl x2), (3, .inl x3), (4, .inl (i : Int)), (5, .inl v1), (6, .inl v2)] [.inl x] w2 r := by
      rcases hx with rfl | rfl
      · rcases z1 with rfl | rfl
        · rcases z2 with rfl | rfl
          · exact ⟨0, .inl rfl, fun _ => ⟨rfl, rfl, rfl⟩, (eg20_15_111_2 h6 rfl rfl rfl).2⟩
          · exact ⟨1, .inr rfl, fun e => absurd e (by decide), (eg20_15_111_3 h6 rfl rfl (by decide)).2⟩
        · exact ⟨1, .inr rfl, fun e => absurd e (by decide), (eg20_15_111_1 h6 rfl (by decide)).2⟩
      · exact ⟨1, .inr rfl, fun e => absurd e (by decide), (eg20_15_111_0 h6 (by decide)).2⟩
    obtain ⟨x, hx', hx0, h8⟩ := h7
    have h9 := (eg20_15_130_0 h8).2
    obtain ⟨w', x2', h10, s3, z3, f3, o3, g3⟩ := ih n (i + 1) w2 x1 x x3 r hA2 hf2 (by omega) hx' h9
    refine ⟨w', x2', h10, ef_s_trans s1 (ef_s_trans s2 s3), z3, ?_, o3, fun e => ?_⟩
    · rw [f3, f2, f1, b3, b4, a3, a4]
      rfl
    · obtain ⟨q1, q2⟩ := g3 e
      obtain ⟨q3, q4, q5⟩ := hx0 q1
      exact ⟨q3, by rw [q2, g2 q5, g1 q4]⟩
/-- the class: the rounds -/
theorem ew_roundsA (hD : ef_D c A B Mi Ti) : ∀ (k n i : Nat) (w : px_W) (x1 x2 : Int) (r : Option Value × px_W), ef_DA w c A B Mi Ti → ef_ok (ef_a w 28) → i + k = 8 → (x2 = 0 ∨ x2 = 1) → (x2 = 0 → ef_ws A B Mi Ti c 0 (ef_a w 28) = ef_a w 28) → ec_E hb_X n 20 43 [(0, .inr (.inl 79)), (1, .inl x1), (2, .inl x2), (3, .inl (i : Int))] [] w r → ∃ w' : px_W, r = (none, w') ∧ ec_W hb_A w' ∧ ef_s [28] w w' ∧ ef_a w' 28 = ef_it A B Mi Ti c k (ef_a w 28) := by
  intro k
  induction k with
  | zero =>
    intro n i w x1 x2 r hA hf hik hx hfix h
    have hi : i = 8 := by omega
    subst hi
    obtain ⟨_, hr, hW⟩ := eg20_15_43_0 h (Int.le_refl _)
    exact ⟨w, hr, hW, ef_s_refl, rfl⟩
  | succ k ih =>
    intro n i w x1 x2 r hA hf hik hx hfix h
    have ei : ec_tw (i : Int) = i := ec_twn (by omega)
    have t8 : ec_tw 8 = 8 := rfl
    rcases hx with rfl | rfl
    · obtain ⟨_, hr, hW⟩ := eg20_15_43_1 h (by omega) rfl
      exact ⟨w, hr, hW, ef_s_refl, (ef_it_fix (hfix rfl) _).symm⟩
    · have h1 := (eg20_15_43_2 h (by omega) (by decide)).2
      obtain ⟨w', x2', h2, s1, z1, f1, o1, g1⟩ := ew_waysA hD c n 0 w x1 0 i r hA hf (by omega) (.inl rfl) h1
      obtain ⟨w2, hr, hW, s2, f2⟩ := ih n (i + 1) w' x1 x2' r (ef_DA_s hA s1 (by decide)) o1 (by omega) z1 (fun e => by
        have h3 := (g1 e).2
        rw [h3]
        exact f1.symm.trans h3) h2
      exact ⟨w2, hr, hW, ef_s_trans s1 s2, by rw [f2, f1]; rfl⟩
/-- the class: nobody is anywhere -/
theorem ew_noneA : ∀ (k n i : Nat) (w : px_W) (x1 : Int) (r : Option Value × px_W), i + k = 8 → ec_E hb_X n 20 2 [(0, .inr (.inl 79)), (1, .inl x1), (2, .inl (i : Int))] [] w r → ∃ w' : px_W, ec_E hb_X n 20 2 [(0, .inr (.inl 79)), (1, .inl x1), (2, .inl 8)] [] w' r ∧ ef_s [28] w w' ∧ ∀ p, ef_a w' 28 p = if i ≤ p ∧ p < 8 then 1000000 else ef_a w 28 p := by
  intro k
  induction k with
  | zero =>
    intro n i w x1 r hik h
    have hi : i = 8 := by omega
    subst hi
    exact ⟨w, h, ef_s_refl, fun p => by rw [if_neg (by omega)]⟩
  | succ k ih =>
    intro n i w x1 r hik h
    have ei : ec_tw (i : Int) = i := ec_twn (by omega)
    have t8 : ec_tw 8 = 8 := rfl
    have h1 := (eg20_15_2_1 h (by omega)).2
    rw [ei] at h1
    obtain ⟨w', h2, s2, f2⟩ := ih n (i + 1) _ x1 r (by omega) h1
    refine ⟨w', h2, ef_s_trans (ef_s_wr List.mem_cons_self) s2, fun p => ?_⟩
    rw [f2 p, ef_a_wr (n := 8) h.1 rfl (by omega) (by omega)]
    unfold ef_u
    by_cases h3 : i + 1 ≤ p ∧ p < 8
    · rw [if_pos h3, if_pos (by omega)]
    · rw [if_neg h3]
      by_cases h4 : p = i
      · rw [if_pos (by omega), if_pos (by omega)]
        rfl
      · rw [if_neg (by omega), if_neg (by omega)]
/-- where a GROUP is when it is told -/
def ef_f0 (g : Nat) (t : Int) (p : Nat) : Int := if p = g then t else if p < 8 then 1000000 else 0
theorem ef_f0_ok {g : Nat} {t : Int} (h0 : 0 ≤ t) (h1 : t ≤ 999) : ef_ok (ef_f0 g t) := by
  intro p
  unfold ef_f0
  split
  · omega
  · split <;> omega
theorem ef_out {w : px_W} {k n p : Nat} {sg : sy_Sg} (hW : ec_W hb_A w) (ha : hb_A[k]? = some (.inl (n, sg))) (hp : n ≤ p) : ef_a w k p = 0 := by
  obtain ⟨l, hl, hn⟩ := ec_W_row hW ha
  unfold ef_a ec_rd
  rw [hl]
  dsimp only
  rw [Int.toNat_natCast, List.getD_eq_getElem?_getD, List.getElem?_eq_none (by omega)]
  rfl
theorem ew_spread (hD : ef_D c A B Mi Ti) {n g pl : Nat} {t : Int} {w : px_W} {r : Option Value × px_W} (hA : ef_DA w c A B Mi Ti) (hg : g < 10) (hp : ef_a w 22 g = pl) (hp8 : pl < 8) (ht : ef_a w 23 g = t) (h0 : 0 ≤ t) (h1 : t ≤ 999) (h : ec_E hb_X n 20 0 [(0, .inr (.inl 79)), (1, .inl (g : Int))] [] w r) : ∃ w' : px_W, r = (none, w') ∧ ec_W hb_A w' ∧ ef_s [28] w w' ∧ ef_a w' 28 = ef_it A B Mi Ti c 8 (ef_f0 pl t) := by
  have eg : ec_tw (g : Int) = g := ec_twn (by omega)
  have h2 := (eg20_15_0_0 h).2
  obtain ⟨w1, h3, s1, f1⟩ := ew_noneA 8 n 0 w g r rfl h2
  have h4 := (eg20_15_2_0 h3 (Int.le_refl _)).2
  rw [eg, ef_rd, ef_rd, ef_tw, ef_s_a s1 (by decide), ef_s_a s1 (by decide), hp, ht] at h4
  have fe : ef_a (ec_wr w1 28 (pl : Int) t) 28 = ef_f0 pl t := by
    rw [ef_a_wr (n := 8) h3.1 rfl (by omega) (by omega), ec_tw_id (by omega) (by omega)]
    funext p
    unfold ef_u ef_f0
    by_cases hpp : p = pl
    · rw [if_pos (by omega), if_pos hpp]
    · rw [if_neg (by omega), if_neg hpp, f1 p]
      by_cases h8 : p < 8
      · rw [if_pos (by omega), if_pos h8]
      · rw [if_neg (by omega), if_neg h8]
        exact ef_out (n := 8) h.1 rfl (by omega)
  have s2 : ef_s [28] w (ec_wr w1 28 (pl : Int) t) := ef_s_trans s1 (ef_s_wr List.mem_cons_self)
  obtain ⟨w2, hr, hW, s3, f3⟩ := ew_roundsA hD 8 n 0 _ g 1 r (ef_DA_s hA s2 (by decide)) (by rw [fe]; exact ef_f0_ok h0 h1) rfl (.inr rfl) (fun e => absurd e (by decide)) h4
  exact ⟨w2, hr, hW, ef_s_trans s2 s3, by rw [f3, fe]⟩
end EW1

end
