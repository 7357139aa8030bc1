noncomputable section
/-! THE HULL'S RELATION -/
theorem ec_tw_addr (a b : Int) : ec_tw (a + ec_tw b) = ec_tw (a + b) := by
  rw [Int.add_comm, ec_tw_addl, Int.add_comm]
/-- rows 1 to 6 (ROOM, WATER, HOLE, PUMP, HEIGHT, DOOR) as they stand in d -/
def eh_r (A : Nat → Nat → Int) (d : Nat → Int) : Prop := ∀ j c, 1 ≤ j → j ≤ 6 → c < 8 → (5 ≤ j → c < 7) → d (8 + 8 * j + c) = A j c
theorem eh_r_up {A : Nat → Nat → Int} {d : Nat → Int} {k c : Nat} {v : Int} (hc : c < 8) (h : eh_r A d) : eh_r (fun j p => if j = k ∧ p = c then v else A j p) (fun p => if p = 8 + 8 * k + c then v else d p) := by
  intro j c' h1 h2 h3 h4
  show (if 8 + 8 * j + c' = 8 + 8 * k + c then v else d (8 + 8 * j + c')) = if j = k ∧ c' = c then v else A j c'
  by_cases e : j = k ∧ c' = c
  · rw [if_pos e, if_pos (by omega)]
  · rw [if_neg e, if_neg (by omega)]
    exact h j c' h1 h2 h3 h4
theorem eh_r_cg {A A' : Nat → Nat → Int} {d d' : Nat → Int} (hA : ∀ j p, 1 ≤ j → j ≤ 6 → p < 8 → A' j p = A j p) (hd : ∀ p, 16 ≤ p → p < 64 → d' p = d p) (h : eh_r A d) : eh_r A' d' := by
  intro j c h1 h2 h3 h4
  rw [hA j c h1 h2 h3, hd _ (by omega) (by omega)]
  exact h j c h1 h2 h3 h4
def eh_hu (w : px_W) (o dc : Nat) : Prop := eh_r (fun j => ef_a w (o + j)) (ef_a w dc) ∧ eh_D (ef_a w (o + 2)) (ef_a w (o + 1)) (ef_a w (o + 3)) (ef_a w (o + 4)) ∧ (ef_a w dc 0 = ec_fd w o 0 ∧ 0 ≤ ec_fd w o 0 ∧ ec_fd w o 0 ≤ 999) ∧ ((ec_fd w o 1 = -3 ∧ ef_a w dc 1 = -1) ∨ (0 ≤ ec_fd w o 1 ∧ ef_a w dc 1 = ec_fd w o 1))
def eh_kp (w : px_W) : Prop := (ec_fd w 0 14 = 0 ∧ ec_fd w 151 2 = 0) ∨ (ec_fd w 0 14 = 1 ∧ ec_fd w 151 2 = 1 ∧ eh_hu w 59 153)
def eh_RR (w : px_W) : Prop := eh_hu w 1 152 ∧ eh_wd w 1 ∧ eh_kp w
theorem eh_hu_st {w w' : px_W} {o dc o' dc' : Nat} (hf : ∀ f, f < 2 → ec_fd w' o' f = ec_fd w o f) (hr : ∀ k p, 1 ≤ k → k ≤ 6 → p < 8 → ef_a w' (o' + k) p = ef_a w (o + k) p) (hd : ∀ p, p < 64 → (p < 2 ∨ 16 ≤ p) → ef_a w' dc' p = ef_a w dc p) (h : eh_hu w o dc) : eh_hu w' o' dc' := by
  obtain ⟨h1, h2, h3, h4⟩ := h
  refine ⟨eh_r_cg hr (fun p p1 p2 => hd p p2 (.inr p1)) h1, fun c hc => ?_, ?_, ?_⟩
  · rw [hr 1 c (by decide) (by decide) hc, hr 2 c (by decide) (by decide) hc, hr 3 c (by decide) (by decide) hc, hr 4 c (by decide) (by decide) hc]
    exact h2 c hc
  · rw [hd 0 (by decide) (by decide), hf 0 (by decide)]
    exact h3
  · rw [hd 1 (by decide) (by decide), hf 1 (by decide)]
    exact h4
theorem eh_hu_s {S : List Nat} {w w' : px_W} {o dc : Nat} (hs : ef_s S w w') (ho : ∀ k, k ≤ 6 → o + k ∉ S) (hd : dc ∉ S) (h : eh_hu w o dc) : eh_hu w' o dc := eh_hu_st (fun f _ => ef_s_f hs (ho 0 (by omega)) f) (fun k p _ h2 _ => congrFun (ef_s_a hs (ho k h2)) p) (fun p _ _ => congrFun (ef_s_a hs hd) p) h
theorem eh_kp_st {w w' : px_W} (k1 : ec_fd w' 0 14 = ec_fd w 0 14) (k2 : ec_fd w' 151 2 = ec_fd w 151 2) (hh : eh_hu w 59 153 → eh_hu w' 59 153) (h : eh_kp w) : eh_kp w' := by
  rcases h with ⟨h1, h2⟩ | ⟨h1, h2, h3⟩
  · exact .inl ⟨k1.trans h1, k2.trans h2⟩
  · exact .inr ⟨k1.trans h1, k2.trans h2, hh h3⟩
theorem eh_kp_s {S : List Nat} {w w' : px_W} (hs : ef_s S w w') (hS : ∀ k ∈ S, (k ≠ 0 ∧ k ≠ 153) ∧ (k < 59 ∨ 65 < k)) (k2 : ec_fd w' 151 2 = ec_fd w 151 2) (h : eh_kp w) : eh_kp w' := eh_kp_st (ef_s_f hs (fun e => (hS 0 e).1.1 rfl) 14) k2 (eh_hu_s hs (fun k hk e => by have := (hS _ e).2; omega) (fun e => (hS 153 e).1.2 rfl)) h
theorem eh_wd_st {w w' : px_W} (h8 : ec_fd w' 1 8 = ec_fd w 1 8) (h9 : ec_fd w' 1 9 = ec_fd w 1 9) (hr : ∀ p, p < 8 → ef_a w' 3 p = ef_a w 3 p) (h : eh_wd w 1) : eh_wd w' 1 := ⟨h8.trans (h.1.trans (eh_al_cg (fun c hc => (hr c hc).symm))), h9.trans (h.2.trans (eh_tl_cg (fun c hc => (hr c hc).symm)))⟩
/-- the places of the hull -/
def eh_dc : List (Nat × Nat × Nat) := [(1, 0, 10), (2, 0, 8), (3, 0, 8), (4, 0, 8), (5, 0, 8), (6, 0, 8), (7, 0, 8), (152, 0, 2), (152, 16, 64), (0, 14, 15), (151, 2, 3), (59, 0, 2), (60, 0, 8), (61, 0, 8), (62, 0, 8), (63, 0, 8), (64, 0, 8), (65, 0, 8), (153, 0, 2), (153, 16, 64)]
theorem eh_dc_st {w w' : px_W} (hW : ec_W hb_A w) (hW' : ec_W hb_A w') (h : ∀ p ∈ eh_dc, ∀ i, p.2.1 ≤ i → i < p.2.2 → sy_get w' p.1 i = sy_get w p.1 i) (hR : eh_RR w) : eh_RR w' := by
  have f : ∀ k a b, (k, a, b) ∈ eh_dc → ∀ (ci : Nat) (sl : List ((Int × Int) ⊕ Nat)), hb_A[k]? = some (.inr (.inr (ci, sl))) → ∀ g, a ≤ g → g < b → ec_fd w' k g = ec_fd w k g := fun k a b hm ci sl ha g h1 h2 => ef_get_f hW hW' ha (h _ hm g h1 h2)
  have a : ∀ k a b, (k, a, b) ∈ eh_dc → ∀ (n : Nat) (sg : sy_Sg), hb_A[k]? = some (.inl (n, sg)) → ∀ g, a ≤ g → g < b → ef_a w' k g = ef_a w k g := fun k a b hm n sg ha g h1 h2 => ef_get_a hW hW' ha (h _ hm g h1 h2)
  have row : ∀ o, (o = 1 ∨ o = 59) → ∀ k p, 1 ≤ k → k ≤ 6 → p < 8 → ef_a w' (o + k) p = ef_a w (o + k) p := by
    intro o ho k p h1 h2 h3
    have hk : k = 1 ∨ k = 2 ∨ k = 3 ∨ k = 4 ∨ k = 5 ∨ k = 6 := by omega
    rcases ho with rfl | rfl <;> rcases hk with rfl | rfl | rfl | rfl | rfl | rfl <;> exact a _ 0 8 (by decide) _ _ rfl p (Nat.zero_le _) h3
  have d : ∀ dc, (dc = 152 ∨ dc = 153) → ∀ p, p < 64 → (p < 2 ∨ 16 ≤ p) → ef_a w' dc p = ef_a w dc p := by
    intro dc hdc p h1 h2
    rcases hdc with rfl | rfl <;> rcases h2 with h2 | h2
    · exact a _ 0 2 (by decide) _ _ rfl p (Nat.zero_le _) h2
    · exact a _ 16 64 (by decide) _ _ rfl p h2 h1
    · exact a _ 0 2 (by decide) _ _ rfl p (Nat.zero_le _) h2
    · exact a _ 16 64 (by decide) _ _ rfl p h2 h1
  have fo : ∀ g, g < 10 → ec_fd w' 1 g = ec_fd w 1 g := fun g hg => f 1 0 10 (by decide) _ _ rfl g (Nat.zero_le _) hg
  have fk : ∀ g, g < 2 → ec_fd w' 59 g = ec_fd w 59 g := fun g hg => f 59 0 2 (by decide) _ _ rfl g (Nat.zero_le _) hg
  have k1 : ec_fd w' 0 14 = ec_fd w 0 14 := f 0 14 15 (by decide) _ _ rfl 14 (by decide) (by decide)
  have k2 : ec_fd w' 151 2 = ec_fd w 151 2 := f 151 2 3 (by decide) _ _ rfl 2 (by decide) (by decide)
  exact ⟨eh_hu_st (fun g hg => fo g (by omega)) (row 1 (.inl rfl)) (d 152 (.inl rfl)) hR.1, eh_wd_st (fo 8 (by decide)) (fo 9 (by decide)) (fun p hp => row 1 (.inl rfl) 2 p (by decide) (by decide) hp) hR.2.1, eh_kp_st k1 k2 (eh_hu_st fk (row 59 (.inr rfl)) (d 153 (.inr rfl))) hR.2.2⟩
/-! minutes -/
theorem eh_to {w : px_W} (h : eh_hu w 1 152) (hw : eh_wd w 1) : eh_ca w (ef_a w 2) (ef_a w 4) (ef_a w 5) (ef_a w 6) (ef_a w 7) (ef_a w 3, ec_fd w 1 0, ec_fd w 1 1) ∧ eh_cb w (ef_a w 2) (ef_a w 4) (ef_a w 5) (ef_a w 6) (ef_a w 7) (ef_a w 3, ec_fd w 1 0, ec_fd w 1 1) := by
  obtain ⟨h1, h2, h3, h4⟩ := h
  refine ⟨⟨fun _ _ => rfl, rfl, rfl, hw, rfl, rfl, rfl, rfl, rfl⟩, fun c hc => ⟨h1 2 c (by decide) (by decide) hc (fun e => absurd e (by decide)), h1 1 c (by decide) (by decide) hc (fun e => absurd e (by decide)), h1 3 c (by decide) (by decide) hc (fun e => absurd e (by decide)), h1 4 c (by decide) (by decide) hc (fun e => absurd e (by decide)), fun h7 => ⟨h1 5 c (by decide) (by decide) hc (fun _ => h7), h1 6 c (by decide) (by decide) hc (fun _ => h7)⟩⟩, h3.1, h4⟩
theorem eh_of {w : px_W} {R H P S D : Nat → Int} {X : (Nat → Int) × Int × Int} (ha : eh_ca w R H P S D X) (hb : eh_cb w R H P S D X) (hD : eh_D X.1 R H P) (h0 : 0 ≤ X.2.1) (h1 : X.2.1 ≤ 999) : eh_hu w 1 152 ∧ eh_wd w 1 := by
  obtain ⟨a1, a2, a3, a4, a5, a6, a7, a8, a9⟩ := ha
  obtain ⟨b1, b2, b3⟩ := hb
  refine ⟨⟨?_, ?_, ⟨b2.trans a2.symm, by rw [a2]; exact h0, by rw [a2]; exact h1⟩, by rw [a3]; exact b3⟩, a4⟩
  · intro j c j1 j2 hc h7
    obtain ⟨c1, c2, c3, c4, c5⟩ := b1 c hc
    have hj : j = 1 ∨ j = 2 ∨ j = 3 ∨ j = 4 ∨ j = 5 ∨ j = 6 := by omega
    rcases hj with rfl | rfl | rfl | rfl | rfl | rfl
    · exact c2.trans (congrFun a5 c).symm
    · exact c1.trans (a1 c hc).symm
    · exact c3.trans (congrFun a6 c).symm
    · exact c4.trans (congrFun a7 c).symm
    · exact (c5 (h7 (by decide))).1.trans (congrFun a8 c).symm
    · exact (c5 (h7 (by decide))).2.trans (congrFun a9 c).symm
  · intro c hc
    show (0 ≤ ef_a w 3 c ∧ ef_a w 3 c ≤ ef_a w 2 c) ∧ (10 ≤ ef_a w 2 c ∧ ef_a w 2 c ≤ 999) ∧ (0 ≤ ef_a w 4 c ∧ ef_a w 4 c ≤ 9) ∧ (0 ≤ ef_a w 5 c ∧ ef_a w 5 c ≤ 9)
    rw [a1 c hc, a5, a6, a7]
    exact hD c hc
def eh_okm (now x1 : Int) : Prop := (1 ≤ ec_tw x1 ∧ ec_tw x1 ≤ 200) ∧ now + ec_tw x1 ≤ 999
theorem eh_gm {now x1 : Int} (h0 : 0 ≤ now) (h1 : now ≤ 999) (h2 : 1 ≤ ec_tw x1 ∧ ec_tw x1 ≤ 200) : ec_tw (now + x1) = now + ec_tw x1 := by
  rw [← ec_tw_addr]
  exact ec_tw_id (by omega) (by omega)
theorem ew_minA {R H P S D : Nat → Int} {X : (Nat → Int) × Int × Int} {n : Nat} {w : px_W} {r : Option Value × px_W} {x1 : Int} (hC : eh_ca w R H P S D X) (hD : eh_D X.1 R H P) (h0 : 0 ≤ X.2.1) (h1 : X.2.1 ≤ 999) (h : ec_E hb_X n 121 0 [(0, .inr (.inl 64)), (1, .inl x1)] [] w r) : (¬ eh_okm X.2.1 x1 ∧ r.2 = w) ∨ (eh_okm X.2.1 x1 ∧ ef_s [1, 3, 8, 9] w r.2 ∧ eh_ca r.2 R H P S D (eh_it R H P S D (ec_tw x1).toNat X)) := by
  have t0 : ec_tw 0 = 0 := rfl
  have t1 : ec_tw 1 = 1 := rfl
  have t200 : ec_tw 200 = 200 := rfl
  have t999 : ec_tw 999 = 999 := rfl
  obtain ⟨_, v, w1, q1, q2⟩ := eg121_0_0_0 h
  obtain ⟨e1, W1⟩ := ew_within q1
  injection e1 with e1 i1
  have i2 := i1.symm
  subst i2
  have q3 := q2 _ e1 W1
  rw [t1, t200] at q3
  have en : ec_fd w 1 0 = X.2.1 := hC.2.1
  by_cases hg : 1 ≤ ec_tw x1 ∧ ec_tw x1 ≤ 200
  · rw [if_pos hg] at q3
    have eg := eh_gm h0 h1 hg
    by_cases ho : X.2.1 + ec_tw x1 ≤ 999
    · have q4 := (eg121_0_8_0 q3 (by decide) (by rw [en, eg, t999]; exact ho)).2
      obtain ⟨w', hr, hW, s, hC'⟩ := ew_miA (x1 := x1) (ec_tw x1).toNat n 0 w X r (by omega) (by omega) hC hD h0 (by omega) q4
      rw [hr]
      exact .inr ⟨⟨hg, ho⟩, s, hC'⟩
    · obtain ⟨_, hr, hW⟩ := eg121_0_8_1 q3 (by decide) (by rw [en, eg, t999]; omega)
      rw [hr]
      exact .inl ⟨fun e => ho e.2, rfl⟩
  · rw [if_neg hg] at q3
    obtain ⟨_, hr, hW⟩ := eg121_0_8_2 q3 rfl
    rw [hr]
    exact .inl ⟨fun e => hg e.1, rfl⟩
theorem ew_minB {R H P S D : Nat → Int} {X : (Nat → Int) × Int × Int} {n : Nat} {w : px_W} {r : Option Value × px_W} {x1 : Int} (hC : eh_cb w R H P S D X) (hD : eh_D X.1 R H P) (h0 : 0 ≤ X.2.1) (h1 : X.2.1 ≤ 999) (h : ec_E hb_X n 191 0 [(0, .inr (.inl 215)), (1, .inl x1)] [] w r) : (¬ eh_okm X.2.1 x1 ∧ r.2 = w) ∨ (eh_okm X.2.1 x1 ∧ ef_s [151, 152, 155, 156, 157, 158] w r.2 ∧ (∀ f, f ≠ 9 → f ≠ 10 → ec_fd r.2 151 f = ec_fd w 151 f) ∧ eh_cb r.2 R H P S D (eh_it R H P S D (ec_tw x1).toNat X)) := by
  have t0 : ec_tw 0 = 0 := rfl
  have t1 : ec_tw 1 = 1 := rfl
  have t200 : ec_tw 200 = 200 := rfl
  have t999 : ec_tw 999 = 999 := rfl
  obtain ⟨_, v, w1, q1, q2⟩ := eg191_151_0_0 h
  obtain ⟨e1, W1⟩ := ew_in q1
  injection e1 with e1 i1
  have i2 := i1.symm
  subst i2
  have q3 := q2 _ e1 W1
  rw [t1, t200] at q3
  have en : ec_rd w 152 (ec_tw 0) = X.2.1 := hC.2.1
  by_cases hg : 1 ≤ ec_tw x1 ∧ ec_tw x1 ≤ 200
  · rw [if_pos hg] at q3
    have eg := eh_gm h0 h1 hg
    by_cases ho : X.2.1 + ec_tw x1 ≤ 999
    · have q4 := (eg191_151_8_0 q3 (by decide) (by rw [en, eg, t999]; exact ho)).2
      obtain ⟨w', hr, hW, s, f, hC'⟩ := ew_miB (x1 := x1) (ec_tw x1).toNat n 0 w X r (by omega) (by omega) hC hD h0 (by omega) q4
      rw [hr]
      exact .inr ⟨⟨hg, ho⟩, s, f, hC'⟩
    · obtain ⟨_, hr, hW⟩ := eg191_151_8_1 q3 (by decide) (by rw [en, eg, t999]; omega)
      rw [hr]
      exact .inl ⟨fun e => ho e.2, rfl⟩
  · rw [if_neg hg] at q3
    obtain ⟨_, hr, hW⟩ := eg191_151_8_2 q3 rfl
    rw [hr]
    exact .inl ⟨fun e => hg e.1, rfl⟩
theorem ew_minutes2 {xs : List Int32} {x1 : Int} {n : Nat} {w wA wB : px_W} {vA vB : Option Value} (hR : eh_RR w) (hA : ec_F (hb_XL xs) n 121 [.inr (.inl 64), .inl x1] w (vA, wA)) (hB : ec_F (hb_XL xs) n 191 [.inr (.inl 215), .inl x1] wA (vB, wB)) : eh_RR wB := by
  obtain ⟨ha, hb⟩ := eh_to hR.1 hR.2.1
  have hD : eh_D (ef_a w 3) (ef_a w 2) (ef_a w 4) (ef_a w 5) := hR.1.2.1
  have h0 := hR.1.2.2.1.2.1
  have h1 := hR.1.2.2.1.2.2
  rcases ew_minA ha hD h0 h1 (hb_FE hA) with ⟨g1, g2⟩ | ⟨g1, s1, c1⟩
  · have g3 : wA = w := g2
    rw [g3] at hB
    rcases ew_minB hb hD h0 h1 (hb_FE hB) with ⟨k1, k2⟩ | ⟨k1, _⟩
    · have k3 : wB = w := k2
      rw [k3]
      exact hR
    · exact absurd k1 g1
  · have s1' : ef_s [1, 3, 8, 9] w wA := s1
    have c1' : eh_ca wA _ _ _ _ _ _ := c1
    have hb' : eh_cb wA (ef_a w 2) (ef_a w 4) (ef_a w 5) (ef_a w 6) (ef_a w 7) (ef_a w 3, ec_fd w 1 0, ec_fd w 1 1) := by
      unfold eh_cb
      rw [ef_s_a s1' (by decide)]
      exact hb
    rcases ew_minB hb' hD h0 h1 (hb_FE hB) with ⟨k1, _⟩ | ⟨k1, s2, f2, c2⟩
    · exact absurd g1 k1
    · have s2' : ef_s [151, 152, 155, 156, 157, 158] wA wB := s2
      obtain ⟨d1, d2, d3, d4, d5, d6, d7, d8, d9⟩ := c1'
      have ca : eh_ca wB (ef_a w 2) (ef_a w 4) (ef_a w 5) (ef_a w 6) (ef_a w 7) (eh_it (ef_a w 2) (ef_a w 4) (ef_a w 5) (ef_a w 6) (ef_a w 7) (ec_tw x1).toNat (ef_a w 3, ec_fd w 1 0, ec_fd w 1 1)) := ⟨fun c hc => (congrFun (ef_s_a s2' (by decide)) c).trans (d1 c hc), (ef_s_f s2' (by decide) 0).trans d2, (ef_s_f s2' (by decide) 1).trans d3, eh_wd_st (ef_s_f s2' (by decide) 8) (ef_s_f s2' (by decide) 9) (fun p _ => congrFun (ef_s_a s2' (by decide)) p) d4, (ef_s_a s2' (by decide)).trans d5, (ef_s_a s2' (by decide)).trans d6, (ef_s_a s2' (by decide)).trans d7, (ef_s_a s2' (by decide)).trans d8, (ef_s_a s2' (by decide)).trans d9⟩
      have hn : (eh_it (ef_a w 2) (ef_a w 4) (ef_a w 5) (ef_a w 6) (ef_a w 7) (ec_tw x1).toNat (ef_a w 3, ec_fd w 1 0, ec_fd w 1 1)).2.1 = ec_fd w 1 0 + ((ec_tw x1).toNat : Int) := eh_it_n (ec_tw x1).toNat
      have g1' : (1 ≤ ec_tw x1 ∧ ec_tw x1 ≤ 200) ∧ ec_fd w 1 0 + ec_tw x1 ≤ 999 := g1
      obtain ⟨u1, u2⟩ := eh_of ca c2 (eh_it_D _ hD) (by rw [hn]; omega) (by rw [hn]; omega)
      exact ⟨u1, u2, eh_kp_s s2' (by decide) (f2 2 (by decide) (by decide)) (eh_kp_s s1' (by decide) (ef_s_f s1' (by decide) 2) hR.2.2)⟩

end
