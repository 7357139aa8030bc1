noncomputable section
/-! THE CROWD IS THE SAME ON BOTH SIDES -/
/-- a table: how many (a field, a place of d), four rows, four places of d for each, with ranges -/
def ef_tb (w : px_W) (o dc f rb mx cn bs : Nat) (R : Nat → Int × Int) : Prop := ∃ c : Nat, c ≤ mx ∧ ec_fd w o f = (c : Int) ∧ ef_a w dc cn = (c : Int) ∧ ∀ i, i < c → ∀ j, j < 4 → ef_a w (rb + j) i = ef_a w dc (bs + 4 * i + j) ∧ (R j).1 ≤ ef_a w (rb + j) i ∧ ef_a w (rb + j) i ≤ (R j).2
def ef_4 (a b c d : Int × Int) (j : Nat) : Int × Int := if j = 0 then a else if j = 1 then b else if j = 2 then c else d
def ef_Rw : Nat → Int × Int := ef_4 (0, 7) (0, 7) (1, 20) (0, 999)
def ef_Rg : Nat → Int × Int := ef_4 (1, 50) (0, 2) (0, 7) (0, 999)
def ef_Rb : Nat → Int × Int := ef_4 (1, 65) (0, 7) (0, 999) (0, 1)
def ef_cr (w : px_W) (o dc : Nat) : Prop := ef_tb w o dc 0 (o + 1) 12 3 128 ef_Rw ∧ ef_tb w o dc 5 (o + 5) 10 4 176 ef_Rg ∧ ef_tb w o dc 10 (o + 9) 8 5 216 ef_Rb
/-- what is kept, too -/
def ef_kc (w : px_W) : Prop := (ec_fd w 0 14 = 0 ∧ ec_fd w 151 2 = 0) ∨ (ec_fd w 0 14 = 1 ∧ ec_fd w 151 2 = 1 ∧ ef_cr w 73 153)
def ef_RC (w : px_W) : Prop := ef_cr w 15 152 ∧ ef_kc w
theorem ef_tb_st {w w' : px_W} {o dc f rb mx cn bs o' dc' rb' : Nat} {R : Nat → Int × Int} (h1 : ec_fd w' o' f = ec_fd w o f) (h2 : ef_a w' dc' cn = ef_a w dc cn) (h3 : ∀ j i, j < 4 → i < mx → ef_a w' (rb' + j) i = ef_a w (rb + j) i) (h4 : ∀ p, bs ≤ p → p < bs + 4 * mx → ef_a w' dc' p = ef_a w dc p) (h : ef_tb w o dc f rb mx cn bs R) : ef_tb w' o' dc' f rb' mx cn bs R := by
  obtain ⟨c, c1, c2, c3, c4⟩ := h
  refine ⟨c, c1, h1.trans c2, h2.trans c3, fun i hi j hj => ?_⟩
  rw [h3 j i hj (by omega), h4 _ (by omega) (by omega)]
  exact c4 i hi j hj
theorem ef_cr_st {w w' : px_W} {o dc o' dc' : Nat} (hf : ∀ f, (f = 0 ∨ f = 5 ∨ f = 10) → ec_fd w' o' f = ec_fd w o f) (hr : ∀ k p, 1 ≤ k → k ≤ 12 → p < 12 → ef_a w' (o' + k) p = ef_a w (o + k) p) (hd : ∀ p, 3 ≤ p → p < 248 → (p ≤ 5 ∨ 128 ≤ p) → ef_a w' dc' p = ef_a w dc p) (h : ef_cr w o dc) : ef_cr w' o' dc' := by
  refine ⟨ef_tb_st (hf 0 (by omega)) (hd 3 (by omega) (by omega) (by omega)) (fun j i hj hi => ?_) (fun p h1 h2 => hd p (by omega) (by omega) (by omega)) h.1, ef_tb_st (hf 5 (by omega)) (hd 4 (by omega) (by omega) (by omega)) (fun j i hj hi => ?_) (fun p h1 h2 => hd p (by omega) (by omega) (by omega)) h.2.1, ef_tb_st (hf 10 (by omega)) (hd 5 (by omega) (by omega) (by omega)) (fun j i hj hi => ?_) (fun p h1 h2 => hd p (by omega) (by omega) (by omega)) h.2.2⟩
  · rw [Nat.add_assoc, Nat.add_assoc]
    exact hr (1 + j) i (by omega) (by omega) (by omega)
  · rw [Nat.add_assoc, Nat.add_assoc]
    exact hr (5 + j) i (by omega) (by omega) (by omega)
  · rw [Nat.add_assoc, Nat.add_assoc]
    exact hr (9 + j) i (by omega) (by omega) (by omega)
/-- one more in a table -/
theorem ef_tb_add {w w1 w2 : px_W} {f rb mx cn bs c : Nat} {R : Nat → Int × Int} {X : Nat → Int} (hf : ec_fd w 15 f = (c : Int)) (hc : c < mx) (hX : ∀ j, j < 4 → (R j).1 ≤ X j ∧ X j ≤ (R j).2) (g1 : ec_fd w2 15 f = (c : Int) + 1) (g2 : ∀ j i, j < 4 → ef_a w2 (rb + j) i = if i = c then X j else ef_a w (rb + j) i) (g3 : ∀ p, ef_a w2 152 p = if p = cn then (c : Int) + 1 else if bs + 4 * c ≤ p ∧ p < bs + 4 * c + 4 then X (p - (bs + 4 * c)) else ef_a w 152 p) (hcn : cn < bs) (h : ef_tb w 15 152 f rb mx cn bs R) : ef_tb w2 15 152 f rb mx cn bs R := by
  obtain ⟨c', c1, c2, c3, c4⟩ := h
  have e : c' = c := by omega
  subst e
  refine ⟨c' + 1, by omega, by rw [g1]; omega, by rw [g3, if_pos rfl]; omega, fun i hi j hj => ?_⟩
  rw [g2 j i hj, g3, if_neg (show ¬ bs + 4 * i + j = cn by omega)]
  by_cases hi2 : i = c'
  · subst hi2
    rw [if_pos rfl, if_pos (by omega)]
    have : bs + 4 * i + j - (bs + 4 * i) = j := by omega
    rw [this]
    exact ⟨rfl, hX j hj⟩
  · rw [if_neg hi2, if_neg (by omega)]
    exact c4 i (by omega) j hj
/-- of the other tables nothing changes -/
theorem ef_tb_ot {w w2 : px_W} {f rb mx cn bs f' rb' mx' cn' bs' c : Nat} {R : Nat → Int × Int} {X : Nat → Int} (g1 : ec_fd w2 15 f' = ec_fd w 15 f') (g2 : ∀ j i, j < 4 → ef_a w2 (rb' + j) i = ef_a w (rb' + j) i) (g3 : ∀ p, ef_a w2 152 p = if p = cn then (c : Int) + 1 else if bs + 4 * c ≤ p ∧ p < bs + 4 * c + 4 then X (p - (bs + 4 * c)) else ef_a w 152 p) (hc : c < mx) (h1 : cn' ≠ cn) (h2 : cn < 64) (h3 : cn' < 64) (h4 : 64 ≤ bs) (h5 : 64 ≤ bs') (h6 : bs' + 4 * mx' ≤ bs ∨ bs + 4 * mx ≤ bs') (h : ef_tb w 15 152 f' rb' mx' cn' bs' R) : ef_tb w2 15 152 f' rb' mx' cn' bs' R := by
  refine ef_tb_st g1 ?_ (fun j i hj _ => g2 j i hj) (fun p p1 p2 => ?_) h
  · rw [g3, if_neg h1, if_neg (by omega)]
  · rw [g3, if_neg (by omega), if_neg (by omega)]
theorem ef_get_a {w w' : px_W} {k n p : Nat} {sg : sy_Sg} (hW : ec_W hb_A w) (hW' : ec_W hb_A w') (ha : hb_A[k]? = some (.inl (n, sg))) (h : sy_get w' k p = sy_get w k p) : ef_a w' k p = ef_a w k p := by
  obtain ⟨l, hl, _⟩ := ec_W_row hW ha
  obtain ⟨l', hl', _⟩ := ec_W_row hW' ha
  unfold sy_get at h
  rw [hl, hl'] at h
  have h2 : l'[p]? = l[p]? := by
    have h1 : (l'[p]?).map Value.int = (l[p]?).map Value.int := h
    cases e1 : l'[p]? with
    | none =>
      cases e2 : l[p]? with
      | none => rfl
      | some y =>
        rw [e1, e2] at h1
        cases h1
    | some x =>
      cases e2 : l[p]? with
      | none =>
        rw [e1, e2] at h1
        cases h1
      | some y =>
        rw [e1, e2] at h1
        cases h1
        rfl
  unfold ef_a ec_rd
  rw [hl, hl']
  dsimp only
  rw [Int.toNat_natCast, List.getD_eq_getElem?_getD, List.getD_eq_getElem?_getD, h2]
theorem ef_get_f {w w' : px_W} {k f ci : Nat} {sl : List ((Int × Int) ⊕ Nat)} (hW : ec_W hb_A w) (hW' : ec_W hb_A w') (ha : hb_A[k]? = some (.inr (.inr (ci, sl)))) (h : sy_get w' k f = sy_get w k f) : ec_fd w' k f = ec_fd w k f := by
  obtain ⟨o, ho, _⟩ := ec_W_obj hW ha
  obtain ⟨o', ho', _⟩ := ec_W_obj hW' ha
  unfold sy_get at h
  rw [ho, ho'] at h
  have h1 : o'.2[f]? = o.2[f]? := h
  unfold ec_fd
  rw [ho, ho']
  dsimp only
  rw [h1]
/-- the places of the crowd -/
def ef_dc : List (Nat × Nat × Nat) := [(15, 0, 11), (16, 0, 12), (17, 0, 12), (18, 0, 12), (19, 0, 12), (20, 0, 12), (21, 0, 12), (22, 0, 12), (23, 0, 12), (24, 0, 12), (25, 0, 12), (26, 0, 12), (27, 0, 12), (152, 3, 6), (152, 128, 248), (0, 14, 15), (151, 2, 3), (73, 0, 11), (74, 0, 12), (75, 0, 12), (76, 0, 12), (77, 0, 12), (78, 0, 12), (79, 0, 12), (80, 0, 12), (81, 0, 12), (82, 0, 12), (83, 0, 12), (84, 0, 12), (85, 0, 12), (153, 3, 6), (153, 128, 248)]
theorem ef_dc_st {w w' : px_W} (hW : ec_W hb_A w) (hW' : ec_W hb_A w') (h : ∀ p ∈ ef_dc, ∀ i, p.2.1 ≤ i → i < p.2.2 → sy_get w' p.1 i = sy_get w p.1 i) (hR : ef_RC w) : ef_RC w' := by
  have f : ∀ k a b, (k, a, b) ∈ ef_dc → ∀ (ci : Nat) (sl : List ((Int × Int) ⊕ Nat)), hb_A[k]? = some (.inr (.inr (ci, sl))) → ∀ g, a ≤ g → g < b → ec_fd w' k g = ec_fd w k g := fun k a b hm ci sl ha g h1 h2 => ef_get_f hW hW' ha (h _ hm g h1 h2)
  have a : ∀ k a b, (k, a, b) ∈ ef_dc → ∀ (n : Nat) (sg : sy_Sg), hb_A[k]? = some (.inl (n, sg)) → ∀ g, a ≤ g → g < b → ef_a w' k g = ef_a w k g := fun k a b hm n sg ha g h1 h2 => ef_get_a hW hW' ha (h _ hm g h1 h2)
  have row : ∀ o, (o = 15 ∨ o = 73) → ∀ k p, 1 ≤ k → k ≤ 12 → p < 12 → ef_a w' (o + k) p = ef_a w (o + k) p := by
    intro o ho k p h1 h2 h3
    have hk : k = 1 ∨ k = 2 ∨ k = 3 ∨ k = 4 ∨ k = 5 ∨ k = 6 ∨ k = 7 ∨ k = 8 ∨ k = 9 ∨ k = 10 ∨ k = 11 ∨ k = 12 := by omega
    rcases ho with rfl | rfl <;> rcases hk with rfl | rfl | rfl | rfl | rfl | rfl | rfl | rfl | rfl | rfl | rfl | rfl <;> exact a _ 0 12 (by decide) _ _ rfl p (Nat.zero_le _) h3
  have d : ∀ dc, (dc = 152 ∨ dc = 153) → ∀ p, 3 ≤ p → p < 248 → (p ≤ 5 ∨ 128 ≤ p) → ef_a w' dc p = ef_a w dc p := by
    intro dc hdc p h1 h2 h3
    rcases hdc with rfl | rfl <;> rcases h3 with h3 | h3
    · exact a _ 3 6 (by decide) _ _ rfl p h1 (by omega)
    · exact a _ 128 248 (by decide) _ _ rfl p h3 h2
    · exact a _ 3 6 (by decide) _ _ rfl p h1 (by omega)
    · exact a _ 128 248 (by decide) _ _ rfl p h3 h2
  have fo : ∀ o, (o = 15 ∨ o = 73) → ∀ g, (g = 0 ∨ g = 5 ∨ g = 10) → ec_fd w' o g = ec_fd w o g := by
    intro o ho g hg
    rcases ho with rfl | rfl
    · exact f 15 0 11 (by decide) _ _ rfl g (Nat.zero_le _) (by omega)
    · exact f 73 0 11 (by decide) _ _ rfl g (Nat.zero_le _) (by omega)
  have k1 : ec_fd w' 0 14 = ec_fd w 0 14 := f 0 14 15 (by decide) _ _ rfl 14 (by decide) (by decide)
  have k2 : ec_fd w' 151 2 = ec_fd w 151 2 := f 151 2 3 (by decide) _ _ rfl 2 (by decide) (by decide)
  refine ⟨ef_cr_st (fo 15 (.inl rfl)) (row 15 (.inl rfl)) (d 152 (.inl rfl)) hR.1, ?_⟩
  rcases hR.2 with ⟨h1, h2⟩ | ⟨h1, h2, h3⟩
  · exact .inl ⟨k1.trans h1, k2.trans h2⟩
  · exact .inr ⟨k1.trans h1, k2.trans h2, ef_cr_st (fo 73 (.inr rfl)) (row 73 (.inr rfl)) (d 153 (.inr rfl)) h3⟩

end
