noncomputable section
/-! THE LAW, SOME CUTS WITH TWO METHODS THAT ANSWER ALIKE -/
theorem sy_law3 {cl : List vw_C} {lt : List (List Int32)} {P PM : List px_M} {G : Nat → Nat → Option (px_M × Instr × Nat)} {H : Nat → Option (px_M × Nat)} {An : Nat → Option sy_Ce} {A : List sy_Ce} {Wr : sy_Wr} {Cs : List sy_Co} {D d j : Nat} {zs : List (Nat × Nat × Nat)} {M : px_M} {cuts : List sy_Cut} {xs : List Int32} (n : Nat) (hGo : px_Gok PM G) (hH : px_Hok cl P H) (hA : An = fun k => A[k]?) (hcl : ∀ (k : Nat) (o : Nat × List ((Int × Int) ⊕ Nat)), A[k]? = some (.inr (.inr o)) → o.1 < cl.length) (hlen : xs.length ≤ 3072) (hPM : PM[j]? = some M) (hP : ∀ (j : Nat) (M : px_M), P[j]? = some M → PM[j]? = some M) (hCs : ∀ C ∈ Cs, sy_Met cl lt P A (0, 0) C) (hD : D ≤ d) (hc : ∀ c ∈ cuts, (∃ (Wc : sy_Wr) (rel : sy_Wr) (k : Nat) (ss : List Nat), sy_sbW Wc Wr = true ∧ ∀ i, i ≤ ss.length → sy_ckT cl lt P PM G H An A Wc Cs D zs j cuts n c rel k ss i = true) ∨ ∃ (Wc : sy_Wr) (rel : sy_Wr) (CA : sy_Co) (C : sy_P2) (fB n' : Nat), sy_sbW Wc Wr = true ∧ sy_Met cl lt P A (0, 0) CA ∧ sy_pure CA.2.2.2.1 = true ∧ sy_Pm cl lt P A C ∧ sy_ckQ cl lt P PM G H An A Wc Cs D zs j cuts n' CA C fB c rel = true) {w : px_W} {ρ0 : Nat → Int} (h0 : ρ0 0 = xs.length) : ∀ m : Nat, sy_I (cl, lt, P, some xs, (0, 0), (fun v _ => v = some (.int 1)), d) A Wr w ρ0 1 M cuts (m : Int) := by
  refine sy_floyd hPM (fun c hcc ρs hr hI => ?_)
  rcases hc c hcc with ⟨Wc, rel, k, ss, hWc, hks⟩ | ⟨Wc, rel, CA, C, fB, n', hWc, p1, p2, p3, p4⟩
  · exact sy_ckT_ok hGo hH hA hcl hlen hPM hP hCs hD h0 hWc hks hr hI
  · exact sy_frame (x := (cl, lt, P, some xs, (0, 0), (fun v _ => v = some (.int 1)), d)) (rel := rel) hWc hI (fun w1 hFf hI' => sy_ckQ_ok hGo hH hA hcl hlen hPM hP hCs hD p1 p2 p3 h0 hFf p4 hr hI')
theorem hb_run3 {Cs : List sy_Co} {zs : List (Nat × Nat × Nat)} {cuts : List sy_Cut} (n : Nat) (hCs : ∀ C ∈ Cs, sy_Met hb_cl hb_lt hb_P hb_A (0, 0) C) (hv : hb_rv hb_RA hb_V0 = true) (hin : hb_hd hb_RA hb_FA ∈ cuts) (hc : ∀ c ∈ cuts, (∃ (Wc : sy_Wr) (rel : sy_Wr) (k : Nat) (ss : List Nat), sy_sbW Wc hb_LW = true ∧ ∀ i, i ≤ ss.length → sy_ckT hb_cl hb_lt hb_P (hb_P ++ [hb_m302]) hb_GM (px_Hq hb_B) (px_g2 hb_AB) hb_A Wc Cs 40 zs 302 cuts n c rel k ss i = true) ∨ ∃ (Wc : sy_Wr) (rel : sy_Wr) (CA : sy_Co) (C : sy_P2) (fB n' : Nat), sy_sbW Wc hb_LW = true ∧ sy_Met hb_cl hb_lt hb_P hb_A (0, 0) CA ∧ sy_pure CA.2.2.2.1 = true ∧ sy_Pm hb_cl hb_lt hb_P hb_A C ∧ sy_ckQ hb_cl hb_lt hb_P (hb_P ++ [hb_m302]) hb_GM (px_Hq hb_B) (px_g2 hb_AB) hb_A Wc Cs 40 zs 302 cuts n' CA C fB c rel = true) (xs : List Int32) (hlen : xs.length ≤ 3072) : ∃ (n : Nat) (r : Option Value × px_W × (Nat × Nat)), px_exec hb_cl hb_lt hb_P n 40 (some xs) hb_m302 0 [(0, .ref 0)] [] [] (600000, 7302250) = some r ∧ r.1 = some (.int 1) := by
  obtain ⟨⟨pc, lv, st, w, b⟩, hz, h1, h2, h3, h4, h5, h6, h7, h8, h9⟩ := hb_head
  dsimp only at h1 h2 h3 h4 h5 h6 h7 h8 h9
  subst h1 h6
  unfold hb_rv at hv
  rw [Bool.and_eq_true, Bool.and_eq_true] at hv
  obtain ⟨v1, v2, v3⟩ := hv
  have v1 := of_decide_eq_true v1
  have v2 := of_decide_eq_true v2
  have hI := sy_law3 (w := w) (ρ0 := hb_ρ xs.length hb_V0) (d := 40) (xs := xs) n hb_GMok hb_Hok hb_An_ok hb_hcl hlen hb_PM (fun j M h => by rw [List.getElem?_append_left (List.getElem?_eq_some_iff.mp h).1]; exact h) hCs (Nat.le_refl _) hc rfl 8000
  obtain ⟨n1, v, w1, e1, e2⟩ := hI (hb_hd hb_RA hb_FA) hin (hb_ρ xs.length hb_V0) (fun _ => 0) w lv ⟨by show 1 ≤ hb_RA.length; omega, fun i _ => rfl⟩ (fun i q hq => by
      have hq : hb_RA[i]? = some q := hq
      have ht : ∀ k, k < 2 → hb_RA[k]? = [((0 : Int), (3072 : Int)), (0, 3072)][k]? := fun k hk => by rw [← v1, List.getElem?_take, if_pos hk]
      match i, hq with
      | 0, hq => rw [ht 0 (by omega)] at hq; cases hq; show (0 : Int) ≤ (xs.length : Int) ∧ (xs.length : Int) ≤ 3072; omega
      | 1, hq => rw [ht 1 (by omega)] at hq; cases hq; show (0 : Int) ≤ 0 ∧ (0 : Int) ≤ 3072; omega
      | i + 2, hq =>
        have hi := (List.getElem?_eq_some_iff.mp hq).1
        have h10 := List.all_eq_true.mp v3 i (List.mem_range.mpr (by omega))
        rw [hq] at h10
        simp only [Bool.and_eq_true, decide_eq_true_eq] at h10
        exact h10) (fun c hc => by
      have hc : c ∈ [sy_sub (sy_x 0) (sy_x 1)] := hc
      rw [List.mem_singleton.mp hc, sy_sub_e, sy_x_e, sy_x_e]
      show (0 : Int) ≤ (xs.length : Int) - 0
      omega) (fun f hf => hb_fB_ok (h9 f hf) (fun i _ => by
      show (if i + 2 = 0 then (xs.length : Int) else if i + 2 = 1 then 0 else hb_V0.getD (i + 2 - 2) 0) = _
      rw [if_neg (by omega), if_neg (by omega)]
      rfl) _) h7 ⟨fun k i _ => rfl, fun j _ => h8 j⟩ (fun q hq => by
      have hq : q ∈ ([(0, .inr (.inl 0)), (1, .inr (.inl 64)), (2, .inr (.inl 215)), (3, .inl (sy_x 1))] : List (Nat × sy_A)) := hq
      simp only [List.mem_cons, List.not_mem_nil, or_false] at hq
      rcases hq with rfl | rfl | rfl | rfl
      · exact h2
      · exact h3
      · exact h4
      · rw [h5]
        show some (Value.int 0) = some (Value.int (Int32.ofInt (sy_e _ (sy_x 1))))
        rw [sy_x_e]
        rfl) (by
      have e : sy_e (hb_ρ xs.length hb_V0) hb_me1 = 1 + (2 * (xs.length : Int) + (-2 * 0 + 0)) := rfl
      show (0 : Int) ≤ sy_e (hb_ρ xs.length hb_V0) hb_me1
      rw [e]
      omega) (by
      have e : sy_e (hb_ρ xs.length hb_V0) hb_me1 = 1 + (2 * (xs.length : Int) + (-2 * 0 + 0)) := rfl
      show sy_e (hb_ρ xs.length hb_V0) hb_me1 < (8000 : Int)
      rw [e]
      omega)
  have e3 := px_room b _ _ _ _ _ _ _ _ _ _ _ e1
  obtain ⟨n2, e4⟩ := px_go_ok (scr := some xs) 10 _ _ _ _ _ _ hz n1 (v, w1, b) e3
  exact ⟨n2, _, e4, e2⟩

end
