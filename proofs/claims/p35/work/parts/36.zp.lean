noncomputable section
/-! THE WHOLE LAW OUT OF THE CHECKS OF ITS CUTS -/
def hb_lv : List (Nat × sy_A) := [(0, .inr (.inl 0)), (1, .inr (.inl 64)), (2, .inr (.inl 215)), (3, .inl (sy_x 1))]
def hb_me1 : sy_L := (1, [(0, 2), (1, -2)])
def hb_me0 : sy_L := (0, [(0, 2), (1, -2)])
def hb_LW : sy_Wr := [(1099511627776, 0, 0), (1099511627777, 0, 0), (1099511627778, 0, 0), (1099511627779, 0, 0), (1099511627780, 0, 0)] ++ (List.range 179).map (fun k => (k, 0, 4096))
def hb_hd (R : sy_T) (F : List sy_Fa) : sy_Cut := (18, (R, 0, [sy_sub (sy_x 0) (sy_x 1)], F), hb_lv, hb_me1)
def hb_cs (pc : Nat) (R : sy_T) (F : List sy_Fa) : sy_Cut := (pc, (R, 0, [sy_add (sy_sub (sy_x 0) (sy_x 1)) (sy_c (-6))], F), hb_lv, hb_me0)
def hb_rv (R : sy_T) (vals : List Int) : Bool := decide (R.take 2 = [(0, 3072), (0, 3072)]) && (decide (R.length = vals.length + 2) && (List.range vals.length).all (fun i => match R[i + 2]? with
  | some p => decide (p.1 ≤ vals.getD i 0) && decide (vals.getD i 0 ≤ p.2)
  | none => false))
def hb_ρ (n : Int) (vals : List Int) (i : Nat) : Int := if i = 0 then n else if i = 1 then 0 else vals.getD (i - 2) 0
theorem hb_run {Cs : List sy_Co} {zs : List (Nat × Nat × Nat)} {cuts : List sy_Cut} (n : Nat) (hCs : ∀ C ∈ Cs, sy_Met hb_cl hb_lt hb_P hb_A (0, 0) C) (hv : hb_rv hb_RA hb_V0 = true) (hin : hb_hd hb_RA hb_FA ∈ cuts) (hc : ∀ c ∈ cuts, ∃ (k : Nat) (ss : List Nat), ∀ i, i ≤ ss.length → sy_ckT hb_cl hb_lt hb_P (hb_P ++ [hb_m302]) hb_GM (px_Hq hb_B) (px_g2 hb_AB) hb_A hb_LW Cs 40 zs 302 cuts n c k ss i = true) (xs : List Int32) (hlen : xs.length ≤ 3072) : ∃ (n : Nat) (r : Option Value × px_W × (Nat × Nat)), px_exec hb_cl hb_lt hb_P n 40 (some xs) hb_m302 0 [(0, .ref 0)] [] [] (600000, 7302250) = some r ∧ r.1 = some (.int 1) := by
  obtain ⟨⟨pc, lv, st, w, b⟩, hz, h1, h2, h3, h4, h5, h6, h7, h8, h9⟩ := hb_head
  dsimp only at h1 h2 h3 h4 h5 h6 h7 h8 h9
  subst h1 h6
  unfold hb_rv at hv
  rw [Bool.and_eq_true, Bool.and_eq_true] at hv
  obtain ⟨v1, v2, v3⟩ := hv
  have v1 := of_decide_eq_true v1
  have v2 := of_decide_eq_true v2
  have hI := sy_law2 (w := w) (ρ0 := hb_ρ xs.length hb_V0) (d := 40) (xs := xs) n hb_GMok hb_Hok hb_An_ok hb_hcl hlen hb_PM (fun j M h => by rw [List.getElem?_append_left (List.getElem?_eq_some_iff.mp h).1]; exact h) hCs (Nat.le_refl _) hc rfl 8000
  obtain ⟨n1, v, w1, e1, e2⟩ := hI (hb_hd hb_RA hb_FA) hin (hb_ρ xs.length hb_V0) (fun _ => 0) w lv ⟨by show 1 ≤ hb_RA.length; omega, fun i _ => rfl⟩ (fun i q hq => by
      have hq : hb_RA[i]? = some q := hq
      have ht : ∀ k, k < 2 → hb_RA[k]? = [((0 : Int), (3072 : Int)), (0, 3072)][k]? := fun k hk => by rw [← v1, List.getElem?_take, if_pos hk]
      match i, hq with
      | 0, hq => rw [ht 0 (by omega)] at hq; cases hq; show (0 : Int) ≤ (xs.length : Int) ∧ (xs.length : Int) ≤ 3072; omega
      | 1, hq => rw [ht 1 (by omega)] at hq; cases hq; show (0 : Int) ≤ 0 ∧ (0 : Int) ≤ 3072; omega
      | i + 2, hq =>
        have hi := (List.getElem?_eq_some_iff.mp hq).1
        have h10 := List.all_eq_true.mp v3 i (List.mem_range.mpr (by omega))
        rw [hq] at h10
        simp only [Bool.and_eq_true, decide_eq_true_eq] at h10
        exact h10) (fun c hc => by
      have hc : c ∈ [sy_sub (sy_x 0) (sy_x 1)] := hc
      rw [List.mem_singleton.mp hc, sy_sub_e, sy_x_e, sy_x_e]
      show (0 : Int) ≤ (xs.length : Int) - 0
      omega) (fun f hf => hb_fB_ok (h9 f hf) (fun i _ => by
      show (if i + 2 = 0 then (xs.length : Int) else if i + 2 = 1 then 0 else hb_V0.getD (i + 2 - 2) 0) = _
      rw [if_neg (by omega), if_neg (by omega)]
      rfl) _) h7 ⟨fun k i _ => rfl, fun j _ => h8 j⟩ (fun q hq => by
      have hq : q ∈ ([(0, .inr (.inl 0)), (1, .inr (.inl 64)), (2, .inr (.inl 215)), (3, .inl (sy_x 1))] : List (Nat × sy_A)) := hq
      simp only [List.mem_cons, List.not_mem_nil, or_false] at hq
      rcases hq with rfl | rfl | rfl | rfl
      · exact h2
      · exact h3
      · exact h4
      · rw [h5]
        show some (Value.int 0) = some (Value.int (Int32.ofInt (sy_e _ (sy_x 1))))
        rw [sy_x_e]
        rfl) (by
      have e : sy_e (hb_ρ xs.length hb_V0) hb_me1 = 1 + (2 * (xs.length : Int) + (-2 * 0 + 0)) := rfl
      show (0 : Int) ≤ sy_e (hb_ρ xs.length hb_V0) hb_me1
      rw [e]
      omega) (by
      have e : sy_e (hb_ρ xs.length hb_V0) hb_me1 = 1 + (2 * (xs.length : Int) + (-2 * 0 + 0)) := rfl
      show sy_e (hb_ρ xs.length hb_V0) hb_me1 < (8000 : Int)
      rw [e]
      omega)
  have e3 := px_room b _ _ _ _ _ _ _ _ _ _ _ e1
  obtain ⟨n2, e4⟩ := px_go_ok (scr := some xs) 10 _ _ _ _ _ _ hz n1 (v, w1, b) e3
  exact ⟨n2, _, e4, e2⟩

end
