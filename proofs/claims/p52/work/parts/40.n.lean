/-! THE WHOLE LAW -/
theorem hb_tall : hb_cuts.all (sy_ckL hb_cl hb_lt hb_P (hb_P ++ [hb_m302]) hb_A hb_LW hb_Cs 40 302 hb_cuts 636) = true := List.all_eq_true.mpr (List.forall_mem_cons.mpr ⟨hb_ca0, List.forall_mem_cons.mpr ⟨hb_ca1, List.forall_mem_cons.mpr ⟨hb_ca2, List.forall_mem_cons.mpr ⟨hb_ca3, List.forall_mem_cons.mpr ⟨hb_ca4, List.forall_mem_cons.mpr ⟨hb_ca5, List.forall_mem_cons.mpr ⟨hb_ca6, List.forall_mem_cons.mpr ⟨hb_ca7, List.forall_mem_cons.mpr ⟨hb_ca8, List.forall_mem_cons.mpr ⟨hb_ca9, List.forall_mem_cons.mpr ⟨hb_ca10, List.forall_mem_cons.mpr ⟨hb_ca11, List.forall_mem_cons.mpr ⟨hb_ca12, List.forall_mem_cons.mpr ⟨hb_ca13, List.forall_mem_cons.mpr ⟨hb_ca14, List.forall_mem_cons.mpr ⟨hb_ca15, List.forall_mem_cons.mpr ⟨hb_ca16, List.forall_mem_cons.mpr ⟨hb_ca17, List.forall_mem_cons.mpr ⟨hb_ca18, List.forall_mem_cons.mpr ⟨hb_ca19, List.forall_mem_cons.mpr ⟨hb_ca20, List.forall_mem_cons.mpr ⟨hb_ca21, List.forall_mem_cons.mpr ⟨hb_ca22, List.forall_mem_cons.mpr ⟨hb_ca23, List.forall_mem_cons.mpr ⟨hb_ca24, List.forall_mem_cons.mpr ⟨hb_ca25, List.forall_mem_cons.mpr ⟨hb_ca26, List.forall_mem_cons.mpr ⟨hb_ca27, List.forall_mem_cons.mpr ⟨hb_ca28, List.forall_mem_cons.mpr ⟨hb_ca29, List.forall_mem_cons.mpr ⟨hb_ca30, List.forall_mem_cons.mpr ⟨hb_ca31, List.forall_mem_cons.mpr ⟨hb_ca32, List.forall_mem_cons.mpr ⟨hb_ca33, List.forall_mem_cons.mpr ⟨hb_ca34, List.forall_mem_cons.mpr ⟨hb_ca35, List.forall_mem_cons.mpr ⟨hb_ca36, List.forall_mem_cons.mpr ⟨hb_ca37, List.forall_mem_cons.mpr ⟨hb_ca38, List.forall_mem_cons.mpr ⟨hb_ca39, List.forall_mem_cons.mpr ⟨hb_ca40, List.forall_mem_cons.mpr ⟨hb_ca41, List.forall_mem_cons.mpr ⟨hb_ca42, List.forall_mem_cons.mpr ⟨hb_ca43, List.forall_mem_cons.mpr ⟨hb_ca44, List.forall_mem_cons.mpr ⟨hb_ca45, List.forall_mem_cons.mpr ⟨hb_ca46, List.forall_mem_cons.mpr ⟨hb_ca47, List.forall_mem_cons.mpr ⟨hb_ca48, List.forall_mem_cons.mpr ⟨hb_ca49, List.forall_mem_cons.mpr ⟨hb_ca50, List.forall_mem_cons.mpr ⟨hb_ca51, List.forall_mem_cons.mpr ⟨hb_ca52, fun _ h => absurd h List.not_mem_nil⟩⟩⟩⟩⟩⟩⟩⟩⟩⟩⟩⟩⟩⟩⟩⟩⟩⟩⟩⟩⟩⟩⟩⟩⟩⟩⟩⟩⟩⟩⟩⟩⟩⟩⟩⟩⟩⟩⟩⟩⟩⟩⟩⟩⟩⟩⟩⟩⟩⟩⟩⟩⟩)
theorem hb_whole (xs : List Int32) (hlen : xs.length ≤ 3072) : ∃ (n : Nat) (r : Option Value × px_W × (Nat × Nat)), px_exec hb_cl hb_lt hb_P n 40 (some xs) hb_m302 0 [(0, .ref 0)] [] [] (600000, 7302250) = some r ∧ r.1 = some (.int 1) := by
  obtain ⟨⟨pc, lv, st, w, b⟩, hz, h1, h2, h3, h4, h5, h6, h7, h8⟩ := hb_head
  dsimp only at h1 h2 h3 h4 h5 h6 h7 h8
  subst h1 h6
  have hI := sy_law (w := w) (ρ0 := fun i => if i = 0 then (xs.length : Int) else 0) (d := 40) (xs := xs) 636 hlen hb_PM hb_Cs_ok (Nat.le_refl _) hb_tall rfl 8000
  obtain ⟨n1, v, w1, e1, e2⟩ := hI hb_hd List.mem_cons_self (fun i => if i = 0 then (xs.length : Int) else 0) (fun _ => 0) w lv ⟨by decide, fun i _ => rfl⟩ (fun i q hq => by
      match i, hq with
      | 0, hq => cases hq; show (0 : Int) ≤ (xs.length : Int) ∧ (xs.length : Int) ≤ 3072; omega
      | 1, hq => cases hq; show (0 : Int) ≤ 0 ∧ (0 : Int) ≤ 3072; omega
      | i + 2, hq => simp [hb_hd] at hq) (fun c hc => by
      have hc : c ∈ [sy_sub (sy_x 0) (sy_x 1)] := hc
      rw [List.mem_singleton.mp hc, sy_sub_e, sy_x_e, sy_x_e]
      show (0 : Int) ≤ (xs.length : Int) - 0
      omega) (fun f hf => absurd hf List.not_mem_nil) h7 ⟨fun k i _ => rfl, fun j _ => h8 j⟩ (fun q hq => by
      have hq : q ∈ ([(0, .inr (.inl 0)), (1, .inr (.inl 64)), (2, .inr (.inl 215)), (3, .inl (sy_x 1))] : List (Nat × sy_A)) := hq
      simp only [List.mem_cons, List.not_mem_nil, or_false] at hq
      rcases hq with rfl | rfl | rfl | rfl
      · exact h2
      · exact h3
      · exact h4
      · rw [h5]
        show some (Value.int 0) = some (Value.int (Int32.ofInt (sy_e _ (sy_x 1))))
        rw [sy_x_e]
        rfl) (by
      have e : sy_e (fun i => if i = 0 then (xs.length : Int) else 0) hb_me1 = 1 + (2 * (xs.length : Int) + (-2 * 0 + 0)) := rfl
      show (0 : Int) ≤ sy_e (fun i => if i = 0 then (xs.length : Int) else 0) hb_me1
      rw [e]
      omega) (by
      have e : sy_e (fun i => if i = 0 then (xs.length : Int) else 0) hb_me1 = 1 + (2 * (xs.length : Int) + (-2 * 0 + 0)) := rfl
      show sy_e (fun i => if i = 0 then (xs.length : Int) else 0) hb_me1 < (8000 : Int)
      rw [e]
      omega)
  have e3 := px_room b _ _ _ _ _ _ _ _ _ _ _ e1
  obtain ⟨n2, e4⟩ := px_go_ok (scr := some xs) 10 _ _ _ _ _ _ hz n1 (v, w1, b) e3
  exact ⟨n2, _, e4, e2⟩
