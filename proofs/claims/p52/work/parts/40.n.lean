/-! THE WHOLE LAW -/
theorem hb_tall : hb_cuts.all (sy_ckL hb_cl hb_lt hb_P (hb_P ++ [hb_m302]) hb_A hb_LW hb_Cs 40 302 hb_cuts 636) = true := List.all_eq_true.mpr (List.forall_mem_cons.mpr ⟨hb_t0, List.forall_mem_cons.mpr ⟨hb_t1, List.forall_mem_cons.mpr ⟨hb_t2, List.forall_mem_cons.mpr ⟨hb_t3, List.forall_mem_cons.mpr ⟨hb_t4, List.forall_mem_cons.mpr ⟨hb_t5, List.forall_mem_cons.mpr ⟨hb_t6, List.forall_mem_cons.mpr ⟨hb_t7, List.forall_mem_cons.mpr ⟨hb_t8, List.forall_mem_cons.mpr ⟨hb_t9, List.forall_mem_cons.mpr ⟨hb_t10, List.forall_mem_cons.mpr ⟨hb_t11, List.forall_mem_cons.mpr ⟨hb_t12, List.forall_mem_cons.mpr ⟨hb_t13, List.forall_mem_cons.mpr ⟨hb_t14, List.forall_mem_cons.mpr ⟨hb_t15, List.forall_mem_cons.mpr ⟨hb_t16, List.forall_mem_cons.mpr ⟨hb_t17, List.forall_mem_cons.mpr ⟨hb_t18, List.forall_mem_cons.mpr ⟨hb_t19, List.forall_mem_cons.mpr ⟨hb_t20, List.forall_mem_cons.mpr ⟨hb_t21, List.forall_mem_cons.mpr ⟨hb_t22, List.forall_mem_cons.mpr ⟨hb_t23, List.forall_mem_cons.mpr ⟨hb_t24, List.forall_mem_cons.mpr ⟨hb_t25, List.forall_mem_cons.mpr ⟨hb_t26, List.forall_mem_cons.mpr ⟨hb_t27, List.forall_mem_cons.mpr ⟨hb_t28, List.forall_mem_cons.mpr ⟨hb_t29, List.forall_mem_cons.mpr ⟨hb_t30, List.forall_mem_cons.mpr ⟨hb_t31, List.forall_mem_cons.mpr ⟨hb_t32, List.forall_mem_cons.mpr ⟨hb_t33, List.forall_mem_cons.mpr ⟨hb_t34, List.forall_mem_cons.mpr ⟨hb_t35, List.forall_mem_cons.mpr ⟨hb_t36, List.forall_mem_cons.mpr ⟨hb_t37, List.forall_mem_cons.mpr ⟨hb_t38, List.forall_mem_cons.mpr ⟨hb_t39, List.forall_mem_cons.mpr ⟨hb_t40, List.forall_mem_cons.mpr ⟨hb_t41, List.forall_mem_cons.mpr ⟨hb_t42, List.forall_mem_cons.mpr ⟨hb_t43, List.forall_mem_cons.mpr ⟨hb_t44, List.forall_mem_cons.mpr ⟨hb_t45, List.forall_mem_cons.mpr ⟨hb_t46, List.forall_mem_cons.mpr ⟨hb_t47, List.forall_mem_cons.mpr ⟨hb_t48, List.forall_mem_cons.mpr ⟨hb_t49, List.forall_mem_cons.mpr ⟨hb_t50, List.forall_mem_cons.mpr ⟨hb_t51, List.forall_mem_cons.mpr ⟨hb_t52, fun _ h => absurd h List.not_mem_nil⟩⟩⟩⟩⟩⟩⟩⟩⟩⟩⟩⟩⟩⟩⟩⟩⟩⟩⟩⟩⟩⟩⟩⟩⟩⟩⟩⟩⟩⟩⟩⟩⟩⟩⟩⟩⟩⟩⟩⟩⟩⟩⟩⟩⟩⟩⟩⟩⟩⟩⟩⟩⟩)
theorem hb_whole (xs : List Int32) (hlen : xs.length ≤ 3072) : ∃ (n : Nat) (r : Option Value × px_W × (Nat × Nat)), px_exec hb_cl hb_lt hb_P n 40 (some xs) hb_m302 0 [(0, .ref 0)] [] [] (600000, 7302250) = some r ∧ r.1 = some (.int 1) := by
  obtain ⟨⟨pc, lv, st, w, b⟩, hz, h1, h2, h3, h4, h5, h6, h7, h8⟩ := hb_head
  dsimp only at h1 h2 h3 h4 h5 h6 h7 h8
  subst h1 h6
  have hI := sy_law (w := w) (ρ0 := fun i => if i = 0 then (xs.length : Int) else 0) (d := 40) (xs := xs) 636 hlen hb_PM hb_Cs_ok (Nat.le_refl _) hb_tall rfl 8000
  obtain ⟨n1, v, w1, e1, e2⟩ := hI hb_hd List.mem_cons_self (fun i => if i = 0 then (xs.length : Int) else 0) (fun _ => 0) w lv ⟨by decide, fun i _ => rfl⟩ (fun i q hq => by
      match i, hq with
      | 0, hq => cases hq; show (0 : Int) ≤ (xs.length : Int) ∧ (xs.length : Int) ≤ 3072; omega
      | 1, hq => cases hq; show (0 : Int) ≤ 0 ∧ (0 : Int) ≤ 3072; omega
      | i + 2, hq => simp [hb_hd] at hq) (fun c hc => by
      have hc : c ∈ [sy_sub (sy_x 0) (sy_x 1)] := hc
      rw [List.mem_singleton.mp hc, sy_sub_e, sy_x_e, sy_x_e]
      show (0 : Int) ≤ (xs.length : Int) - 0
      omega) (fun f hf => absurd hf List.not_mem_nil) h7 ⟨fun k i _ => rfl, fun j _ => h8 j⟩ (fun q hq => by
      have hq : q ∈ ([(0, .inr (.inl 0)), (1, .inr (.inl 64)), (2, .inr (.inl 215)), (3, .inl (sy_x 1))] : List (Nat × sy_A)) := hq
      simp only [List.mem_cons, List.not_mem_nil, or_false] at hq
      rcases hq with rfl | rfl | rfl | rfl
      · exact h2
      · exact h3
      · exact h4
      · rw [h5]
        show some (Value.int 0) = some (Value.int (Int32.ofInt (sy_e _ (sy_x 1))))
        rw [sy_x_e]
        rfl) (by
      have e : sy_e (fun i => if i = 0 then (xs.length : Int) else 0) hb_m1 = 1 + (2 * (xs.length : Int) + (-2 * 0 + 0)) := rfl
      show (0 : Int) ≤ sy_e (fun i => if i = 0 then (xs.length : Int) else 0) hb_m1
      rw [e]
      omega) (by
      have e : sy_e (fun i => if i = 0 then (xs.length : Int) else 0) hb_m1 = 1 + (2 * (xs.length : Int) + (-2 * 0 + 0)) := rfl
      show sy_e (fun i => if i = 0 then (xs.length : Int) else 0) hb_m1 < (8000 : Int)
      rw [e]
      omega)
  have e3 := px_room b _ _ _ _ _ _ _ _ _ _ _ e1
  obtain ⟨n2, e4⟩ := px_go_ok (scr := some xs) 10 _ _ _ _ _ _ hz n1 (v, w1, b) e3
  exact ⟨n2, _, e4, e2⟩
