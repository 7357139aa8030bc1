noncomputable section
/-! GREATEST, LEAST, AMOUNT: by cases -/
theorem sy_frs_len {ρ : Nat → Int} {τ : Nat → Int64} {PM : List px_M} : ∀ (fs : List sy_Fr) (cs : List pf_F), sy_frs ρ τ PM fs cs → fs.length = cs.length
  | [], [], _ => rfl
  | [], _ :: _, h => h.elim
  | _ :: _, [], h => h.elim
  | f :: fs, c :: cs, h => by rw [List.length_cons, List.length_cons, sy_frs_len fs cs h.2]
section XM
variable {x : sy_X} {q : sy_Q} {S : sy_S} {M : px_M} {i : Instr} {len : Nat} {l : List sy_S}
theorem sy_goMx {k : Nat} {c : Nat × Nat} {a b u v : sy_L} {r : List sy_A} (hM : q.1[S.2.1.1]? = some M) (hq : px_look M.2.1 S.2.1.2.1 = some (.invokestatic k, 3)) (hst : S.2.1.2.2.2 = .inl b :: .inl a :: r) (hL : px_look M.2.2.2.1 k = some c) (hc : c.1 = 8 ∧ u = a ∧ v = b ∨ c.1 = 9 ∧ u = b ∧ v = a) (hsum : (r.map sy_cat).sum ≤ 8) (hdep : S.2.2.length + 1 ≤ x.2.2.2.2.2.2)
    (hT : ∀ g', (sy_two S.1 .lt u v).1 = some g' → sy_Good x q (sy_at S g' (S.2.1.2.1 + 3) S.2.1.2.2.1 (.inl b :: r))) (hF : ∀ g', (sy_two S.1 .lt u v).2 = some g' → sy_Good x q (sy_at S g' (S.2.1.2.1 + 3) S.2.1.2.2.1 (.inl a :: r))) : sy_Good x q S := by
  refine sy_open (fun ρ τ w lc cf d hm hl hf hd => ?_) hM
  have hcf := sy_frs_len _ _ hf
  have hd1 : 1 ≤ d := by omega
  rw [hst]
  have h2 := sy_two_ok hm .lt u v
  have h3 : px_s3 (.invokestatic k) 3 d M.2.2 ((.inl b :: .inl a :: r : List sy_A).map (sy_v ρ τ)) w = none := px_s3_no2 hL (by rcases hc with h | h <;> omega)
  have hs : px_s6 (.invokestatic k) 3 d M.2.2 ((.inl b :: .inl a :: r : List sy_A).map (sy_v ρ τ)) = some ((if px_cnd .lt (Int32.ofInt (sy_e ρ u)) (Int32.ofInt (sy_e ρ v)) = true then Value.int (Int32.ofInt (sy_e ρ b)) else Value.int (Int32.ofInt (sy_e ρ a))) :: r.map (sy_v ρ τ)) := by
    show (if 3 = 3 ∧ 1 ≤ d then (px_look M.2.2.2.1 k).bind _ else none) = _
    rw [if_pos ⟨rfl, hd1⟩, hL]
    show (if c.1 = 10 then _ else (if ((r.map (sy_v ρ τ)).map (fun v => v.category)).sum ≤ 8 then (if c.1 = 8 then some (Value.int (if Int32.ofInt (sy_e ρ a) < Int32.ofInt (sy_e ρ b) then Int32.ofInt (sy_e ρ b) else Int32.ofInt (sy_e ρ a)) :: r.map (sy_v ρ τ)) else if c.1 = 9 then some (Value.int (if Int32.ofInt (sy_e ρ b) < Int32.ofInt (sy_e ρ a) then Int32.ofInt (sy_e ρ b) else Int32.ofInt (sy_e ρ a)) :: r.map (sy_v ρ τ)) else none) else none)) = _
    rw [if_neg (by rcases hc with h | h <;> omega), if_pos (by rw [sy_sum_v]; exact hsum)]
    rcases hc with ⟨h8, rfl, rfl⟩ | ⟨h9, rfl, rfl⟩
    · rw [if_pos h8]
      by_cases hlt : Int32.ofInt (sy_e ρ u) < Int32.ofInt (sy_e ρ v)
      · rw [if_pos hlt, if_pos (show px_cnd .lt _ _ = true from decide_eq_true hlt)]
      · rw [if_neg hlt, if_neg (show ¬ px_cnd .lt _ _ = true from fun h => hlt (of_decide_eq_true h))]
    · rw [if_neg (by omega), if_pos h9]
      by_cases hlt : Int32.ofInt (sy_e ρ u) < Int32.ofInt (sy_e ρ v)
      · rw [if_pos hlt, if_pos (show px_cnd .lt _ _ = true from decide_eq_true hlt)]
      · rw [if_neg hlt, if_neg (show ¬ px_cnd .lt _ _ = true from fun h => hlt (of_decide_eq_true h))]
  by_cases hlt : px_cnd .lt (Int32.ofInt (sy_e ρ u)) (Int32.ofInt (sy_e ρ v)) = true
  · rw [if_pos hlt] at hs
    obtain ⟨g', h4, h5⟩ := h2.1 hlt
    exact pf_next (px_step_6 hq (Nat.le_refl 2) h3 hs) (sy_use (hT g' h4) hM h5 hl hf hd)
  · rw [if_neg hlt] at hs
    obtain ⟨g', h4, h5⟩ := h2.2 hlt
    exact pf_next (px_step_6 hq (Nat.le_refl 2) h3 hs) (sy_use (hF g' h4) hM h5 hl hf hd)
theorem sy_goAb {k : Nat} {c : Nat × Nat} {a : sy_L} {r : List sy_A} (hM : q.1[S.2.1.1]? = some M) (hq : px_look M.2.1 S.2.1.2.1 = some (.invokestatic k, 3)) (hst : S.2.1.2.2.2 = .inl a :: r) (hL : px_look M.2.2.2.1 k = some c) (hc : c.1 = 10) (hsum : (r.map sy_cat).sum ≤ 8) (hdep : S.2.2.length + 1 ≤ x.2.2.2.2.2.2)
    (hT : ∀ g', (sy_two S.1 .ge a (sy_c 0)).1 = some g' → sy_Good x q (sy_at S g' (S.2.1.2.1 + 3) S.2.1.2.2.1 (.inl a :: r))) (hF : ∀ g', (sy_two S.1 .ge a (sy_c 0)).2 = some g' → sy_Good x q (sy_at S g' (S.2.1.2.1 + 3) S.2.1.2.2.1 (.inl (sy_sub (sy_c 0) a) :: r))) : sy_Good x q S := by
  refine sy_open (fun ρ τ w lc cf d hm hl hf hd => ?_) hM
  have hcf := sy_frs_len _ _ hf
  have hd1 : 1 ≤ d := by omega
  rw [hst]
  have h2 := sy_two_ok hm .ge a (sy_c 0)
  rw [sy_zero] at h2
  have h3 : px_s3 (.invokestatic k) 3 d M.2.2 ((.inl a :: r : List sy_A).map (sy_v ρ τ)) w = none := px_s3_no2 hL (by omega)
  have hneg : (0 : Int32) - Int32.ofInt (sy_e ρ a) = Int32.ofInt (sy_e ρ (sy_sub (sy_c 0) a)) := by
    rw [sy_sub_e, Int32.ofInt_sub, sy_c_e]
    rfl
  have hs : px_s6 (.invokestatic k) 3 d M.2.2 ((.inl a :: r : List sy_A).map (sy_v ρ τ)) = some ((if px_cnd .ge (Int32.ofInt (sy_e ρ a)) 0 = true then Value.int (Int32.ofInt (sy_e ρ a)) else Value.int (Int32.ofInt (sy_e ρ (sy_sub (sy_c 0) a)))) :: r.map (sy_v ρ τ)) := by
    show (if 3 = 3 ∧ 1 ≤ d then (px_look M.2.2.2.1 k).bind _ else none) = _
    rw [if_pos ⟨rfl, hd1⟩, hL]
    show (if c.1 = 10 then (if ((r.map (sy_v ρ τ)).map (fun v => v.category)).sum ≤ 8 then some (Value.int (if 0 ≤ Int32.ofInt (sy_e ρ a) then Int32.ofInt (sy_e ρ a) else 0 - Int32.ofInt (sy_e ρ a)) :: r.map (sy_v ρ τ)) else none) else _) = _
    rw [if_pos hc, if_pos (by rw [sy_sum_v]; exact hsum)]
    by_cases hlt : 0 ≤ Int32.ofInt (sy_e ρ a)
    · rw [if_pos hlt, if_pos (show px_cnd .ge _ _ = true from decide_eq_true hlt)]
    · rw [if_neg hlt, if_neg (show ¬ px_cnd .ge _ _ = true from fun h => hlt (of_decide_eq_true h)), hneg]
  by_cases hlt : px_cnd .ge (Int32.ofInt (sy_e ρ a)) 0 = true
  · rw [if_pos hlt] at hs
    obtain ⟨g', h4, h5⟩ := h2.1 hlt
    exact pf_next (px_step_6 hq (Nat.le_refl 2) h3 hs) (sy_use (hT g' h4) hM h5 hl hf hd)
  · rw [if_neg hlt] at hs
    obtain ⟨g', h4, h5⟩ := h2.2 hlt
    exact pf_next (px_step_6 hq (Nat.le_refl 2) h3 hs) (sy_use (hF g' h4) hM h5 hl hf hd)
def sy_uX (D : Nat) (M : px_M) (i : Instr) (len : Nat) (S : sy_S) : Option (List sy_S) := match i, S.2.1.2.2.2 with
  | .invokestatic k, .inl b :: r => if len = 3 ∧ S.2.2.length + 1 ≤ D then (match px_look M.2.2.2.1 k with
    | some c => if c.1 = 10 then (if (r.map sy_cat).sum ≤ 8 then some (sy_opt S (sy_two S.1 .ge b (sy_c 0)).1 (S.2.1.2.1 + 3) (.inl b :: r) ++ sy_opt S (sy_two S.1 .ge b (sy_c 0)).2 (S.2.1.2.1 + 3) (.inl (sy_sub (sy_c 0) b) :: r)) else none) else (match r with
      | .inl a :: r2 => if (r2.map sy_cat).sum ≤ 8 then (if c.1 = 8 then some (sy_opt S (sy_two S.1 .lt a b).1 (S.2.1.2.1 + 3) (.inl b :: r2) ++ sy_opt S (sy_two S.1 .lt a b).2 (S.2.1.2.1 + 3) (.inl a :: r2)) else if c.1 = 9 then some (sy_opt S (sy_two S.1 .lt b a).1 (S.2.1.2.1 + 3) (.inl b :: r2) ++ sy_opt S (sy_two S.1 .lt b a).2 (S.2.1.2.1 + 3) (.inl a :: r2)) else none) else none
      | _ => none)
    | none => none) else none
  | _, _ => none
theorem sy_uX_ok {D : Nat} (hD : D ≤ x.2.2.2.2.2.2) (hM : q.1[S.2.1.1]? = some M) (hq : px_look M.2.1 S.2.1.2.1 = some (i, len)) (h : sy_uX D M i len S = some l) : sy_S1 x q S l := by
  intro hG
  unfold sy_uX at h
  split at h
  · rename_i k b r hst
    split at h
    · rename_i hc0
      obtain ⟨h1, hdep⟩ := hc0
      subst h1
      split at h
      · rename_i c hL
        split at h
        · rename_i hc
          split at h
          · rename_i hs
            cases h
            exact sy_goAb hM hq hst hL hc hs (by omega) (fun g' hg => hG _ (List.mem_append_left _ (sy_opt_mem hg))) (fun g' hg => hG _ (List.mem_append_right _ (sy_opt_mem hg)))
          · cases h
        · split at h
          · rename_i a r2
            split at h
            · rename_i hs
              split at h
              · rename_i hc
                cases h
                exact sy_goMx hM hq hst hL (.inl ⟨hc, rfl, rfl⟩) hs (by omega) (fun g' hg => hG _ (List.mem_append_left _ (sy_opt_mem hg))) (fun g' hg => hG _ (List.mem_append_right _ (sy_opt_mem hg)))
              · split at h
                · rename_i hc
                  cases h
                  exact sy_goMx hM hq hst hL (.inr ⟨hc, rfl, rfl⟩) hs (by omega) (fun g' hg => hG _ (List.mem_append_left _ (sy_opt_mem hg))) (fun g' hg => hG _ (List.mem_append_right _ (sy_opt_mem hg)))
                · cases h
            · cases h
          · cases h
      · cases h
    · cases h
  · cases h
end XM

end
