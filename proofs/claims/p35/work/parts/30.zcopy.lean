noncomputable section
/-! A WHOLE INT ARRAY IS COPIED ONTO ANOTHER OF ITS SHAPE -/
theorem sy_cpy_all {a b : List Int32} (h : a.length = b.length) : px_cpy a b 0 0 a.length = a := by
  unfold px_cpy
  rw [List.take_zero, List.nil_append, List.drop_zero, List.take_length, Nat.zero_add, h, List.drop_length, List.append_nil]
theorem px_ix_nn {z : Int} (h0 : 0 ≤ z) (h1 : z < 2147483647) : ¬ Int32.ofInt z < 0 ∧ (Int32.ofInt z).toNatClampNeg = z.toNat := by
  obtain ⟨h2, h3⟩ := px_ix_of (z := z) (n := z.toNat + 1) h0 (by omega) (by omega)
  refine ⟨fun hlt => ?_, h3⟩
  unfold px_ix at h2
  rw [decide_eq_true hlt] at h2
  cases h2
section XC
variable {x : sy_X} {q : sy_Q} {S : sy_S} {M : px_M} {i : Instr} {len : Nat} {l : List sy_S}
def sy_cpF (ka kb : Nat) (F : List sy_Fa) : List sy_Fa := (F.filter (fun f => f.1 == ka)).map (fun f => (kb, f.2)) ++ F.filter (fun f => !(f.1 == kb))
theorem sy_goCpy {k a b n : Nat} {c : Nat × Nat} {sg : sy_Sg} {e1 e2 e3 : sy_L} {r : List sy_A} (hM : q.1[S.2.1.1]? = some M) (hq : px_look M.2.1 S.2.1.2.1 = some (.invokestatic k, 3)) (hst : S.2.1.2.2.2 = .inl e1 :: .inl e2 :: .inr (.inl b) :: .inl e3 :: .inr (.inl a) :: r) (h1 : sy_b S.1.1 e1 = some ((n : Int), (n : Int))) (h2 : sy_b S.1.1 e2 = some (0, 0)) (h3 : sy_b S.1.1 e3 = some (0, 0)) (ha : 64 ≤ a) (hb : 64 ≤ b) (hA : q.2.1[a - 64]? = some (.inl (n, sg))) (hB : q.2.1[b - 64]? = some (.inl (n, sg))) (hn : n < 2147483647) (hL : px_look M.2.2.2.1 k = some c) (hc : c.1 = 6) (hsum : (r.map sy_cat).sum ≤ 8) (hdep : S.2.2.length + 1 ≤ x.2.2.2.2.2.2) (hmay : ∀ i, i < n → sy_may q.2.2.1 (b - 64) i = true) (hjw : sy_jw q.2.2.1 (b - 64) 0 (n : Int) = true)
    (hG : sy_Good x q (sy_at S (S.1.1, S.1.2.1, S.1.2.2.1, sy_cpF (a - 64) (b - 64) S.1.2.2.2) (S.2.1.2.1 + 3) S.2.1.2.2.1 r)) : sy_Good x q S := by
  refine sy_open (fun ρ τ w lc cf d hm hl hf hd => ?_) hM
  have hcf := sy_frs_len _ _ hf
  have hd1 : 1 ≤ d := by omega
  obtain ⟨m1, m2, m3, m4, m5, m6⟩ := id hm
  obtain ⟨la, a1, a2, a3⟩ := sy_cell_i m5 hA
  obtain ⟨lb, b1, b2, b3⟩ := sy_cell_i m5 hB
  have v1 : sy_e ρ e1 = n := by have := sy_b_e m2 h1; dsimp only at this; omega
  have v2 : sy_e ρ e2 = 0 := by have := sy_b_e m2 h2; dsimp only at this; omega
  have v3 : sy_e ρ e3 = 0 := by have := sy_b_e m2 h3; dsimp only at this; omega
  have hgb : ∀ i' : Nat, sy_get (w.set (b - 64) (.inl la)) (b - 64) i' = sy_get w (a - 64) i' := by
    intro i'
    rw [sy_get_set b1, if_pos rfl]
    exact sy_get_same a1 i'
  have hgo : ∀ k' i' : Nat, ¬ k' = b - 64 → sy_get (w.set (b - 64) (.inl la)) k' i' = sy_get w k' i' := by
    intro k' i' hk
    rw [sy_get_set b1, if_neg hk]
  have hm' : sy_mem q (S.1.1, S.1.2.1, S.1.2.2.1, sy_cpF (a - 64) (b - 64) S.1.2.2.2) ρ τ (w.set (b - 64) (.inl la)) := by
    refine ⟨m1, m2, m3, fun f hf => ?_, sy_W_set m5 hB ⟨a2, a3⟩, fun k' i' hk => ?_, fun j hj => sy_jp_fr (fun p hp i' h4 h5 => ?_) (m6.2 j hj)⟩
    · rcases List.mem_append.mp hf with hf | hf
      · obtain ⟨f0, hf0, rfl⟩ := List.mem_map.mp hf
        obtain ⟨g1, g2⟩ := List.mem_filter.mp hf0
        have g3 : f0.1 = a - 64 := eq_of_beq g2
        have g4 := m4 f0 g1
        rw [g3] at g4
        show 0 ≤ sy_e ρ f0.2.1 ∧ sy_get _ (b - 64) (sy_e ρ f0.2.1).toNat = some (sy_v ρ τ f0.2.2)
        rw [hgb]
        exact g4
      · obtain ⟨g1, g2⟩ := List.mem_filter.mp hf
        have g3 : ¬ f.1 = b - 64 := by
          intro e
          simp [e] at g2
        rw [hgo _ _ g3]
        exact m4 f g1
    · by_cases hkb : k' = b - 64
      · subst hkb
        have hi : n ≤ i' := by
          rcases Nat.lt_or_ge i' n with h | h
          · rw [hmay i' h] at hk
            cases hk
          · exact h
        rw [← m6.1 _ _ hk, hgb, sy_getI a1, sy_getI b1, List.getElem?_eq_none (by omega), List.getElem?_eq_none (by omega)]
      · rw [hgo _ _ hkb]
        exact m6.1 k' i' hk
    · by_cases hkb : p.1 = b - 64
      · have h3 := List.all_eq_true.mp (List.all_eq_true.mp hjw j hj) p hp
        rw [hkb] at h3
        simp only [beq_self_eq_true, Bool.not_true, Bool.false_or, Bool.or_eq_true, decide_eq_true_eq] at h3
        rw [hkb, hgb, sy_getI a1, sy_getI b1, List.getElem?_eq_none (by omega), List.getElem?_eq_none (by omega)]
      · exact hgo _ _ hkb
  obtain ⟨z1, z2⟩ := px_ix_nn (z := (n : Int)) (by omega) (by omega)
  obtain ⟨y1, y2⟩ := px_ix_nn (z := 0) (by omega) (by omega)
  have hs : px_s3 (.invokestatic k) 3 d M.2.2 (S.2.1.2.2.2.map (sy_v ρ τ)) w = some (r.map (sy_v ρ τ), w.set (b - 64) (.inl la)) := by
    rw [hst]
    show (if 3 = 3 ∧ 1 ≤ d ∧ 64 ≤ a ∧ 64 ≤ b ∧ ¬ Int32.ofInt (sy_e ρ e3) < 0 ∧ ¬ Int32.ofInt (sy_e ρ e2) < 0 ∧ ¬ Int32.ofInt (sy_e ρ e1) < 0 ∧ ((r.map (sy_v ρ τ)).map (fun v => v.category)).sum ≤ 8 then (match px_look M.2.2.2.1 k, w[a - 64]?, w[b - 64]? with
    | some q, some (.inl la), some (.inl lb) => if q.1 = 6 ∧ (Int32.ofInt (sy_e ρ e3)).toNatClampNeg + (Int32.ofInt (sy_e ρ e1)).toNatClampNeg ≤ la.length ∧ (Int32.ofInt (sy_e ρ e2)).toNatClampNeg + (Int32.ofInt (sy_e ρ e1)).toNatClampNeg ≤ lb.length then some (r.map (sy_v ρ τ), w.set (b - 64) (.inl (px_cpy la lb (Int32.ofInt (sy_e ρ e3)).toNatClampNeg (Int32.ofInt (sy_e ρ e2)).toNatClampNeg (Int32.ofInt (sy_e ρ e1)).toNatClampNeg))) else none
    | _, _, _ => none) else none) = _
    rw [v1, v2, v3, if_pos ⟨rfl, hd1, ha, hb, y1, y1, z1, by rw [sy_sum_v]; exact hsum⟩, hL, a1, b1]
    show (if c.1 = 6 ∧ (Int32.ofInt 0).toNatClampNeg + (Int32.ofInt (n : Int)).toNatClampNeg ≤ la.length ∧ (Int32.ofInt 0).toNatClampNeg + (Int32.ofInt (n : Int)).toNatClampNeg ≤ lb.length then some (r.map (sy_v ρ τ), w.set (b - 64) (.inl (px_cpy la lb (Int32.ofInt 0).toNatClampNeg (Int32.ofInt 0).toNatClampNeg (Int32.ofInt (n : Int)).toNatClampNeg))) else none) = _
    rw [y2, z2, if_pos ⟨hc, by omega, by omega⟩]
    have hcp := sy_cpy_all (a := la) (b := lb) (by omega)
    rw [a2] at hcp
    show some (_, w.set (b - 64) (.inl (px_cpy la lb 0 0 n))) = _
    rw [hcp]
  exact pf_next (px_step_3 hq (Nat.le_refl 2) hs) (sy_use hG hM hm' hl hf hd)
def sy_uY (A : List sy_Ce) (Wr : sy_Wr) (D : Nat) (M : px_M) (i : Instr) (len : Nat) (S : sy_S) : Option (List sy_S) := match i, S.2.1.2.2.2 with
  | .invokestatic k, .inl e1 :: .inl e2 :: .inr (.inl b) :: .inl e3 :: .inr (.inl a) :: r => if len = 3 ∧ S.2.2.length + 1 ≤ D ∧ 64 ≤ a ∧ 64 ≤ b ∧ (r.map sy_cat).sum ≤ 8 then (match px_look M.2.2.2.1 k, A[a - 64]?, A[b - 64]? with
    | some c, some (.inl (n, sg)), some (.inl z) => if c.1 = 6 ∧ z = (n, sg) ∧ n < 2147483647 ∧ sy_b S.1.1 e1 = some ((n : Int), (n : Int)) ∧ sy_b S.1.1 e2 = some (0, 0) ∧ sy_b S.1.1 e3 = some (0, 0) ∧ Wr.any (fun p => decide (p.1 = b - 64) && (decide (p.2.1 = 0) && decide (n ≤ p.2.2))) = true ∧ sy_jw Wr (b - 64) 0 (n : Int) = true then some [sy_at S (S.1.1, S.1.2.1, S.1.2.2.1, sy_cpF (a - 64) (b - 64) S.1.2.2.2) (S.2.1.2.1 + 3) S.2.1.2.2.1 r] else none
    | _, _, _ => none) else none
  | _, _ => none
theorem sy_uY_ok {D : Nat} (hD : D ≤ x.2.2.2.2.2.2) (hM : q.1[S.2.1.1]? = some M) (hq : px_look M.2.1 S.2.1.2.1 = some (i, len)) (h : sy_uY q.2.1 q.2.2.1 D M i len S = some l) : sy_S1 x q S l := by
  intro hG
  unfold sy_uY at h
  split at h
  · rename_i k e1 e2 b e3 a r hst
    split at h
    · rename_i hc0
      obtain ⟨h1, hdep, ha, hb, hsum⟩ := hc0
      subst h1
      split at h
      · rename_i c n sg z hL hA hB
        split at h
        · rename_i hc1
          obtain ⟨hc, hz, hn, g1, g2, g3, hw, hjw⟩ := hc1
          subst hz
          cases h
          refine sy_goCpy hM hq hst g1 g2 g3 ha hb hA hB hn hL hc hsum (by omega) (fun i hi => ?_) hjw (hG _ List.mem_cons_self)
          obtain ⟨p, hp, hp2⟩ := List.any_eq_true.mp hw
          simp only [Bool.and_eq_true, decide_eq_true_eq] at hp2
          refine List.any_eq_true.mpr ⟨p, hp, ?_⟩
          simp only [Bool.and_eq_true, decide_eq_true_eq]
          omega
        · cases h
      · cases h
    · cases h
  · cases h
end XC

end
