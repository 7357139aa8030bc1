noncomputable section
/-! PURE RUNS WITH THE FRAMES THAT WAIT -/
theorem px_exec_succ (cl : List vw_C) (lt : List (List Int32)) (P : List px_M) (n d : Nat) (scr : Option (List Int32)) (M : px_M) (pc : Nat) (lv : List (Nat × Value)) (st : List Value) (w : px_W) (b : Nat × Nat) : px_exec cl lt P (n + 1) d scr M pc lv st w b = (match px_step cl lt P d scr M pc lv st w with
    | none => none
    | some (.inl z) => if z.2.2.2.2.1 ≤ b.1 ∧ z.2.2.2.2.2 ≤ b.2 then px_exec cl lt P n d scr M z.1 z.2.1 z.2.2.1 z.2.2.2.1 (b.1 - z.2.2.2.2.1, b.2 - z.2.2.2.2.2) else none
    | some (.inr (.inl v)) => some (v, w, b)
    | some (.inr (.inr q)) => match d, P[q.1]? with
      | d' + 1, some M' => if (lg_sl q.2.1).length ≤ M'.1.2.2.1 then (match px_exec cl lt P n d' none M' 0 (lv_args 0 q.2.1) [] w b with
        | none => none
        | some r => px_exec cl lt P n d scr M (pc + 3) lv (r.1.toList ++ q.2.2) r.2.1 r.2.2) else none
      | _, _ => none) := rfl
theorem px_more1 {cl : List vw_C} {lt : List (List Int32)} {P : List px_M} : ∀ (n d : Nat) (scr : Option (List Int32)) (M : px_M) (pc : Nat) (lv : List (Nat × Value)) (st : List Value) (w : px_W) (b : Nat × Nat) (r : Option Value × px_W × (Nat × Nat)), px_exec cl lt P n d scr M pc lv st w b = some r → px_exec cl lt P (n + 1) d scr M pc lv st w b = some r
  | 0, _, _, _, _, _, _, _, _, _, h => by simp [px_exec] at h
  | n + 1, d, scr, M, pc, lv, st, w, b, r, h => by
    rw [px_exec_succ] at h ⊢
    cases hs : px_step cl lt P d scr M pc lv st w with
    | none => rw [hs] at h; cases h
    | some z =>
      rw [hs] at h
      match z with
      | .inl z =>
        simp only at h ⊢
        split at h
        · rename_i hb
          rw [if_pos hb]
          exact px_more1 n _ _ _ _ _ _ _ _ _ h
        · cases h
      | .inr (.inl v) => exact h
      | .inr (.inr q) =>
        simp only at h ⊢
        split at h
        · rename_i d' M' hM'
          split at h
          · rename_i hf
            rw [if_pos hf]
            split at h
            · cases h
            · rename_i r2 hr2
              rw [px_more1 n _ _ _ _ _ _ _ _ _ hr2]
              exact px_more1 n _ _ _ _ _ _ _ _ _ h
          · cases h
        · cases h
theorem px_more {cl : List vw_C} {lt : List (List Int32)} {P : List px_M} {n k d : Nat} {scr : Option (List Int32)} {M : px_M} {pc : Nat} {lv : List (Nat × Value)} {st : List Value} {w : px_W} {b : Nat × Nat} {r : Option Value × px_W × (Nat × Nat)} (h : px_exec cl lt P n d scr M pc lv st w b = some r) (hk : n ≤ k) : px_exec cl lt P k d scr M pc lv st w b = some r := by
  induction k with
  | zero =>
    have : n = 0 := by omega
    subst this
    exact h
  | succ k ih =>
    rcases Nat.lt_or_ge k n with q | q
    · have : n = k + 1 := by omega
      subst this
      exact h
    · exact px_more1 _ _ _ _ _ _ _ _ _ _ (ih q)
abbrev pf_F : Type := px_M × Nat × List (Nat × Value) × List Value
/-- the method that runs, and then those that wait, come to their ends, with K -/
def pf_Fin (cl : List vw_C) (lt : List (List Int32)) (P : List px_M) (scr : Option (List Int32)) (b : Nat × Nat) (K : Option Value → px_W → Prop) : List pf_F → Nat → px_M → Nat → List (Nat × Value) → List Value → px_W → Prop
  | [], d, M, pc, lv, st, w => ∃ (n : Nat) (v : Option Value) (w' : px_W), px_exec cl lt P n d scr M pc lv st w b = some (v, w', b) ∧ K v w'
  | f :: fs, d, M, pc, lv, st, w => ∃ (n : Nat) (v : Option Value) (w' : px_W), px_exec cl lt P n d none M pc lv st w b = some (v, w', b) ∧ pf_Fin cl lt P scr b K fs (d + 1) f.1 f.2.1 f.2.2.1 (v.toList ++ f.2.2.2) w'
def pf_scr (scr : Option (List Int32)) (fs : List pf_F) : Option (List Int32) := match fs with
  | [] => scr
  | _ :: _ => none
section PF
variable {cl : List vw_C} {lt : List (List Int32)} {P : List px_M} {scr : Option (List Int32)} {b : Nat × Nat} {K : Option Value → px_W → Prop} {fs : List pf_F} {d : Nat} {M : px_M} {pc : Nat} {lv : List (Nat × Value)} {st : List Value} {w : px_W}
theorem pf_next {pc' : Nat} {lv' : List (Nat × Value)} {st' : List Value} {w' : px_W} (hs : px_step cl lt P d (pf_scr scr fs) M pc lv st w = some (.inl (pc', lv', st', w', 0, 0))) (h : pf_Fin cl lt P scr b K fs d M pc' lv' st' w') : pf_Fin cl lt P scr b K fs d M pc lv st w := by
  cases fs with
  | nil =>
    obtain ⟨n, v, w2, h1, h2⟩ := h
    refine ⟨n + 1, v, w2, ?_, h2⟩
    rw [px_exec_succ]
    have hs' : px_step cl lt P d scr M pc lv st w = some (.inl (pc', lv', st', w', 0, 0)) := hs
    rw [hs']
    simp only [Nat.zero_le, and_self, if_true, Nat.sub_zero]
    exact h1
  | cons f fs =>
    obtain ⟨n, v, w2, h1, h2⟩ := h
    refine ⟨n + 1, v, w2, ?_, h2⟩
    rw [px_exec_succ]
    have hs' : px_step cl lt P d none M pc lv st w = some (.inl (pc', lv', st', w', 0, 0)) := hs
    rw [hs']
    simp only [Nat.zero_le, and_self, if_true, Nat.sub_zero]
    exact h1
theorem pf_end {v : Option Value} (hs : px_step cl lt P d scr M pc lv st w = some (.inr (.inl v))) (h : K v w) : pf_Fin cl lt P scr b K [] d M pc lv st w := by
  refine ⟨1, v, w, ?_, h⟩
  rw [px_exec_succ, hs]
theorem pf_back {f : pf_F} {v : Option Value} (hs : px_step cl lt P d none M pc lv st w = some (.inr (.inl v))) (h : pf_Fin cl lt P scr b K fs (d + 1) f.1 f.2.1 f.2.2.1 (v.toList ++ f.2.2.2) w) : pf_Fin cl lt P scr b K (f :: fs) d M pc lv st w := by
  refine ⟨1, v, w, ?_, h⟩
  rw [px_exec_succ, hs]
theorem pf_met {q : Nat × List Value × List Value} {M' : px_M} {n : Nat} {v : Option Value} {w1 : px_W} (hs : px_step cl lt P (d + 1) (pf_scr scr fs) M pc lv st w = some (.inr (.inr q))) (hM : P[q.1]? = some M') (hf : (lg_sl q.2.1).length ≤ M'.1.2.2.1) (hx : px_exec cl lt P n d none M' 0 (lv_args 0 q.2.1) [] w b = some (v, w1, b)) (h : pf_Fin cl lt P scr b K fs (d + 1) M (pc + 3) lv (v.toList ++ q.2.2) w1) : pf_Fin cl lt P scr b K fs (d + 1) M pc lv st w := by
  cases fs with
  | nil =>
    obtain ⟨n2, v2, w2, h1, h2⟩ := h
    refine ⟨max n n2 + 1, v2, w2, ?_, h2⟩
    rw [px_exec_succ]
    have hs' : px_step cl lt P (d + 1) scr M pc lv st w = some (.inr (.inr q)) := hs
    rw [hs']
    simp only [hM]
    rw [if_pos hf, px_more hx (Nat.le_max_left n n2)]
    exact px_more h1 (Nat.le_max_right n n2)
  | cons f fs =>
    obtain ⟨n2, v2, w2, h1, h2⟩ := h
    refine ⟨max n n2 + 1, v2, w2, ?_, h2⟩
    rw [px_exec_succ]
    have hs' : px_step cl lt P (d + 1) none M pc lv st w = some (.inr (.inr q)) := hs
    rw [hs']
    simp only [hM]
    rw [if_pos hf, px_more hx (Nat.le_max_left n n2)]
    exact px_more h1 (Nat.le_max_right n n2)
theorem pf_call {q : Nat × List Value × List Value} {M' : px_M} (hs : px_step cl lt P (d + 1) (pf_scr scr fs) M pc lv st w = some (.inr (.inr q))) (hM : P[q.1]? = some M') (hf : (lg_sl q.2.1).length ≤ M'.1.2.2.1) (h : pf_Fin cl lt P scr b K ((M, pc + 3, lv, q.2.2) :: fs) d M' 0 (lv_args 0 q.2.1) [] w) : pf_Fin cl lt P scr b K fs (d + 1) M pc lv st w := by
  obtain ⟨n, v, w1, h1, h2⟩ := h
  exact pf_met hs hM hf h1 h2
end PF

end
