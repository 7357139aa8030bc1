noncomputable section
/-! THE LAW'S OWN FRAME: THE SCRIPT -/
section LW
variable {x : sy_X} {q : sy_Q} {S : sy_S} {M : px_M} {i : Instr} {len : Nat} {l : List sy_S}
/-- reads of the script: its length is symbol 0 -/
def sy_uQ (i : Instr) (len : Nat) (S : sy_S) : Option (List sy_S) := match i, S.2.1.2.2.2 with
  | .arraylength, .inr (.inl 0) :: r => if len = 1 ∧ S.2.2 = [] then some [sy_at S S.1 (S.2.1.2.1 + 1) S.2.1.2.2.1 (.inl (sy_x 0) :: r)] else none
  | .iaload, .inl ix :: .inr (.inl 0) :: r => if len = 1 ∧ S.2.2 = [] ∧ sy_wS S = true ∧ sy_pos S.1.1 S.1.2.2.1 ix = true ∧ sy_pos S.1.1 S.1.2.2.1 (sy_add (sy_sub (sy_x 0) ix) (sy_c (-1))) = true then some [sy_at S (sy_new S.1 sy_full) (S.2.1.2.1 + 1) S.2.1.2.2.1 (.inl (sy_x S.1.1.length) :: r)] else none
  | _, _ => none
theorem sy_frs_nil {ρ : Nat → Int} {τ : Nat → Int64} {PM : List px_M} {cf : List pf_F} (h : sy_frs ρ τ PM [] cf) : cf = [] := by
  cases cf with
  | nil => rfl
  | cons => exact h.elim
theorem sy_uQ_ok {xs : List Int32} (hx : x.2.2.2.1 = some xs) (hlen : xs.length ≤ 3072) (hN : 1 ≤ q.2.2.2.2.2 ∧ q.2.2.2.2.1 0 = xs.length) (hM : q.1[S.2.1.1]? = some M) (hq : px_look M.2.1 S.2.1.2.1 = some (i, len)) (h : sy_uQ i len S = some l) : sy_S1 x q S l := by
  intro hG
  unfold sy_uQ at h
  split at h
  · rename_i r hst
    split at h
    · rename_i hc
      obtain ⟨h1, hfs⟩ := hc
      subst h1
      cases h
      refine sy_open (fun ρ τ w lc cf d hm hl hf hd => ?_) hM
      have hcf : cf = [] := by rw [hfs] at hf; exact sy_frs_nil hf
      have h0 : ρ 0 = xs.length := by rw [hm.1.2 0 (by omega)]; exact hN.2
      refine (fun hs : px_s2 x.1 x.2.1 .arraylength 1 (pf_scr x.2.2.2.1 cf) M.1.1.name M.1.1.cls M.2.2 (S.2.1.2.2.2.map (sy_v ρ τ)) w = some ((.inl (sy_x 0) :: r : List sy_A).map (sy_v ρ τ), w, 0, 0) => pf_next (px_step_2 hq rfl hs) (sy_use (hG _ List.mem_cons_self) hM hm hl hf hd)) ?_
      rw [hst, hcf, hx]
      show some (Value.int (Int32.ofNat xs.length) :: r.map (sy_v ρ τ), w, 0, 0) = some (Value.int (Int32.ofInt (sy_e ρ (sy_x 0))) :: r.map (sy_v ρ τ), w, 0, 0)
      rw [sy_x_e, h0]
      rfl
    · cases h
  · rename_i ix r hst
    split at h
    · rename_i hc
      obtain ⟨h1, hfs, hw, p1, p2⟩ := hc
      subst h1
      cases h
      refine sy_open (fun ρ τ w lc cf d hm hl hf hd => ?_) hM
      have hcf : cf = [] := by rw [hfs] at hf; exact sy_frs_nil hf
      have h0 : ρ 0 = xs.length := by rw [hm.1.2 0 (by omega)]; exact hN.2
      have a1 := sy_pos_e hm.2.1 hm.2.2.1 p1
      have a2 := sy_pos_e hm.2.1 hm.2.2.1 p2
      rw [sy_add_e, sy_sub_e, sy_x_e, sy_c_e, h0] at a2
      obtain ⟨x1, x2⟩ := px_ix_of (z := sy_e ρ ix) (n := xs.length) a1 (by omega) (by omega)
      have hb := sy_full_in (xs.getD (sy_e ρ ix).toNat 0)
      obtain ⟨ρ', e1, e2, hm', ⟨f1, f2, f3, f4⟩, hf'⟩ := sy_fresh (c := (M, S.2.1.2.1, lc, S.2.1.2.2.2.map (sy_v ρ τ))) hw ⟨hm, ⟨hM, rfl, hl, rfl⟩, hf⟩ hb.1 hb.2
      have f4' : S.2.1.2.2.2.map (sy_v ρ τ) = S.2.1.2.2.2.map (sy_v ρ' τ) := f4
      rw [hst] at f4'
      have hr : r.map (sy_v ρ τ) = r.map (sy_v ρ' τ) := (List.cons.inj (List.cons.inj f4').2).2
      have hu := sy_use (hG _ List.mem_cons_self) hM hm' f3 hf' hd
      have e3 : (.inl (sy_x S.1.1.length) :: r : List sy_A).map (sy_v ρ' τ) = .int (xs.getD (sy_e ρ ix).toNat 0) :: r.map (sy_v ρ τ) := by
        show Value.int (Int32.ofInt (sy_e ρ' (sy_x S.1.1.length))) :: r.map (sy_v ρ' τ) = _
        rw [sy_x_e, e2, Int32.ofInt_toInt, hr]
      rw [e3] at hu
      refine (fun hs : px_s2 x.1 x.2.1 .iaload 1 (pf_scr x.2.2.2.1 cf) M.1.1.name M.1.1.cls M.2.2 (S.2.1.2.2.2.map (sy_v ρ τ)) w = some (.int (xs.getD (sy_e ρ ix).toNat 0) :: r.map (sy_v ρ τ), w, 0, 0) => pf_next (px_step_2 hq rfl hs) hu) ?_
      rw [hst, hcf, hx]
      show (if px_ix (Int32.ofInt (sy_e ρ ix)) xs.length = true then some (Value.int (xs.getD (Int32.ofInt (sy_e ρ ix)).toNatClampNeg 0) :: r.map (sy_v ρ τ), w, 0, 0) else none) = _
      rw [if_pos x1, x2]
    · cases h
  · cases h
/-- a step of the law's frame -/
def sy_sucL (cl : List vw_C) (lt : List (List Int32)) (P PM : List px_M) (A : List sy_Ce) (Wr : sy_Wr) (Cs : List sy_Co) (D : Nat) (S : sy_S) : Option (List sy_S) := match PM[S.2.1.1]? with
  | none => none
  | some M => (match px_look M.2.1 S.2.1.2.1 with
    | none => none
    | some (i, len) => px_or (sy_pre A Wr M i S) (px_or (sy_uQ i len S) (px_or (sy_u1 M i len S) (px_or (sy_uB i len S) (px_or (sy_uK lt A M i len S) (px_or (sy_uA i len S) (px_or (sy_uL lt A Wr M i len S) (match sy_cl cl A P i len M.2.2 S.2.1.2.2.2 with
      | some z => sy_uM P Wr D S z Cs
      | none => none))))))))
theorem sy_sucL_ok {D : Nat} {Cs : List sy_Co} {xs : List Int32} (hx : x.2.2.2.1 = some xs) (hlen : xs.length ≤ 3072) (hN : 1 ≤ q.2.2.2.2.2 ∧ q.2.2.2.2.1 0 = xs.length) (hCs : ∀ C ∈ Cs, sy_Met x.1 x.2.1 x.2.2.1 q.2.1 x.2.2.2.2.1 C) (hD : D ≤ x.2.2.2.2.2.2) (h : sy_sucL x.1 x.2.1 x.2.2.1 q.1 q.2.1 q.2.2.1 Cs D S = some l) : sy_S1 x q S l := by
  unfold sy_sucL at h
  split at h
  · cases h
  · rename_i M hM
    split at h
    · cases h
    · rename_i i len hq
      rcases px_or_some h with h | h
      · exact sy_pre_ok h
      rcases px_or_some h with h | h
      · exact sy_uQ_ok hx hlen hN hM hq h
      rcases px_or_some h with h | h
      · exact sy_u1_ok hM hq h
      rcases px_or_some h with h | h
      · exact sy_uB_ok hM hq h
      rcases px_or_some h with h | h
      · exact sy_uK_ok hM hq h
      rcases px_or_some h with h | h
      · exact sy_uA_ok hM hq h
      rcases px_or_some h with h | h
      · exact sy_uL_ok hM hq h
      split at h
      · rename_i z hz
        exact sy_uM_ok hD hM hq hz Cs hCs h
      · cases h
end LW

end
