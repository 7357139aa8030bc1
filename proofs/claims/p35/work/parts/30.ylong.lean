noncomputable section
/-! LONG ARRAYS, LONG CONSTANTS, BYTES OF TEXTS -/
section XL
variable {x : sy_X} {q : sy_Q} {S : sy_S} {M : px_M} {i : Instr} {len : Nat} {l : List sy_S}
theorem sy_getL {w : px_W} {k : Nat} {l : List Int64} (h : w[k]? = some (.inr (.inl l))) (j : Nat) : sy_get w k j = (l[j]?).map Value.long := by
  unfold sy_get
  rw [h]
theorem sy_goLald {a n : Nat} {ix : sy_L} {b : Int × Int} {r : List sy_A} (hw : sy_wS S = true) (hM : q.1[S.2.1.1]? = some M) (hq : px_look M.2.1 S.2.1.2.1 = some (.laload, 1)) (hst : S.2.1.2.2.2 = .inl ix :: .inr (.inl a) :: r) (ha : 64 ≤ a) (hA : q.2.1[a - 64]? = some (.inr (.inl n))) (hn : n ≤ 2147483647) (hb : sy_b S.1.1 ix = some b) (hb1 : 0 ≤ b.1) (hb2 : b.2 < (n : Int))
    (hG : sy_Good x q (sy_at S (S.1.1, S.1.2.1 + 1, S.1.2.2) (S.2.1.2.1 + 1) S.2.1.2.2.1 (.inr (.inr S.1.2.1) :: r))) : sy_Good x q S := by
  refine sy_goFL (pre := [.inl ix, .inr (.inl a)]) hw hM hst (fun ρ τ w lc cf d hm _ => ?_) hG
  obtain ⟨l, l1, l2⟩ := sy_cell_l hm.2.2.2.2.1 hA
  obtain ⟨c1, c2⟩ := sy_b_e hm.2.1 hb
  obtain ⟨x1, x2⟩ := px_ix_of (z := sy_e ρ ix) (n := l.length) (by omega) (by omega) (by omega)
  refine ⟨l.getD (sy_e ρ ix).toNat 0, (fun hs : px_s2 x.1 x.2.1 .laload 1 (pf_scr x.2.2.2.1 cf) M.1.1.name M.1.1.cls M.2.2 (S.2.1.2.2.2.map (sy_v ρ τ)) w = some (.long (l.getD (sy_e ρ ix).toNat 0) :: r.map (sy_v ρ τ), w, 0, 0) => px_step_2 hq rfl hs) ?_⟩
  rw [hst]
  show (if 1 = 1 ∧ 64 ≤ a then (match w[a - 64]? with
      | some (.inr (.inl l)) => if px_ix (Int32.ofInt (sy_e ρ ix)) l.length = true then some (.long (l.getD (Int32.ofInt (sy_e ρ ix)).toNatClampNeg 0) :: r.map (sy_v ρ τ), w, 0, 0) else none
      | _ => none) else none) = _
  rw [if_pos ⟨rfl, ha⟩, l1]
  show (if px_ix (Int32.ofInt (sy_e ρ ix)) l.length = true then _ else none) = _
  rw [if_pos x1, x2]
theorem sy_goLast {a n s : Nat} {ix : sy_L} {b : Int × Int} {r : List sy_A} (hM : q.1[S.2.1.1]? = some M) (hq : px_look M.2.1 S.2.1.2.1 = some (.lastore, 1)) (hst : S.2.1.2.2.2 = .inr (.inr s) :: .inl ix :: .inr (.inl a) :: r) (ha : 64 ≤ a) (hA : q.2.1[a - 64]? = some (.inr (.inl n))) (hn : n ≤ 2147483647) (hb : sy_b S.1.1 ix = some b) (hb1 : 0 ≤ b.1) (hb2 : b.2 < (n : Int)) (hmay : sy_mayI q.2.2.1 (a - 64) b = true) (hjw : sy_jw q.2.2.1 (a - 64) b.1 b.2 = true)
    (hG : sy_Good x q (sy_at S (S.1.1, S.1.2.1, S.1.2.2.1, (a - 64, sy_nm S.1.1 ix, .inr (.inr s)) :: sy_drop S.1.1 S.1.2.2.1 (a - 64) ix S.1.2.2.2) (S.2.1.2.1 + 1) S.2.1.2.2.1 r)) : sy_Good x q S := by
  refine sy_open (fun ρ τ w lc cf d hm hl hf hd => ?_) hM
  obtain ⟨m1, m2, m3, m4, m5, m6⟩ := id hm
  obtain ⟨l, l1, l2⟩ := sy_cell_l m5 hA
  obtain ⟨c1, c2⟩ := sy_b_e m2 hb
  have hz : (sy_e ρ ix).toNat < l.length := by rw [l2]; omega
  obtain ⟨x1, x2⟩ := px_ix_of (z := sy_e ρ ix) (n := l.length) (by omega) (by omega) (by omega)
  have hg : ∀ k' i' : Nat, ¬ (k' = a - 64 ∧ i' = (sy_e ρ ix).toNat) → sy_get (w.set (a - 64) (.inr (.inl (l.set (sy_e ρ ix).toNat (τ s))))) k' i' = sy_get w k' i' := by
    intro k' i' hne
    rw [sy_get_set l1]
    split
    · rename_i hk
      subst hk
      have hi : (sy_e ρ ix).toNat ≠ i' := fun z => hne ⟨rfl, z.symm⟩
      rw [sy_getL l1]
      show ((l.set _ _)[i']?).map Value.long = _
      rw [List.getElem?_set_ne hi]
    · rfl
  have hm' : sy_mem q (S.1.1, S.1.2.1, S.1.2.2.1, (a - 64, sy_nm S.1.1 ix, .inr (.inr s)) :: sy_drop S.1.1 S.1.2.2.1 (a - 64) ix S.1.2.2.2) ρ τ (w.set (a - 64) (.inr (.inl (l.set (sy_e ρ ix).toNat (τ s))))) := by
    refine ⟨m1, m2, m3, fun f hf => ?_, sy_W_set m5 hA ?_, sy_fr_set m6 (sy_mayI_ok hmay (by omega) c1 c2) hjw (by omega) (by omega) hg⟩
    · rcases List.mem_cons.mp hf with rfl | hf
      · show 0 ≤ sy_e ρ (sy_nm S.1.1 ix) ∧ sy_get _ (a - 64) (sy_e ρ (sy_nm S.1.1 ix)).toNat = some (.long (τ s))
        rw [sy_nm_e m2, sy_get_set l1, if_pos rfl]
        refine ⟨by omega, ?_⟩
        show ((l.set _ _)[(sy_e ρ ix).toNat]?).map Value.long = _
        rw [List.getElem?_set_self hz]
        rfl
      · exact sy_drop_ok m2 m3 m4 (by omega) hg f hf
    · show (l.set _ _).length = n
      rw [List.length_set]
      exact l2
  refine (fun hs : px_s2 x.1 x.2.1 .lastore 1 (pf_scr x.2.2.2.1 cf) M.1.1.name M.1.1.cls M.2.2 (S.2.1.2.2.2.map (sy_v ρ τ)) w = some (r.map (sy_v ρ τ), w.set (a - 64) (.inr (.inl (l.set (sy_e ρ ix).toNat (τ s)))), 0, 0) => pf_next (px_step_2 hq rfl hs) (sy_use hG hM hm' hl hf hd)) ?_
  rw [hst]
  show (if 1 = 1 ∧ 64 ≤ a then (match w[a - 64]? with
      | some (.inr (.inl l)) => if px_ix (Int32.ofInt (sy_e ρ ix)) l.length = true then some (r.map (sy_v ρ τ), w.set (a - 64) (.inr (.inl (l.set (Int32.ofInt (sy_e ρ ix)).toNatClampNeg (τ s)))), 0, 0) else none
      | _ => none) else none) = _
  rw [if_pos ⟨rfl, ha⟩, l1]
  show (if px_ix (Int32.ofInt (sy_e ρ ix)) l.length = true then _ else none) = _
  rw [if_pos x1, x2]
theorem sy_goLdc2 {k : Nat} {v : Int64} (hw : sy_wS S = true) (hM : q.1[S.2.1.1]? = some M) (hq : px_look M.2.1 S.2.1.2.1 = some (.ldc2_w k, 3)) (hL : px_look M.2.2.2.2.2.2.1 k = some v)
    (hG : sy_Good x q (sy_at S (S.1.1, S.1.2.1 + 1, S.1.2.2) (S.2.1.2.1 + 3) S.2.1.2.2.1 (.inr (.inr S.1.2.1) :: S.2.1.2.2.2))) : sy_Good x q S := by
  refine sy_goFL (pre := []) hw hM rfl (fun ρ τ w lc cf d hm _ => ?_) hG
  refine ⟨v, (fun hs : px_s2 x.1 x.2.1 (.ldc2_w k) 3 (pf_scr x.2.2.2.1 cf) M.1.1.name M.1.1.cls M.2.2 (S.2.1.2.2.2.map (sy_v ρ τ)) w = some (.long v :: S.2.1.2.2.2.map (sy_v ρ τ), w, 0, 0) => px_step_2 hq rfl hs) ?_⟩
  show (if 3 = 3 then (px_look M.2.2.2.2.2.2.1 k).map (fun v => (.long v :: S.2.1.2.2.2.map (sy_v ρ τ), w, 0, 0)) else none) = _
  rw [if_pos rfl, hL]
  rfl
def sy_lr : List Int32 → Int × Int
  | [] => (0, 0)
  | c :: r => (min c.toInt (sy_lr r).1, max c.toInt (sy_lr r).2)
theorem sy_lr_ok : ∀ (l : List Int32) (j : Nat), (sy_lr l).1 ≤ (l.getD j 0).toInt ∧ (l.getD j 0).toInt ≤ (sy_lr l).2
  | [], j => by
    rw [List.getD_nil]
    exact ⟨Int.le_refl _, Int.le_refl _⟩
  | c :: r, 0 => by
    show min c.toInt _ ≤ c.toInt ∧ c.toInt ≤ max c.toInt _
    omega
  | c :: r, j + 1 => by
    have := sy_lr_ok r j
    rw [List.getD_cons_succ]
    show min c.toInt _ ≤ _ ∧ _ ≤ max c.toInt _
    omega
theorem sy_goBald {a : Nat} {ix : sy_L} {b : Int × Int} {r : List sy_A} (hw : sy_wS S = true) (hM : q.1[S.2.1.1]? = some M) (hq : px_look M.2.1 S.2.1.2.1 = some (.baload, 1)) (hst : S.2.1.2.2.2 = .inl ix :: .inr (.inl a) :: r) (ha : 17 ≤ a ∧ a ≤ 32) (hn : (x.2.1.map List.length).getD (a - 17) 0 ≤ 2147483647) (hb : sy_b S.1.1 ix = some b) (hb1 : 0 ≤ b.1) (hb2 : b.2 < (((x.2.1.map List.length).getD (a - 17) 0 : Nat) : Int))
    (hG : sy_Good x q (sy_at S (sy_new S.1 (sy_lr (x.2.1.getD (a - 17) []))) (S.2.1.2.1 + 1) S.2.1.2.2.1 (.inl (sy_x S.1.1.length) :: r))) : sy_Good x q S := by
  refine sy_goF (pre := [.inl ix, .inr (.inl a)]) hw hM hst (fun ρ τ w lc cf d hm _ => ?_) hG
  obtain ⟨c1, c2⟩ := sy_b_e hm.2.1 hb
  obtain ⟨x1, x2⟩ := px_ix_of (z := sy_e ρ ix) (n := (x.2.1.map List.length).getD (a - 17) 0) (by omega) (by omega) (by omega)
  obtain ⟨r1, r2⟩ := sy_lr_ok (x.2.1.getD (a - 17) []) (sy_e ρ ix).toNat
  refine ⟨(x.2.1.getD (a - 17) []).getD (sy_e ρ ix).toNat 0, r1, r2, (fun hs : px_s2 x.1 x.2.1 .baload 1 (pf_scr x.2.2.2.1 cf) M.1.1.name M.1.1.cls M.2.2 (S.2.1.2.2.2.map (sy_v ρ τ)) w = some (.int ((x.2.1.getD (a - 17) []).getD (sy_e ρ ix).toNat 0) :: r.map (sy_v ρ τ), w, 0, 0) => px_step_2 hq rfl hs) ?_⟩
  rw [hst]
  show (if 1 = 1 ∧ 17 ≤ a ∧ a ≤ 32 ∧ px_ix (Int32.ofInt (sy_e ρ ix)) ((x.2.1.map List.length).getD (a - 17) 0) = true then some (.int ((x.2.1.getD (a - 17) []).getD (Int32.ofInt (sy_e ρ ix)).toNatClampNeg 0) :: r.map (sy_v ρ τ), w, 0, 0) else none) = _
  rw [if_pos ⟨rfl, ha.1, ha.2, x1⟩, x2]
def sy_uL (lt : List (List Int32)) (A : List sy_Ce) (Wr : sy_Wr) (M : px_M) (i : Instr) (len : Nat) (S : sy_S) : Option (List sy_S) := match i, S.2.1.2.2.2 with
  | .laload, .inl ix :: .inr (.inl a) :: r => if len = 1 ∧ 64 ≤ a ∧ sy_wS S = true then (match A[a - 64]?, sy_b S.1.1 ix with
    | some (.inr (.inl n)), some b => if n ≤ 2147483647 ∧ 0 ≤ b.1 ∧ b.2 < (n : Int) then some [sy_at S (S.1.1, S.1.2.1 + 1, S.1.2.2) (S.2.1.2.1 + 1) S.2.1.2.2.1 (.inr (.inr S.1.2.1) :: r)] else none
    | _, _ => none) else none
  | .lastore, .inr (.inr s) :: .inl ix :: .inr (.inl a) :: r => if len = 1 ∧ 64 ≤ a then (match A[a - 64]?, sy_b S.1.1 ix with
    | some (.inr (.inl n)), some b => if n ≤ 2147483647 ∧ 0 ≤ b.1 ∧ b.2 < (n : Int) ∧ sy_mayI Wr (a - 64) b = true ∧ sy_jw Wr (a - 64) b.1 b.2 = true then some [sy_at S (S.1.1, S.1.2.1, S.1.2.2.1, (a - 64, sy_nm S.1.1 ix, .inr (.inr s)) :: sy_drop S.1.1 S.1.2.2.1 (a - 64) ix S.1.2.2.2) (S.2.1.2.1 + 1) S.2.1.2.2.1 r] else none
    | _, _ => none) else none
  | .ldc2_w k, r => if len = 3 ∧ sy_wS S = true then (px_look M.2.2.2.2.2.2.1 k).map (fun _ => [sy_at S (S.1.1, S.1.2.1 + 1, S.1.2.2) (S.2.1.2.1 + 3) S.2.1.2.2.1 (.inr (.inr S.1.2.1) :: r)]) else none
  | .baload, .inl ix :: .inr (.inl a) :: r => if len = 1 ∧ (17 ≤ a ∧ a ≤ 32) ∧ sy_wS S = true ∧ (lt.map List.length).getD (a - 17) 0 ≤ 2147483647 then (match sy_b S.1.1 ix with
    | some b => if 0 ≤ b.1 ∧ b.2 < (((lt.map List.length).getD (a - 17) 0 : Nat) : Int) then some [sy_at S (sy_new S.1 (sy_lr (lt.getD (a - 17) []))) (S.2.1.2.1 + 1) S.2.1.2.2.1 (.inl (sy_x S.1.1.length) :: r)] else none
    | none => none) else none
  | _, _ => none
theorem sy_uL_ok (hM : q.1[S.2.1.1]? = some M) (hq : px_look M.2.1 S.2.1.2.1 = some (i, len)) (h : sy_uL x.2.1 q.2.1 q.2.2.1 M i len S = some l) : sy_S1 x q S l := by
  intro hG
  unfold sy_uL at h
  split at h
  · rename_i ix a r hst
    split at h
    · rename_i hc
      obtain ⟨h1, ha, hw⟩ := hc
      subst h1
      split at h
      · rename_i n b hA hb
        split at h
        · rename_i hc
          cases h
          exact sy_goLald hw hM hq hst ha hA hc.1 hb hc.2.1 hc.2.2 (hG _ List.mem_cons_self)
        · cases h
      · cases h
    · cases h
  · rename_i s ix a r hst
    split at h
    · rename_i hc
      obtain ⟨h1, ha⟩ := hc
      subst h1
      split at h
      · rename_i n b hA hb
        split at h
        · rename_i hc
          cases h
          exact sy_goLast hM hq hst ha hA hc.1 hb hc.2.1 hc.2.2.1 hc.2.2.2.1 hc.2.2.2.2 (hG _ List.mem_cons_self)
        · cases h
      · cases h
    · cases h
  · split at h
    · rename_i hc
      obtain ⟨h1, hw⟩ := hc
      subst h1
      obtain ⟨v, hv, rfl⟩ := Option.map_eq_some_iff.mp h
      exact sy_goLdc2 hw hM hq hv (hG _ List.mem_cons_self)
    · cases h
  · rename_i ix a r hst
    split at h
    · rename_i hc
      obtain ⟨h1, ha, hw, hn⟩ := hc
      subst h1
      split at h
      · rename_i b hb
        split at h
        · rename_i hc
          cases h
          exact sy_goBald hw hM hq hst ha hn hb hc.1 hc.2 (hG _ List.mem_cons_self)
        · cases h
      · cases h
    · cases h
  · cases h
end XL

end
