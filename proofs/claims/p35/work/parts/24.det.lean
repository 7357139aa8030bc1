noncomputable section
/-! STEPS THAT GIVE A KNOWN VALUE -/
section DT
variable {x : sy_X} {q : sy_Q} {S : sy_S} {M : px_M} {i : Instr} {len : Nat}
theorem sy_goD {pc' : Nat} {st' : List sy_A} (hM : q.1[S.2.1.1]? = some M)
    (hs : ∀ (ρ : Nat → Int) (τ : Nat → Int64) (w : px_W) (lc : List (Nat × Value)) (cf : List pf_F) (d : Nat), sy_mem q S.1 ρ τ w → d + cf.length = x.2.2.2.2.2.2 → px_step x.1 x.2.1 x.2.2.1 d (pf_scr x.2.2.2.1 cf) M S.2.1.2.1 lc (S.2.1.2.2.2.map (sy_v ρ τ)) w = some (.inl (pc', lc, st'.map (sy_v ρ τ), w, 0, 0)))
    (hG : sy_Good x q (sy_at S S.1 pc' S.2.1.2.2.1 st')) : sy_Good x q S := by
  refine sy_open (fun ρ τ w lc cf d hm hl hf hd => ?_) hM
  exact pf_next (hs ρ τ w lc cf d hm hd) (sy_use hG hM hm hl hf hd)
/-- an int out of an int array, at a place known -/
theorem sy_goIaldK {a n : Nat} {sg : sy_Sg} {ix e : sy_L} {r : List sy_A} (hM : q.1[S.2.1.1]? = some M) (hq : px_look M.2.1 S.2.1.2.1 = some (.iaload, 1)) (hst : S.2.1.2.2.2 = .inl ix :: .inr (.inl a) :: r) (ha : 64 ≤ a) (hA : q.2.1[a - 64]? = some (.inl (n, sg))) (hn : n ≤ 2147483647) (hf : (a - 64, sy_nm S.1.1 ix, .inl e) ∈ S.1.2.2.2)
    (hG : sy_Good x q (sy_at S S.1 (S.2.1.2.1 + 1) S.2.1.2.2.1 (.inl e :: r))) : sy_Good x q S := by
  refine sy_goD hM (fun ρ τ w lc cf d hm _ => ?_) hG
  obtain ⟨l, l1, l2, l3⟩ := sy_cell_i hm.2.2.2.2.1 hA
  have hf2 := hm.2.2.2.1 _ hf
  dsimp only at hf2
  rw [sy_nm_e hm.2.1, sy_getI l1] at hf2
  obtain ⟨v, hv, hve⟩ := Option.map_eq_some_iff.mp hf2.2
  have hz : (sy_e ρ ix).toNat < l.length := (List.getElem?_eq_some_iff.mp hv).1
  obtain ⟨x1, x2⟩ := px_ix_of (z := sy_e ρ ix) (n := l.length) hf2.1 (by omega) (by omega)
  have hd : l.getD (sy_e ρ ix).toNat 0 = v := by
    rw [List.getD_eq_getElem?_getD, hv]
    rfl
  refine (fun hs : px_s2 x.1 x.2.1 .iaload 1 (pf_scr x.2.2.2.1 cf) M.1.1.name M.1.1.cls M.2.2 (S.2.1.2.2.2.map (sy_v ρ τ)) w = some ((.inl e :: r : List sy_A).map (sy_v ρ τ), w, 0, 0) => px_step_2 hq rfl hs) ?_
  rw [hst]
  show (if 1 = 1 then (if a = 0 then _ else if 64 ≤ a then (match w[a - 64]? with
      | some (.inl l) => if px_ix (Int32.ofInt (sy_e ρ ix)) l.length = true then some (.int (l.getD (Int32.ofInt (sy_e ρ ix)).toNatClampNeg 0) :: r.map (sy_v ρ τ), w, 0, 0) else none
      | _ => none) else none) else none) = _
  rw [if_pos rfl, if_neg (by omega), if_pos ha, l1]
  show (if px_ix (Int32.ofInt (sy_e ρ ix)) l.length = true then _ else none) = some (sy_v ρ τ (.inl e) :: r.map (sy_v ρ τ), w, 0, 0)
  rw [if_pos x1, x2, hd, ← hve]
/-- a field known, or a reference -/
theorem sy_goGetK {a idx ci sl0 : Nat} {sl : List ((Int × Int) ⊕ Nat)} {v : sy_A} {r : List sy_A} (hM : q.1[S.2.1.1]? = some M) (hq : px_look M.2.1 S.2.1.2.1 = some (.getfield idx, 3)) (hst : S.2.1.2.2.2 = .inr (.inl a) :: r) (ha : 64 ≤ a) (hA : q.2.1[a - 64]? = some (.inr (.inr (ci, sl)))) (hL : px_look M.2.2.1 idx = some (ci, sl0)) (hv : (a - 64, sy_c sl0, v) ∈ S.1.2.2.2 ∨ ∃ b, v = .inr (.inl b) ∧ sl[sl0]? = some (.inr b))
    (hG : sy_Good x q (sy_at S S.1 (S.2.1.2.1 + 3) S.2.1.2.2.1 (v :: r))) : sy_Good x q S := by
  refine sy_goD hM (fun ρ τ w lc cf d hm _ => ?_) hG
  obtain ⟨o, l1, l2, l3, l4, l5⟩ := sy_cell_o hm.2.2.2.2.1 hA
  have hz : o.2[sl0]? = some (sy_v ρ τ v) := by
    rcases hv with hv | ⟨b, rfl, hb⟩
    · have hf2 := (hm.2.2.2.1 _ hv).2
      dsimp only at hf2
      rw [sy_c_e, sy_getO l1] at hf2
      exact hf2
    · exact l5 _ _ hb
  refine (fun hs : px_s2 x.1 x.2.1 (.getfield idx) 3 (pf_scr x.2.2.2.1 cf) M.1.1.name M.1.1.cls M.2.2 (S.2.1.2.2.2.map (sy_v ρ τ)) w = some ((v :: r).map (sy_v ρ τ), w, 0, 0) => px_step_2 hq rfl hs) ?_
  rw [hst]
  show (if 3 = 3 ∧ 64 ≤ a then (match px_look M.2.2.1 idx, w[a - 64]? with
      | some q, some (.inr (.inr o)) => if q.1 = o.1 then (o.2[q.2]?).map (fun v => (v :: r.map (sy_v ρ τ), w, 0, 0)) else none
      | _, _ => none) else _) = _
  rw [if_pos ⟨rfl, ha⟩, hL, l1]
  show (if ci = o.1 then (o.2[sl0]?).map _ else none) = _
  rw [if_pos l2.symm, hz]
  rfl
/-- constants of the pool, statics, texts, lengths -/
def sy_k (lt : List (List Int32)) (A : List sy_Ce) (i : Instr) (len : Nat) (L : px_L) (st : List sy_A) : Option (List sy_A) := match i, st with
  | .ldc k, r => if len = 2 then px_or ((px_look L.2.2.2.1 k).map (fun v => .inl (sy_c v.toInt) :: r)) ((px_look L.2.2.2.2.2.1 k).map (fun j => .inr (.inl (1 + j)) :: r)) else none
  | .ldc_w k, r => if len = 3 then (px_look L.2.2.2.1 k).map (fun v => .inl (sy_c v.toInt) :: r) else none
  | .getstatic k, r => if len = 3 then (px_look L.2.2.2.2.2.2.1 k).bind (fun j => if j = 0 then some (.inl (sy_c 1) :: r) else if j = 1 then some (.inr (.inl 33) :: r) else none) else none
  | .getfield k, .inr (.inl a) :: r => if len = 3 ∧ ¬ 64 ≤ a ∧ 1 ≤ a ∧ a ≤ 16 then (px_look L.2.2.2.2.2.2.2 k).bind (fun j => if j = 0 then some (.inr (.inl (a + 16)) :: r) else if j = 1 then some (.inl (sy_c 0) :: r) else none) else none
  | .arraylength, .inr (.inl a) :: r => if len = 1 ∧ ¬ a = 0 then (if 64 ≤ a then (match A[a - 64]? with
      | some (.inl z) => if z.1 ≤ 2147483647 then some (.inl (sy_c z.1) :: r) else none
      | _ => none) else if 17 ≤ a ∧ a ≤ 32 ∧ (lt.map List.length).getD (a - 17) 0 ≤ 2147483647 then some (.inl (sy_c ((lt.map List.length).getD (a - 17) 0 : Nat)) :: r) else none) else none
  | _, _ => none
theorem sy_ofN {n : Nat} {ρ : Nat → Int} : Value.int (Int32.ofNat n) = Value.int (Int32.ofInt (sy_e ρ (sy_c (n : Int)))) := by
  rw [sy_c_e]
  rfl
theorem sy_k_ok {ρ : Nat → Int} {τ : Nat → Int64} {w : px_W} {cl : List vw_C} {lt : List (List Int32)} {scr : Option (List Int32)} {nm own : String} {L : px_L} {st z : List sy_A} (hW : sy_W q.2.1 w) (hz : sy_k lt q.2.1 i len L st = some z) : px_so1 i = 0 ∧ px_s2 cl lt i len scr nm own L (st.map (sy_v ρ τ)) w = some (z.map (sy_v ρ τ), w, 0, 0) := by
  unfold sy_k at hz
  split at hz
  · rename_i k
    split at hz
    · rename_i hc
      subst hc
      refine ⟨rfl, ?_⟩
      show (if 2 = 2 then px_or ((px_look L.2.2.2.1 k).map (fun v => (Value.int v :: st.map (sy_v ρ τ), w, 0, 0))) ((px_look L.2.2.2.2.2.1 k).map (fun j => (Value.ref (1 + j) :: st.map (sy_v ρ τ), w, 0, 0))) else none) = _
      rw [if_pos rfl]
      cases h1 : px_look L.2.2.2.1 k with
      | some v =>
        rw [h1] at hz
        cases hz
        show some (Value.int v :: st.map (sy_v ρ τ), w, 0, 0) = some (Value.int (Int32.ofInt (sy_e ρ (sy_c v.toInt))) :: st.map (sy_v ρ τ), w, 0, 0)
        rw [sy_c_e, Int32.ofInt_toInt]
      | none =>
        rw [h1] at hz
        cases h2 : px_look L.2.2.2.2.2.1 k with
        | none => rw [h2] at hz; cases hz
        | some j =>
          rw [h2] at hz
          cases hz
          rfl
    · cases hz
  · rename_i k
    split at hz
    · rename_i hc
      subst hc
      refine ⟨rfl, ?_⟩
      obtain ⟨v, h1, rfl⟩ := Option.map_eq_some_iff.mp hz
      show (if 3 = 3 then (px_look L.2.2.2.1 k).map (fun v => (Value.int v :: st.map (sy_v ρ τ), w, 0, 0)) else none) = _
      rw [if_pos rfl, h1]
      show some (Value.int v :: st.map (sy_v ρ τ), w, 0, 0) = some (Value.int (Int32.ofInt (sy_e ρ (sy_c v.toInt))) :: st.map (sy_v ρ τ), w, 0, 0)
      rw [sy_c_e, Int32.ofInt_toInt]
    · cases hz
  · rename_i k
    split at hz
    · rename_i hc
      subst hc
      refine ⟨rfl, ?_⟩
      obtain ⟨j, h1, h2⟩ := Option.bind_eq_some_iff.mp hz
      show (if 3 = 3 then (px_look L.2.2.2.2.2.2.1 k).bind (fun k => if k = 0 then some (Value.int 1 :: st.map (sy_v ρ τ), w, 0, 0) else if k = 1 then some (Value.ref 33 :: st.map (sy_v ρ τ), w, 0, 0) else none) else none) = _
      rw [if_pos rfl, h1]
      show (if j = 0 then some (Value.int 1 :: st.map (sy_v ρ τ), w, 0, 0) else if j = 1 then some (Value.ref 33 :: st.map (sy_v ρ τ), w, 0, 0) else none) = _
      split at h2
      · rename_i hj
        cases h2
        rw [if_pos hj]
        show some (Value.int 1 :: st.map (sy_v ρ τ), w, 0, 0) = some (Value.int (Int32.ofInt (sy_e ρ (sy_c 1))) :: st.map (sy_v ρ τ), w, 0, 0)
        rw [sy_c_e]
        rfl
      · split at h2
        · rename_i hj0 hj
          cases h2
          rw [if_neg hj0, if_pos hj]
          rfl
        · cases h2
    · cases hz
  · rename_i k a r
    split at hz
    · rename_i hc
      refine ⟨rfl, ?_⟩
      obtain ⟨j, h1, h2⟩ := Option.bind_eq_some_iff.mp hz
      show (if len = 3 ∧ 64 ≤ a then _ else if len = 3 ∧ 1 ≤ a ∧ a ≤ 16 then (px_look L.2.2.2.2.2.2.2 k).bind (fun k => if k = 0 then some (Value.ref (a + 16) :: r.map (sy_v ρ τ), w, 0, 0) else if k = 1 then some (Value.int 0 :: r.map (sy_v ρ τ), w, 0, 0) else none) else none) = _
      rw [if_neg (fun z => hc.2.1 z.2), if_pos ⟨hc.1, hc.2.2⟩, h1]
      show (if j = 0 then some (Value.ref (a + 16) :: r.map (sy_v ρ τ), w, 0, 0) else if j = 1 then some (Value.int 0 :: r.map (sy_v ρ τ), w, 0, 0) else none) = _
      split at h2
      · rename_i hj
        cases h2
        rw [if_pos hj]
        rfl
      · split at h2
        · rename_i hj0 hj
          cases h2
          rw [if_neg hj0, if_pos hj]
          show some (Value.int 0 :: r.map (sy_v ρ τ), w, 0, 0) = some (Value.int (Int32.ofInt (sy_e ρ (sy_c 0))) :: r.map (sy_v ρ τ), w, 0, 0)
          rw [sy_c_e]
          rfl
        · cases h2
    · cases hz
  · rename_i a r
    split at hz
    · rename_i hc
      refine ⟨rfl, ?_⟩
      show (if len = 1 then (if a = 0 then _ else if 64 ≤ a then (match w[a - 64]? with
        | some (.inl l) => some (Value.int (Int32.ofNat l.length) :: r.map (sy_v ρ τ), w, 0, 0)
        | _ => none) else if 17 ≤ a ∧ a ≤ 32 then some (Value.int (Int32.ofNat ((lt.map List.length).getD (a - 17) 0)) :: r.map (sy_v ρ τ), w, 0, 0) else none) else none) = _
      rw [if_pos hc.1, if_neg hc.2]
      split at hz
      · rename_i h64
        rw [if_pos h64]
        split at hz
        · rename_i zz hA
          split at hz
          · cases hz
            obtain ⟨n, sg⟩ := zz
            obtain ⟨l, l1, l2, l3⟩ := sy_cell_i hW hA
            rw [l1]
            show some (Value.int (Int32.ofNat l.length) :: r.map (sy_v ρ τ), w, 0, 0) = some (Value.int (Int32.ofInt (sy_e ρ (sy_c (n : Int)))) :: r.map (sy_v ρ τ), w, 0, 0)
            rw [l2, ← sy_ofN]
          · cases hz
        · cases hz
      · rename_i h64
        rw [if_neg h64]
        split at hz
        · rename_i h17
          cases hz
          rw [if_pos ⟨h17.1, h17.2.1⟩]
          show _ = some (Value.int (Int32.ofInt (sy_e ρ (sy_c _))) :: r.map (sy_v ρ τ), w, 0, 0)
          rw [← sy_ofN]
        · cases hz
    · cases hz
  · cases hz
theorem sy_goK {z : List sy_A} (hM : q.1[S.2.1.1]? = some M) (hq : px_look M.2.1 S.2.1.2.1 = some (i, len)) (hz : sy_k x.2.1 q.2.1 i len M.2.2 S.2.1.2.2.2 = some z) (hG : sy_Good x q (sy_at S S.1 (S.2.1.2.1 + len) S.2.1.2.2.1 z)) : sy_Good x q S := by
  refine sy_goD hM (fun ρ τ w lc cf d hm _ => ?_) hG
  obtain ⟨h0, h1⟩ := sy_k_ok (ρ := ρ) (τ := τ) (cl := x.1) (scr := pf_scr x.2.2.2.1 cf) (nm := M.1.1.name) (own := M.1.1.cls) hm.2.2.2.2.1 hz
  exact px_step_2 hq h0 h1
end DT

end
