noncomputable section
/-! CALLS THAT ARE WALKED IN PLACE, AND RETURNS -/
section CA
variable {cl : List vw_C} {P : List px_M} {len d idx : Nat} {L : px_L} {st : List Value} {w : px_W} {k : Nat × Nat}
theorem px_s3_no2 (h : px_look L.2.1 idx = some k) (hk : k.1 ≠ 6) : px_s3 (.invokestatic idx) len d L st w = none := by
  unfold px_s3
  split
  · rename_i heq
    cases heq
    split
    · rw [h]
      split
      · rename_i hq _ _
        cases hq
        rw [if_neg (fun z => hk z.1)]
      · rfl
    · rfl
  · rename_i heq
    cases heq
  · rfl
theorem px_s3_no3 : px_s3 (.invokevirtual idx) len d L st w = none := by
  unfold px_s3
  split
  · rename_i heq
    cases heq
  · rename_i heq
    cases heq
  · rfl
theorem px_s6_no2 (h : px_look L.2.1 idx = some k) (hk : k.1 ≠ 8 ∧ k.1 ≠ 9 ∧ k.1 ≠ 10) : px_s6 (.invokestatic idx) len d L st = none := by
  unfold px_s6
  dsimp only
  split
  · rw [h]
    show (match st with
    | .int y :: r => if k.1 = 10 then (if (r.map (fun v => v.category)).sum ≤ 8 then some (Value.int (if 0 ≤ y then y else 0 - y) :: r) else none) else (match r with
      | .int x :: r2 => if (r2.map (fun v => v.category)).sum ≤ 8 then (if k.1 = 8 then some (Value.int (if x < y then y else x) :: r2) else if k.1 = 9 then some (Value.int (if y < x then y else x) :: r2) else none) else none
      | _ => none)
    | _ => none) = none
    split
    · rw [if_neg hk.2.2]
      split
      · split
        · rw [if_neg hk.1, if_neg hk.2.1]
        · rfl
      · rfl
    · rfl
  · rfl
theorem px_s6_no3 : px_s6 (.invokevirtual idx) len d L st = none := rfl
end CA
def sy_args : Nat → List sy_A → List (Nat × sy_A)
  | _, [] => []
  | i, a :: r => (i, a) :: sy_args (if sy_cat a = 2 then i + 2 else i + 1) r
theorem sy_args_eq {ρ : Nat → Int} {τ : Nat → Int64} : ∀ (as : List sy_A) (i : Nat), lv_args i (as.map (sy_v ρ τ)) = (sy_args i as).map (fun q => (q.1, sy_v ρ τ q.2))
  | [], _ => rfl
  | a :: r, i => by
    show (i, sy_v ρ τ a) :: lv_args (if (sy_v ρ τ a).category = 2 then i + 2 else i + 1) (r.map (sy_v ρ τ)) = _
    rw [sy_cat_v, sy_args_eq r]
    rfl
theorem sy_args_ge : ∀ (as : List sy_A) (i : Nat), ∀ q ∈ sy_args i as, i ≤ q.1
  | [], _, q, h => absurd h List.not_mem_nil
  | a :: r, i, q, h => by
    rcases List.mem_cons.mp h with rfl | h
    · exact Nat.le_refl _
    · have := sy_args_ge r _ q h
      split at this <;> omega
theorem sy_args_look {ρ : Nat → Int} {τ : Nat → Int64} : ∀ (as : List sy_A) (i : Nat), ∀ q ∈ sy_args i as, px_look ((sy_args i as).map (fun q => (q.1, sy_v ρ τ q.2))) q.1 = some (sy_v ρ τ q.2)
  | [], _, q, h => absurd h List.not_mem_nil
  | a :: r, i, q, h => by
    rcases List.mem_cons.mp h with rfl | h
    · show px_look ((i, sy_v ρ τ a) :: _) i = _
      rw [px_look_cons]
      rw [if_pos rfl]
    · have hge := sy_args_ge r _ q h
      have hne : ¬ i = q.1 := by split at hge <;> omega
      show px_look ((i, sy_v ρ τ a) :: _) q.1 = _
      rw [px_look_cons]
      rw [if_neg hne]
      exact sy_args_look r _ q h
theorem sy_args_ok {ρ : Nat → Int} {τ : Nat → Int64} (as : List sy_A) : sy_lvok ρ τ (sy_args 0 as) (lv_args 0 (as.map (sy_v ρ τ))) := by
  intro q hq
  rw [sy_args_eq]
  exact sy_args_look as 0 q hq
def sy_len (as : List sy_A) : Nat := (as.map sy_cat).sum
theorem sy_len_ok {ρ : Nat → Int} {τ : Nat → Int64} : ∀ as : List sy_A, (lg_sl (as.map (sy_v ρ τ))).length = sy_len as
  | [] => rfl
  | a :: r => by
    have ih := sy_len_ok (ρ := ρ) (τ := τ) r
    unfold lg_sl at ih ⊢
    rw [List.map_cons, List.flatMap_cons, List.length_append, ih]
    show _ = sy_cat a + sy_len r
    congr 1
    rw [sy_cat_v]
    match a with
    | .inl _ => rfl
    | .inr (.inl _) => rfl
    | .inr (.inr _) => rfl
theorem sy_sum_v {ρ : Nat → Int} {τ : Nat → Int64} (r : List sy_A) : ((r.map (sy_v ρ τ)).map (fun v => v.category)).sum = (r.map sy_cat).sum := by
  rw [List.map_map]
  congr 1
  exact List.map_congr_left (fun a _ => sy_cat_v a)
section CB
variable {x : sy_X} {q : sy_Q} {S : sy_S} {M M' : px_M}
/-- what a call is: its method's number, its arguments, the rest -/
def sy_cl (cl : List vw_C) (A : List sy_Ce) (P : List px_M) (i : Instr) (len : Nat) (L : px_L) (st : List sy_A) : Option (Nat × List sy_A × List sy_A) := match i with
  | .invokestatic k => (px_look L.2.1 k).bind (fun c => (P[c.2]?).bind (fun M => if len = 3 ∧ (c.1 = 1 ∨ c.1 = 4) ∧ M.1.2.2.2.2 ≤ st.length ∧ ((st.drop M.1.2.2.2.2).map sy_cat).sum ≤ 8 then some (c.2, (st.take M.1.2.2.2.2).reverse, st.drop M.1.2.2.2.2) else none))
  | .invokevirtual k => (px_look L.2.1 k).bind (fun c => (P[c.2]?).bind (fun M => match st.drop M.1.2.2.2.2 with
    | .inr (.inl b) :: r => if len = 3 ∧ c.1 = 0 ∧ M.1.2.2.2.2 ≤ st.length ∧ (r.map sy_cat).sum ≤ 8 then (if 64 ≤ b then (match A[b - 64]? with
      | some (.inr (.inr o)) => (match cl[o.1]? with
        | some kc => if kc.1 = M.1.1.cls then some (c.2, .inr (.inl b) :: (st.take M.1.2.2.2.2).reverse, r) else none
        | none => none)
      | _ => none) else if 1 ≤ b ∧ b ≤ 16 ∧ M.1.1.cls = "java/lang/String" then some (c.2, .inr (.inl b) :: (st.take M.1.2.2.2.2).reverse, r) else none) else none
    | _ => none))
  | _ => none
theorem sy_cl_ok {ρ : Nat → Int} {τ : Nat → Int64} {w : px_W} {cl : List vw_C} {P : List px_M} {i : Instr} {len d : Nat} {L : px_L} {st : List sy_A} {z : Nat × List sy_A × List sy_A} (hW : sy_W q.2.1 w) (hz : sy_cl cl q.2.1 P i len L st = some z) : 2 ≤ px_so2 i ∧ px_s3 i len d L (st.map (sy_v ρ τ)) w = none ∧ px_s6 i len d L (st.map (sy_v ρ τ)) = none ∧ px_s4 cl P i len L (st.map (sy_v ρ τ)) w = some (z.1, z.2.1.map (sy_v ρ τ), z.2.2.map (sy_v ρ τ)) := by
  unfold sy_cl at hz
  split at hz
  · rename_i k
    obtain ⟨c, hc, h1⟩ := Option.bind_eq_some_iff.mp hz
    obtain ⟨M, hM, h2⟩ := Option.bind_eq_some_iff.mp h1
    clear hz h1
    split at h2
    · rename_i hh
      cases h2
      obtain ⟨g1, g2, g3, g4⟩ := hh
      refine ⟨by show 2 ≤ 2; omega, px_s3_no2 hc (by omega), px_s6_no2 hc (by omega), ?_⟩
      show (if len = 3 then (px_look L.2.1 k).bind (fun q => (P[q.2]?).bind (fun M => if (q.1 = 1 ∨ q.1 = 4) ∧ M.1.2.2.2.2 ≤ (st.map (sy_v ρ τ)).length ∧ (((st.map (sy_v ρ τ)).drop M.1.2.2.2.2).map (fun v => v.category)).sum ≤ 8 then some (q.2, ((st.map (sy_v ρ τ)).take M.1.2.2.2.2).reverse, (st.map (sy_v ρ τ)).drop M.1.2.2.2.2) else none)) else none) = _
      rw [if_pos g1, hc]
      show (P[c.2]?).bind _ = _
      rw [hM]
      show (if (c.1 = 1 ∨ c.1 = 4) ∧ M.1.2.2.2.2 ≤ (st.map (sy_v ρ τ)).length ∧ (((st.map (sy_v ρ τ)).drop M.1.2.2.2.2).map (fun v => v.category)).sum ≤ 8 then _ else none) = _
      rw [← List.map_drop, ← List.map_take, sy_sum_v, List.length_map, if_pos ⟨g2, g3, g4⟩, ← List.map_reverse]
    · cases h2
  · rename_i k
    obtain ⟨c, hc, h1⟩ := Option.bind_eq_some_iff.mp hz
    obtain ⟨M, hM, h2⟩ := Option.bind_eq_some_iff.mp h1
    clear hz h1
    split at h2
    · rename_i b r hdr
      split at h2
      · rename_i hh
        obtain ⟨g1, g2, g3, g4⟩ := hh
        have hd2 : (st.map (sy_v ρ τ)).drop M.1.2.2.2.2 = .ref b :: r.map (sy_v ρ τ) := by
          rw [← List.map_drop, hdr]
          rfl
        refine ⟨by show 2 ≤ 3; omega, px_s3_no3, px_s6_no3, ?_⟩
        unfold px_s4
        dsimp only
        rw [if_pos g1, hc]
        show (P[c.2]?).bind _ = _
        rw [hM]
        dsimp only [Option.bind_some]
        rw [hd2]
        dsimp only
        split at h2
        · rename_i h64
          rw [if_pos ⟨g2, by rw [List.length_map]; exact g3, h64, by rw [sy_sum_v]; exact g4⟩]
          split at h2
          · rename_i o hA
            obtain ⟨o1, o2⟩ := o
            obtain ⟨oc, l1, l2, -⟩ := sy_cell_o hW hA
            rw [l1]
            dsimp only
            rw [l2]
            split at h2
            · rename_i kc hkc
              rw [hkc]
              dsimp only
              split at h2
              · rename_i hcls
                cases h2
                rw [if_pos hcls, ← List.map_take, ← List.map_reverse]
                rfl
              · cases h2
            · cases h2
          · cases h2
        · rename_i h64
          split at h2
          · rename_i h16
            cases h2
            rw [if_neg (fun z => h64 z.2.2.1), if_pos ⟨g2, by rw [List.length_map]; exact g3, h16.1, h16.2.1, h16.2.2, by rw [sy_sum_v]; exact g4⟩, ← List.map_take, ← List.map_reverse]
            rfl
          · cases h2
      · cases h2
    · cases h2
  · cases hz
theorem sy_goCall {i : Instr} {len : Nat} {z : Nat × List sy_A × List sy_A} (hM : q.1[S.2.1.1]? = some M) (hq : px_look M.2.1 S.2.1.2.1 = some (i, len)) (hz : sy_cl x.1 q.2.1 x.2.2.1 i len M.2.2 S.2.1.2.2.2 = some z) (hM' : x.2.2.1[z.1]? = some M') (hPM : q.1[z.1]? = some M') (hlen : sy_len z.2.1 ≤ M'.1.2.2.1) (hdep : S.2.2.length + 1 ≤ x.2.2.2.2.2.2)
    (hG : sy_Good x q (S.1, (z.1, 0, sy_args 0 z.2.1, []), (S.2.1.1, S.2.1.2.1 + 3, S.2.1.2.2.1, z.2.2) :: S.2.2)) : sy_Good x q S := by
  refine sy_open (fun ρ τ w lc cf d hm hl hf hd => ?_) hM
  obtain ⟨h0, h3, h6, h4⟩ := sy_cl_ok (ρ := ρ) (τ := τ) (d := d) hm.2.2.2.2.1 hz
  have hcf : S.2.2.length = cf.length := by
    have key : ∀ (fs : List sy_Fr) (cs : List pf_F), sy_frs ρ τ q.1 fs cs → fs.length = cs.length := by
      intro fs
      induction fs with
      | nil =>
        intro cs h
        cases cs with
        | nil => rfl
        | cons => exact h.elim
      | cons f fs ih =>
        intro cs h
        cases cs with
        | nil => exact h.elim
        | cons c cs => rw [List.length_cons, List.length_cons, ih cs h.2]
    exact key _ _ hf
  cases d with
  | zero => omega
  | succ d =>
    have hstep := px_step_4 (cl := x.1) (lt := x.2.1) (P := x.2.2.1) (d := d + 1) (scr := pf_scr x.2.2.2.1 cf) (lv := lc) hq h0 h3 h6 h4
    refine pf_call hstep hM' (by rw [sy_len_ok]; exact hlen) ?_
    exact hG ρ τ w (M', 0, lv_args 0 (z.2.1.map (sy_v ρ τ)), []) ((M, S.2.1.2.1 + 3, lc, z.2.2.map (sy_v ρ τ)) :: cf) d ⟨hm, ⟨hPM, rfl, sy_args_ok _, rfl⟩, ⟨hM, rfl, hl, rfl⟩, hf⟩ (by rw [List.length_cons]; omega)
/-- what a return gives -/
def sy_rt (R : sy_T) (i : Instr) (len : Nat) (ret : Option FieldType) (st : List sy_A) : Option (Option sy_A) := match i, st with
  | .ireturn, [.inl e] => (match ret with
    | some .int => if len = 1 then some (some (.inl e)) else none
    | some .boolean => if len = 1 ∧ 0 ≤ (sy_vb R e).1 ∧ (sy_vb R e).2 ≤ 1 then some (some (.inl e)) else none
    | some .byte => if len = 1 ∧ 0 ≤ (sy_vb R e).1 ∧ (sy_vb R e).2 ≤ 0 then some (some (.inl e)) else none
    | some .char => if len = 1 ∧ 0 ≤ (sy_vb R e).1 ∧ (sy_vb R e).2 ≤ 65535 then some (some (.inl e)) else none
    | _ => none)
  | .lreturn, [.inr (.inr s)] => if len = 1 ∧ ret = some .long then some (some (.inr (.inr s))) else none
  | .return_, [] => if len = 1 ∧ ret = none then some none else none
  | _, _ => none
theorem sy_rt_ok {ρ : Nat → Int} {τ : Nat → Int64} {R : sy_T} (h : sy_ok ρ R) {i : Instr} {len : Nat} {ret : Option FieldType} {st : List sy_A} {v : Option sy_A} (hv : sy_rt R i len ret st = some v) : px_so2 i = 1 ∧ px_s5 i len ret (st.map (sy_v ρ τ)) = some (v.map (sy_v ρ τ)) := by
  unfold sy_rt at hv
  split at hv
  · rename_i e
    have hb := sy_vb_ok h e
    split at hv
    · split at hv
      · rename_i hc
        cases hv
        refine ⟨rfl, ?_⟩
        show (if len = 1 ∧ narrow .int (.int _) = .int _ then _ else none) = _
        rw [if_pos ⟨hc, rfl⟩]
        rfl
      · cases hv
    · split at hv
      · rename_i hc
        cases hv
        refine ⟨rfl, ?_⟩
        have h2 : Int32.ofInt (sy_e ρ e) = 0 ∨ Int32.ofInt (sy_e ρ e) = 1 := by
          rcases (show (Int32.ofInt (sy_e ρ e)).toInt = 0 ∨ (Int32.ofInt (sy_e ρ e)).toInt = 1 by omega) with h3 | h3
          · exact Or.inl (Int32.toInt_inj.mp h3)
          · exact Or.inr (Int32.toInt_inj.mp h3)
        show (if len = 1 ∧ narrow .boolean (.int (Int32.ofInt (sy_e ρ e))) = .int (Int32.ofInt (sy_e ρ e)) then _ else none) = _
        rw [if_pos ⟨hc.1, by rcases h2 with h2 | h2 <;> rw [h2] <;> rfl⟩]
        rfl
      · cases hv
    · split at hv
      · rename_i hc
        cases hv
        refine ⟨rfl, ?_⟩
        have h2 : Int32.ofInt (sy_e ρ e) = 0 := Int32.toInt_inj.mp (show (Int32.ofInt (sy_e ρ e)).toInt = 0 by omega)
        show (if len = 1 ∧ narrow .byte (.int (Int32.ofInt (sy_e ρ e))) = .int (Int32.ofInt (sy_e ρ e)) then _ else none) = _
        rw [if_pos ⟨hc.1, by rw [h2]; rfl⟩]
        rfl
      · cases hv
    · split at hv
      · rename_i hc
        cases hv
        refine ⟨rfl, ?_⟩
        have h2 : narrow .char (.int (Int32.ofInt (sy_e ρ e))) = .int (Int32.ofInt (sy_e ρ e)) := by
          show Value.int _ = _
          rw [sy_ch1 (by omega) (by omega)]
        show (if len = 1 ∧ narrow .char (.int (Int32.ofInt (sy_e ρ e))) = .int (Int32.ofInt (sy_e ρ e)) then _ else none) = _
        rw [if_pos ⟨hc.1, h2⟩]
        rfl
      · cases hv
    · cases hv
  · split at hv
    · rename_i hc
      cases hv
      refine ⟨rfl, ?_⟩
      show (if len = 1 ∧ ret = some .long then _ else none) = _
      rw [if_pos hc]
      rfl
    · cases hv
  · split at hv
    · rename_i hc
      cases hv
      refine ⟨rfl, ?_⟩
      show (if len = 1 ∧ ret = none then _ else none) = _
      rw [if_pos hc]
      rfl
    · cases hv
  · cases hv
theorem sy_goBack {i : Instr} {len : Nat} {v : Option sy_A} {f : sy_Fr} {fs : List sy_Fr} (hM : q.1[S.2.1.1]? = some M) (hq : px_look M.2.1 S.2.1.2.1 = some (i, len)) (hv : sy_rt S.1.1 i len M.1.2.2.2.1 S.2.1.2.2.2 = some v) (hfs : S.2.2 = f :: fs) (hG : sy_Good x q (S.1, (f.1, f.2.1, f.2.2.1, v.toList ++ f.2.2.2), fs)) : sy_Good x q S := by
  refine sy_open (fun ρ τ w lc cf d hm hl hf hd => ?_) hM
  rw [hfs] at hf
  cases cf with
  | nil => exact hf.elim
  | cons c cf =>
    obtain ⟨⟨g1, g2, g3, g4⟩, hf2⟩ := hf
    obtain ⟨h0, h5⟩ := sy_rt_ok (ρ := ρ) (τ := τ) hm.2.1 hv
    refine pf_back (px_step_5 hq h0 h5) ?_
    have e1 : (v.map (sy_v ρ τ)).toList ++ c.2.2.2 = (v.toList ++ f.2.2.2).map (sy_v ρ τ) := by
      rw [g4, List.map_append]
      cases v <;> rfl
    rw [e1]
    have hu := hG ρ τ w (c.1, c.2.1, c.2.2.1, (v.toList ++ f.2.2.2).map (sy_v ρ τ)) cf (d + 1) ⟨hm, ⟨g1, g2, g3, rfl⟩, hf2⟩ (by rw [List.length_cons] at hd; omega)
    exact hu
theorem sy_goEnd {i : Instr} {len : Nat} {v : Option sy_A} (hM : q.1[S.2.1.1]? = some M) (hq : px_look M.2.1 S.2.1.2.1 = some (i, len)) (hv : sy_rt S.1.1 i len M.1.2.2.2.1 S.2.1.2.2.2 = some v) (hfs : S.2.2 = []) (hK : ∀ (ρ : Nat → Int) (τ : Nat → Int64) (w : px_W), sy_mem q S.1 ρ τ w → x.2.2.2.2.2.1 (v.map (sy_v ρ τ)) w) : sy_Good x q S := by
  refine sy_open (fun ρ τ w lc cf d hm hl hf hd => ?_) hM
  rw [hfs] at hf
  cases cf with
  | cons c cf => exact hf.elim
  | nil =>
    obtain ⟨h0, h5⟩ := sy_rt_ok (ρ := ρ) (τ := τ) hm.2.1 hv
    exact pf_end (px_step_5 hq h0 h5) (hK ρ τ w hm)
end CB

end
