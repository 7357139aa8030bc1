noncomputable section
/-! THE QUICK ENGINE: looked up in quick tables, and by the sort of the instruction -/
def sy_tag (i : Instr) : Nat := match i with
  | .ifCond _ _ => 3
  | .if_icmp _ _ => 3
  | .iaload => 4
  | .getfield _ => 5
  | .iastore => 6
  | .putfield _ => 7
  | .ireturn => 8
  | .return_ => 8
  | .lreturn => 8
  | .ishr => 2
  | .iand => 2
  | .ior => 2
  | .ishl => 2
  | .imul => 2
  | .invokestatic _ => 9
  | .invokevirtual _ => 9
  | .invokespecial _ => 0
  | .idiv => 0
  | .irem => 0
  | .laload => 0
  | .lastore => 0
  | .tableswitch _ _ _ _ => 3
  | _ => 1
/-- surely an int: no need to look -/
def sy_pl (e : sy_L) : Bool := match e.2 with
  | [] => (match e.1 with
    | .ofNat n => Nat.ble n 2147483647
    | .negSucc n => Nat.ble n 2147483647)
  | [t] => (match e.1 with
    | .ofNat n => Nat.beq n 0 && (match t.2 with
      | .ofNat k => Nat.beq k 1
      | .negSucc _ => false)
    | .negSucc _ => false)
  | _ => false
def sy_top (st : List sy_A) : Bool := match st with
  | .inl e :: _ => sy_pl e
  | _ => true
def sy_pq (m pc : Nat) : Nat := cond (Nat.ble m 227) (cond (Nat.ble m 161) (cond (Nat.ble m 10) (cond (Nat.beq m 10) (cond (Nat.beq pc 17) 2 0) 0) (cond (Nat.ble m 84) (cond (Nat.beq m 84) (cond (Nat.beq pc 14) 4 (cond (Nat.beq pc 27) 4 0)) 0) (cond (Nat.beq m 161) (cond (Nat.beq pc 47) 2 0) 0))) (cond (Nat.ble m 225) (cond (Nat.beq m 225) (cond (Nat.beq pc 48) 1 0) 0) (cond (Nat.ble m 226) (cond (Nat.beq m 226) (cond (Nat.beq pc 121) 1 (cond (Nat.beq pc 11) 3 0)) 0) (cond (Nat.beq m 227) (cond (Nat.beq pc 85) 1 0) 0)))) (cond (Nat.ble m 272) (cond (Nat.ble m 235) (cond (Nat.beq m 235) (cond (Nat.beq pc 31) 5 0) 0) (cond (Nat.ble m 240) (cond (Nat.beq m 240) (cond (Nat.beq pc 17) 1 0) 0) (cond (Nat.beq m 272) (cond (Nat.beq pc 1) 6 0) 0))) (cond (Nat.ble m 277) (cond (Nat.ble m 273) (cond (Nat.beq m 273) (cond (Nat.beq pc 44) 1 0) 0) (cond (Nat.beq m 277) (cond (Nat.beq pc 20) 1 (cond (Nat.beq pc 159) 1 0)) 0)) (cond (Nat.ble m 279) (cond (Nat.beq m 279) (cond (Nat.beq pc 66) 4 (cond (Nat.beq pc 84) 4 0)) 0) (cond (Nat.beq m 285) (cond (Nat.beq pc 15) 2 0) 0))))
def ty_same (An : Nat → Option sy_Ce) (R : sy_T) (F : List sy_Fa) (sg : sy_Sg) (ix e : sy_L) : Bool := F.any (fun f => decide (f.2.2 = .inl e) && (sy_eq R f.2.1 ix && (match An (f.1) with
  | some (.inl z) => decide (z.2 = sg)
  | _ => false)))
def ty_p5 (An : Nat → Option sy_Ce) (Wr : sy_Wr) (M : px_M) (i : Instr) (S : sy_S) : Option (List sy_S) := match i, S.2.1.2.2.2 with
  | .iaload, .inl ix :: .inr (.inl a) :: r => if 64 ≤ a then (match An (a - 64) with
    | some (.inl (n, _)) => if sy_inx S.1.1 n ix = true ∨ S.1.2.2.2.any (fun f => f.1 == a - 64 && sy_eq S.1.1 f.2.1 ix) = true then none else sy_rn S [] ix (.inr (.inl a) :: r) (0, (n : Int) - 1)
    | _ => none) else none
  | .laload, .inl ix :: .inr (.inl a) :: r => if 64 ≤ a then (match An (a - 64) with
    | some (.inr (.inl n)) => if sy_inx S.1.1 n ix = true then none else sy_rn S [] ix (.inr (.inl a) :: r) (0, (n : Int) - 1)
    | _ => none) else none
  | .iastore, .inl e :: .inl ix :: .inr (.inl a) :: r => if 64 ≤ a then (match An (a - 64) with
    | some (.inl (n, sg)) => if sy_inx S.1.1 n ix = true then (if sy_wr S.1.1 sg ix (sy_vb S.1.1 e) = true ∨ ty_same An S.1.1 S.1.2.2.2 sg ix e = true ∨ sy_sm4 Wr S.1.1 S.1.2.2.2 sg ix e = true then none else (match sy_pr S.1.1 ix with
        | some z => if z.2.2 ≤ 3000 then sy_rn S [] e (.inl ix :: .inr (.inl a) :: r) (sy_cm sg z.1 z.2.1 z.2.2) else none
        | none => none)) else sy_rn S [.inl e] ix (.inr (.inl a) :: r) (0, (n : Int) - 1)
    | _ => none) else none
  | .putfield idx, .inl e :: .inr (.inl a) :: r => if 64 ≤ a then (match An (a - 64), px_look M.2.2.1 idx with
    | some (.inr (.inr (_, sl))), some (_, s0) => (match sl[s0]? with
      | some (.inl rg) => if rg.1 ≤ (sy_vb S.1.1 e).1 ∧ (sy_vb S.1.1 e).2 ≤ rg.2 then none else sy_rn S [] e (.inr (.inl a) :: r) rg
      | _ => none)
    | _, _ => none) else none
  | .idiv, .inl b :: r => (match sy_b S.1.1 b with
    | some p => if p.1 ≤ 0 ∧ 0 ≤ p.2 then px_or (sy_rn S [] b r (1, p.2)) (sy_rn S [] b r (p.1, -1)) else none
    | none => none)
  | _, _ => none
def ty_uR (An : Nat → Option sy_Ce) (M : px_M) (i : Instr) (len : Nat) (S : sy_S) : Option (List sy_S) := match i, S.2.1.2.2.2 with
  | .iaload, .inl ix :: .inr (.inl a) :: r => if len = 1 ∧ 64 ≤ a ∧ sy_wS S = true then (match An (a - 64) with
    | some (.inl (n, sg)) => if n ≤ 2147483647 then (match S.1.2.2.2.find? (fun f => f.1 == a - 64 && sy_eq2 (sy_spr S.2.1.1 (a - 64)) S.1.1 S.1.2.2.1 f.2.1 ix) with
      | some (k, fx, .inl e) => some [sy_at (sy_addF S (k, sy_nm S.1.1 ix, .inl e)) (sy_addF S (k, sy_nm S.1.1 ix, .inl e)).1 (S.2.1.2.1 + 1) S.2.1.2.2.1 (.inl e :: r)]
      | _ => (match sy_b S.1.1 ix, sy_rd S.1.1 sg ix with
        | some b, some rg => if 0 ≤ b.1 ∧ b.2 < (n : Int) ∧ sy_wl S.1.1.length (sy_nm S.1.1 ix) = true then some [sy_at S (S.1.1 ++ [rg], S.1.2.1, S.1.2.2.1, (a - 64, sy_nm S.1.1 ix, .inl (sy_x S.1.1.length)) :: S.1.2.2.2) (S.2.1.2.1 + 1) S.2.1.2.2.1 (.inl (sy_x S.1.1.length) :: r)] else none
        | _, _ => none)) else none
    | _ => none) else none
  | .getfield idx, .inr (.inl a) :: r => if len = 3 ∧ 64 ≤ a ∧ sy_wS S = true then (match An (a - 64), px_look M.2.2.1 idx with
    | some (.inr (.inr (ci, sl))), some (cj, s0) => if ci = cj then (match S.1.2.2.2.find? (fun f => decide (f.1 = a - 64) && decide (f.2.1 = sy_c s0)) with
      | some f => some [sy_at S S.1 (S.2.1.2.1 + 3) S.2.1.2.2.1 (f.2.2 :: r)]
      | none => (match sl[s0]? with
        | some (.inl rg) => some [sy_at S (S.1.1 ++ [rg], S.1.2.1, S.1.2.2.1, (a - 64, sy_c s0, .inl (sy_x S.1.1.length)) :: S.1.2.2.2) (S.2.1.2.1 + 3) S.2.1.2.2.1 (.inl (sy_x S.1.1.length) :: r)]
        | some (.inr b) => some [sy_at S S.1 (S.2.1.2.1 + 3) S.2.1.2.2.1 (.inr (.inl b) :: r)]
        | none => none)) else none
    | _, _ => none) else none
  | _, _ => none
def ty_uW (cl : List vw_C) (An : Nat → Option sy_Ce) (Wr : sy_Wr) (M : px_M) (i : Instr) (len : Nat) (S : sy_S) : Option (List sy_S) := match i, S.2.1.2.2.2 with
  | .iastore, .inl e :: .inl ix :: .inr (.inl a) :: r => if len = 1 ∧ 64 ≤ a then (match An (a - 64), sy_b S.1.1 ix with
    | some (.inl (n, sg)), some b => if n ≤ 2147483647 ∧ 0 ≤ b.1 ∧ b.2 < (n : Int) ∧ (sy_wr S.1.1 sg ix (sy_vb S.1.1 e) || (ty_same An S.1.1 S.1.2.2.2 sg ix e || sy_sm4 Wr S.1.1 S.1.2.2.2 sg ix e)) = true ∧ sy_mayI Wr (a - 64) b = true ∧ sy_jw Wr (a - 64) b.1 b.2 = true then some [sy_at S (S.1.1, S.1.2.1, S.1.2.2.1, (a - 64, sy_nm S.1.1 ix, .inl e) :: sy_drop S.1.1 S.1.2.2.1 (a - 64) ix S.1.2.2.2) (S.2.1.2.1 + 1) S.2.1.2.2.1 r] else none
    | _, _ => none) else none
  | .putfield idx, .inl e :: .inr (.inl a) :: r => if len = 3 ∧ 64 ≤ a then (match An (a - 64), px_look M.2.2.1 idx with
    | some (.inr (.inr (ci, sl))), some (cj, s0) => if ci = cj then (match cl[ci]?, sl[s0]? with
      | some k, some (.inl rg) => if sy_ft (px_ty k.2.1 s0) (sy_vb S.1.1 e) = true ∧ (k.2.1 s0).2.2.2 = false ∧ rg.1 ≤ (sy_vb S.1.1 e).1 ∧ (sy_vb S.1.1 e).2 ≤ rg.2 ∧ sy_may Wr (a - 64) s0 = true ∧ sy_jw Wr (a - 64) s0 s0 = true then some [sy_at S (S.1.1, S.1.2.1, S.1.2.2.1, (a - 64, sy_c s0, .inl e) :: sy_drop S.1.1 S.1.2.2.1 (a - 64) (sy_c s0) S.1.2.2.2) (S.2.1.2.1 + 3) S.2.1.2.2.1 r] else none
      | _, _ => none) else none
    | _, _ => none) else none
  | _, _ => none
def ty_clb (A : List sy_Ce) (n : Nat) : Bool := A.all (fun a => match a with
  | .inr (.inr o) => decide (o.1 < n)
  | _ => true)
theorem ty_clb_ok {A : List sy_Ce} {n : Nat} (h : ty_clb A n = true) : ∀ (k : Nat) (o : Nat × List ((Int × Int) ⊕ Nat)), A[k]? = some (.inr (.inr o)) → o.1 < n := fun k o hk => of_decide_eq_true (List.all_eq_true.mp h _ (List.mem_of_getElem? hk))
theorem px_c0 {α : Type} {a b : α} : cond false a b = b := rfl
theorem px_c1 {α : Type} {a b : α} : cond true a b = a := rfl
theorem px_cond {α : Type} {b : Bool} {a c : Option α} {z : α} (h : cond b a c = some z) : a = some z ∨ c = some z := by
  cases b with
  | false => exact Or.inr h
  | true => exact Or.inl h
section TY
variable {x : sy_X} {q : sy_Q} {S : sy_S} {M : px_M} {i : Instr} {len : Nat} {l : List sy_S}
theorem ty_p5_eq {A : List sy_Ce} {Wr : sy_Wr} : ty_p5 (fun k => A[k]?) Wr M i S = sy_p5 A Wr M i S := rfl
theorem ty_uR_eq {A : List sy_Ce} : ty_uR (fun k => A[k]?) M i len S = sy_uR A M i len S := rfl
theorem ty_uW_eq {cl : List vw_C} {A : List sy_Ce} {Wr : sy_Wr} : ty_uW cl (fun k => A[k]?) Wr M i len S = sy_uW cl A Wr M i len S := rfl
/-- reads of what is known, and of references: nothing is new -/
def ty_kr (An : Nat → Option sy_Ce) (M : px_M) (i : Instr) (len : Nat) (S : sy_S) : Option (List sy_S) := match i, S.2.1.2.2.2 with
  | .iaload, .inl ix :: .inr (.inl a) :: r => if len = 1 ∧ 64 ≤ a then (match An (a - 64) with
    | some (.inl (n, _)) => if n ≤ 2147483647 then (match qx_find S.1.2.2.2 (fun f => cond (Nat.beq f.1 (Nat.sub a 64)) (sy_eq2 (sy_spr S.2.1.1 (Nat.sub a 64)) S.1.1 S.1.2.2.1 f.2.1 ix) false) with
      | some (k, _, .inl e) => some [sy_at (sy_addF S (k, sy_nm S.1.1 ix, .inl e)) (sy_addF S (k, sy_nm S.1.1 ix, .inl e)).1 (S.2.1.2.1 + 1) S.2.1.2.2.1 (.inl e :: r)]
      | _ => none) else none
    | _ => none) else none
  | .getfield idx, .inr (.inl a) :: r => if len = 3 ∧ 64 ≤ a then (match An (a - 64), px_look M.2.2.1 idx with
    | some (.inr (.inr (ci, sl))), some (cj, s0) => if ci = cj then (match sl[s0]? with
      | some (.inr b) => some [sy_at S S.1 (S.2.1.2.1 + 3) S.2.1.2.2.1 (.inr (.inl b) :: r)]
      | _ => (match qx_find S.1.2.2.2 (fun f => cond (Nat.beq f.1 (Nat.sub a 64)) (qy_leq f.2.1 (sy_c s0)) false) with
        | some f => some [sy_at S S.1 (S.2.1.2.1 + 3) S.2.1.2.2.1 (f.2.2 :: r)]
        | none => none)) else none
    | _, _ => none) else none
  | _, _ => none
theorem ty_kr_ok (hM : q.1[S.2.1.1]? = some M) (hq : px_look M.2.1 S.2.1.2.1 = some (i, len)) (h : ty_kr (fun k => q.2.1[k]?) M i len S = some l) : sy_S1 x q S l := by
  intro hG
  unfold ty_kr at h
  split at h
  · rename_i ix a r hst
    split at h
    · rename_i hc
      obtain ⟨h1, ha⟩ := hc
      subst h1
      split at h
      · rename_i n sg hA
        split at h
        · rename_i hn
          split at h
          · rename_i k fx e hfind
            cases h
            rw [qx_find_e] at hfind
            have hm := List.mem_of_find?_eq_some hfind
            have hp0 := List.find?_some hfind
            have hp := qx_and hp0
            have hk : k = a - 64 := Nat.eq_of_beq_eq_true hp.1
            refine sy_goAddF hm hp.2 ?_
            have hG0 := hG _ List.mem_cons_self
            refine sy_goIaldK (S := sy_addF S (k, sy_nm S.1.1 ix, .inl e)) hM hq hst ha hA hn ?_ hG0
            rw [← hk]
            exact List.mem_cons_self
          · cases h
        · cases h
      · cases h
    · cases h
  · rename_i idx a r hst
    split at h
    · rename_i hc
      obtain ⟨h1, ha⟩ := hc
      subst h1
      split at h
      · rename_i ci sl cj s0 hA hL
        split at h
        · rename_i hcc
          subst hcc
          split at h
          · rename_i b hr
            cases h
            exact sy_goGetK hM hq hst ha hA hL (.inr ⟨b, rfl, hr⟩) (hG _ List.mem_cons_self)
          · split at h
            · rename_i f hfind
              cases h
              rw [qx_find_e] at hfind
              have hm := List.mem_of_find?_eq_some hfind
              have hp0 := List.find?_some hfind
              have hp := qx_and hp0
              refine sy_goGetK hM hq hst ha hA hL (.inl ?_) (hG _ List.mem_cons_self)
              have hp1 : f.1 = a - 64 := Nat.eq_of_beq_eq_true hp.1
              rw [← hp1, ← qy_leq_e hp.2]
              exact hm
            · cases h
        · cases h
      · cases h
    · cases h
  · cases h
/-- reads of what is not known -/
def ty_nR (An : Nat → Option sy_Ce) (M : px_M) (i : Instr) (len : Nat) (S : sy_S) : Option (List sy_S) := match i, S.2.1.2.2.2 with
  | .iaload, .inl ix :: .inr (.inl a) :: r => cond (Nat.beq len 1) (cond (Nat.ble 64 a) (cond (sy_wS S) (match An (Nat.sub a 64) with
    | some (.inl (n, sg)) => cond (Nat.ble n 2147483647) (match sy_b S.1.1 ix, sy_rd S.1.1 sg ix with
        | some b, some rg => cond (qi_le 0 b.1) (cond (qi_le (qi_add b.2 1) (Int.ofNat n)) (cond (qy_wl (qx_len S.1.1) (sy_nm S.1.1 ix)) (some [sy_at S (S.1.1 ++ [rg], S.1.2.1, S.1.2.2.1, (a - 64, sy_nm S.1.1 ix, .inl (sy_x S.1.1.length)) :: S.1.2.2.2) (S.2.1.2.1 + 1) S.2.1.2.2.1 (.inl (sy_x S.1.1.length) :: r)]) none) none) none
        | _, _ => none) none
    | _ => none) none) none) none
  | .getfield idx, .inr (.inl a) :: r => cond (Nat.beq len 3) (cond (Nat.ble 64 a) (cond (sy_wS S) (match An (Nat.sub a 64), px_look M.2.2.1 idx with
    | some (.inr (.inr (ci, sl))), some (cj, s0) => cond (Nat.beq ci cj) (match qx_nth sl s0 with
        | some (.inl rg) => some [sy_at S (S.1.1 ++ [rg], S.1.2.1, S.1.2.2.1, (a - 64, sy_c s0, .inl (sy_x S.1.1.length)) :: S.1.2.2.2) (S.2.1.2.1 + 3) S.2.1.2.2.1 (.inl (sy_x S.1.1.length) :: r)]
        | _ => none) none
    | _, _ => none) none) none) none
  | _, _ => none
theorem qx_cs {α : Type} {b : Bool} {c : Option α} {z : α} (h : cond b c none = some z) : b = true ∧ c = some z := by
  cases b with
  | true => exact ⟨rfl, h⟩
  | false => cases h
theorem ty_nR_ok (hM : q.1[S.2.1.1]? = some M) (hq : px_look M.2.1 S.2.1.2.1 = some (i, len)) (h : ty_nR (fun k => q.2.1[k]?) M i len S = some l) : sy_S1 x q S l := by
  intro hG
  unfold ty_nR at h
  split at h
  · rename_i ix a r hst
    have k1 := qx_cs h
    have k2 := qx_cs k1.2
    have k3 := qx_cs k2.2
    have k4 := k3.2
    have h1' := Nat.eq_of_beq_eq_true k1.1
    subst h1'
    split at k4
    · rename_i n sg hA
      have k5 := qx_cs k4
      have k6 := k5.2
      split at k6
      · rename_i b rg hb hr
        have c1 := qx_cs k6
        have c2 := qx_cs c1.2
        have c3 := qx_cs c2.2
        have c4 := Option.some.inj c3.2
        have c2' : qi_add b.2 1 ≤ (n : Int) := qi_le_e.mp c2.1
        rw [qi_add_e] at c2'
        have c5 := c3.1
        rw [qy_wl_e, qx_len_e] at c5
        exact sy_goIald k3.1 hM hq hst (Nat.le_of_ble_eq_true k2.1) hA (Nat.le_of_ble_eq_true k5.1) hb (qi_le_e.mp c1.1) (by omega) hr (hG _ (by rw [← c4]; exact List.mem_cons_self)) c5
      · cases k6
    · cases k4
  · rename_i idx a r hst
    have k1 := qx_cs h
    have k2 := qx_cs k1.2
    have k3 := qx_cs k2.2
    have k4 := k3.2
    have h1' := Nat.eq_of_beq_eq_true k1.1
    subst h1'
    split at k4
    · rename_i ci sl cj s0 hA hL
      have k5 := qx_cs k4
      have k6 := k5.2
      have hcc' := Nat.eq_of_beq_eq_true k5.1
      subst hcc'
      split at k6
      · rename_i rg hr
        have c4 := Option.some.inj k6
        rw [qx_nth_ok] at hr
        exact sy_goGetI k3.1 hM hq hst (Nat.le_of_ble_eq_true k2.1) hA hL hr (hG _ (by rw [← c4]; exact List.mem_cons_self))
      · cases k6
    · cases k4
  · cases h
/-- the called method, by its number -/
def ty_cl (An : Nat → Option sy_Ce) (H : Nat → Option (px_M × Nat)) (i : Instr) (len : Nat) (L : px_L) (st : List sy_A) : Option (Nat × List sy_A × List sy_A) := match i with
  | .invokestatic k => (px_look L.2.1 k).bind (fun c => (H c.2).bind (fun M => if len = 3 ∧ (c.1 = 1 ∨ c.1 = 4) ∧ M.1.1.2.2.2.2 ≤ st.length ∧ ((st.drop M.1.1.2.2.2.2).map sy_cat).sum ≤ 8 then some (c.2, (st.take M.1.1.2.2.2.2).reverse, st.drop M.1.1.2.2.2.2) else none))
  | .invokevirtual k => (px_look L.2.1 k).bind (fun c => (H c.2).bind (fun M => match st.drop M.1.1.2.2.2.2 with
    | .inr (.inl b) :: r => if len = 3 ∧ c.1 = 0 ∧ M.1.1.2.2.2.2 ≤ st.length ∧ (r.map sy_cat).sum ≤ 8 ∧ 64 ≤ b then (match An (b - 64) with
      | some (.inr (.inr o)) => cond (Nat.beq (o.1 + 1) M.2) (some (c.2, .inr (.inl b) :: (st.take M.1.1.2.2.2.2).reverse, r)) none
      | _ => none) else none
    | _ => none))
  | _ => none
theorem ty_cl_ok {cl : List vw_C} {A : List sy_Ce} {P : List px_M} {H : Nat → Option (px_M × Nat)} {L : px_L} {st : List sy_A} {z : Nat × List sy_A × List sy_A} (hH : px_Hok cl P H) (hcl : ∀ (k : Nat) (o : Nat × List ((Int × Int) ⊕ Nat)), A[k]? = some (.inr (.inr o)) → o.1 < cl.length) (h : ty_cl (fun k => A[k]?) H i len L st = some z) : sy_cl cl A P i len L st = some z := by
  unfold ty_cl at h
  unfold sy_cl
  split at h
  · obtain ⟨c, hc, h1⟩ := Option.bind_eq_some_iff.mp h
    obtain ⟨M, hM, h2⟩ := Option.bind_eq_some_iff.mp h1
    obtain ⟨h3, -⟩ := hH _ _ hM
    refine Option.bind_eq_some_iff.mpr ⟨c, hc, Option.bind_eq_some_iff.mpr ⟨M.1, h3, h2⟩⟩
  · obtain ⟨c, hc, h1⟩ := Option.bind_eq_some_iff.mp h
    obtain ⟨M, hM, h2⟩ := Option.bind_eq_some_iff.mp h1
    obtain ⟨h3, h4⟩ := hH _ _ hM
    refine Option.bind_eq_some_iff.mpr ⟨c, hc, Option.bind_eq_some_iff.mpr ⟨M.1, h3, ?_⟩⟩
    try dsimp only at h2
    try dsimp only
    split at h2
    · rename_i b r hst
      rw [hst]
      try dsimp only
      split at h2
      · rename_i hh
        rw [if_pos ⟨hh.1, hh.2.1, hh.2.2.1, hh.2.2.2.1⟩, if_pos hh.2.2.2.2]
        try dsimp only at h2
        split at h2
        · rename_i o ho
          rw [ho]
          try dsimp only
          cases hb : Nat.beq (o.1 + 1) M.2 with
          | false =>
            rw [hb] at h2
            have h5 : (none : Option (Nat × List sy_A × List sy_A)) = some z := h2
            cases h5
          | true =>
            rw [hb] at h2
            have h6 := Nat.eq_of_beq_eq_true hb
            have h7 := hcl _ _ ho
            have h8 : cl[o.1]? = some cl[o.1] := List.getElem?_eq_getElem h7
            have h9 := h4 cl[o.1] (by omega) (by rw [← h6, Nat.add_sub_cancel]; exact h8)
            rw [h8]
            try dsimp only
            rw [if_pos h9]
            exact h2
        · cases h2
      · cases h2
    · cases h2
  · cases h
def ty_tryC (H : Nat → Option (px_M × Nat)) (Wr : sy_Wr) (D : Nat) (S : sy_S) (z : Nat × List sy_A × List sy_A) (σ : List sy_L) (σL : List Nat) (C : sy_Co) : Option (List sy_S) := match H z.1 with
  | some M' => if z.1 = C.1 ∧ sy_len z.2.1 ≤ M'.1.1.2.2.1 ∧ S.2.2.length + 1 + C.2.2.2.2.1 ≤ D ∧ sy_eqs S.1.1 σ σL z.2.1 C.2.2.1 = true ∧ sy_fitG S.1 σ σL C.2.1 = true ∧ sy_wS S = true ∧ σ.length = C.2.1.1.length ∧ σ.all (sy_wl S.1.1.length) = true ∧ sy_wsub C.2.2.2.1 Wr = true ∧ sy_jc C.2.2.2.1 Wr = true ∧ z.2.2.all (sy_wa S.1.1.length S.1.2.1) = true ∧ C.2.2.2.2.2.all (fun p => decide (C.2.1.1.length ≤ p.1.1.length)) = true then sy_mapO (sy_aft S C σ z.2.2) C.2.2.2.2.2 else none
  | none => none
theorem ty_tryC_ok {P : List px_M} {cl : List vw_C} {H : Nat → Option (px_M × Nat)} {Wr : sy_Wr} {D : Nat} {z : Nat × List sy_A × List sy_A} {σ : List sy_L} {σL : List Nat} {C : sy_Co} (hH : px_Hok cl P H) (h : ty_tryC H Wr D S z σ σL C = some l) : sy_tryC P Wr D S z σ σL C = some l := by
  unfold ty_tryC at h
  unfold sy_tryC
  split at h
  · rename_i M' hM'
    rw [(hH _ _ hM').1]
    exact h
  · cases h
def ty_uM (H : Nat → Option (px_M × Nat)) (Wr : sy_Wr) (D : Nat) (S : sy_S) (z : Nat × List sy_A × List sy_A) : List sy_Co → Option (List sy_S)
  | [] => none
  | C :: r => px_or (cond (Nat.beq z.1 C.1) (
      let u := C.2.1.2.2.2.foldl (sy_unF S.1.1 S.1.2.2.2) (sy_unP ([], []) C.2.2.1 z.2.1)
      ty_tryC H Wr D S z (sy_fσ C.2.1.1 u) (sy_fσL C.2.1.2.1 u) C) none) (ty_uM H Wr D S z r)
theorem ty_uM_ok {H : Nat → Option (px_M × Nat)} {D : Nat} {z : Nat × List sy_A × List sy_A} (hH : px_Hok x.1 x.2.2.1 H) (hD : D ≤ x.2.2.2.2.2.2) (hM : q.1[S.2.1.1]? = some M) (hq : px_look M.2.1 S.2.1.2.1 = some (i, len)) (hz : sy_cl x.1 q.2.1 x.2.2.1 i len M.2.2 S.2.1.2.2.2 = some z) : ∀ Cs : List sy_Co, (∀ C ∈ Cs, sy_Met x.1 x.2.1 x.2.2.1 q.2.1 x.2.2.2.2.1 C) → ty_uM H q.2.2.1 D S z Cs = some l → sy_S1 x q S l
  | [], _, h => by cases h
  | C :: r, hC, h => by
    unfold ty_uM at h
    rcases px_or_some h with h | h
    · rcases px_cond h with h | h
      · exact sy_tryC_ok (hC C List.mem_cons_self) hD hM hq hz (ty_tryC_ok hH h)
      · cases h
    · exact ty_uM_ok hH hD hM hq hz r (fun C' h' => hC C' (List.mem_cons_of_mem _ h')) h
/-- calls: by contract, or in place -/
def ty_ca (An : Nat → Option sy_Ce) (H : Nat → Option (px_M × Nat)) (Wr : sy_Wr) (Cs : List sy_Co) (D : Nat) (M : px_M) (i : Instr) (len : Nat) (S : sy_S) : Option (List sy_S) := match ty_cl An H i len M.2.2 S.2.1.2.2.2 with
  | some z => cond (Cs.any (fun C => Nat.beq C.1 z.1)) (ty_uM H Wr D S z Cs) (match H z.1 with
    | some M' => if sy_len z.2.1 ≤ M'.1.1.2.2.1 ∧ S.2.2.length + 1 ≤ D then some [(S.1, (z.1, 0, sy_args 0 z.2.1, []), (S.2.1.1, S.2.1.2.1 + 3, S.2.1.2.2.1, z.2.2) :: S.2.2)] else none
    | none => none)
  | none => none
theorem ty_ca_ok {H : Nat → Option (px_M × Nat)} {D : Nat} {Cs : List sy_Co} (hH : px_Hok x.1 x.2.2.1 H) (hcl : ∀ (k : Nat) (o : Nat × List ((Int × Int) ⊕ Nat)), q.2.1[k]? = some (.inr (.inr o)) → o.1 < x.1.length) (hCs : ∀ C ∈ Cs, sy_Met x.1 x.2.1 x.2.2.1 q.2.1 x.2.2.2.2.1 C) (hD : D ≤ x.2.2.2.2.2.2) (hP : ∀ (j : Nat) (M : px_M), x.2.2.1[j]? = some M → q.1[j]? = some M) (hM : q.1[S.2.1.1]? = some M) (hq : px_look M.2.1 S.2.1.2.1 = some (i, len)) (h : ty_ca (fun k => q.2.1[k]?) H q.2.2.1 Cs D M i len S = some l) : sy_S1 x q S l := by
  unfold ty_ca at h
  split at h
  · rename_i z hz
    have hz' := ty_cl_ok hH hcl hz
    rcases px_cond h with h | h
    · exact ty_uM_ok hH hD hM hq hz' Cs hCs h
    · split at h
      · rename_i M' hM'
        split at h
        · rename_i hc
          cases h
          intro hG
          have h1 := (hH _ _ hM').1
          exact sy_goCall hM hq hz' h1 (hP _ _ h1) hc.1 (by omega) (hG _ List.mem_cons_self)
        · cases h
      · cases h
  · cases h
/-! BY INSTRUCTION: what an instruction does is looked up once, and kept by the kernel -/
abbrev uy_F : Type := (Nat → Option sy_Ce) → sy_Wr → px_M → Nat → sy_S → Option (List sy_S)
def uy_ld (k e len : Nat) (S : sy_S) : Option (List sy_S) := Option.rec (motive := fun _ => Option (List sy_S)) none (fun a => cond (Nat.beq (Nat.add (Nat.mul len 4) (sy_so a)) e) (some [sy_at S S.1 (Nat.add S.2.1.2.1 len) S.2.1.2.2.1 (a :: S.2.1.2.2.2)]) none) (px_look S.2.1.2.2.1 k)
theorem sy_so_lt (a : sy_A) : sy_so a < 3 := by
  match a with
  | .inl _ => exact (by decide : 0 < 3)
  | .inr (.inr _) => exact (by decide : 1 < 3)
  | .inr (.inl _) => exact (by decide : 2 < 3)
theorem uy_ld_ok {k L s : Nat} (hs : s < 3) (h2 : px_so1 i = 2) (hl : px_ld i = some (k, L, s)) (h : uy_ld k (L * 4 + s) len S = some l) : sy_u1 M i len S = some l := by
  unfold uy_ld at h
  cases ha : px_look S.2.1.2.2.1 k with
  | none =>
    rw [ha] at h
    cases h
  | some a =>
    rw [ha] at h
    obtain ⟨h3, h4⟩ := qx_cs h
    have h5 : len * 4 + sy_so a = L * 4 + s := Nat.eq_of_beq_eq_true h3
    have h6 := sy_so_lt a
    have e1 : len = L := by omega
    have e2 : sy_so a = s := by omega
    unfold sy_u1 sy_1
    rw [if_pos h2, hl]
    show (((px_look S.2.1.2.2.1 k).bind (fun a => if len = L ∧ sy_so a = s then some (S.2.1.2.1 + len, S.2.1.2.2.1, a :: S.2.1.2.2.2) else none)).map (fun z => [sy_at S S.1 z.1 z.2.1 z.2.2])) = some l
    rw [ha]
    show ((if len = L ∧ sy_so a = s then some (S.2.1.2.1 + len, S.2.1.2.2.1, a :: S.2.1.2.2.2) else none).map (fun z => [sy_at S S.1 z.1 z.2.1 z.2.2])) = some l
    rw [if_pos ⟨e1, e2⟩]
    exact h4
def uy_st (k e : Nat) (M : px_M) (len : Nat) (S : sy_S) : Option (List sy_S) := match S.2.1.2.2.2 with
  | a :: r => cond (Nat.beq (Nat.add (Nat.mul len 4) (sy_so a)) e) (cond (Nat.ble (Nat.succ k) M.1.2.2.1) (some [sy_at S S.1 (Nat.add S.2.1.2.1 len) (sy_sto S.2.1.2.2.1 k a) r]) none) none
  | [] => none
theorem uy_st_ok {k L s : Nat} (hs : s < 3) (h5 : px_so1 i = 5) (hl : px_st i = some (k, L, s)) (h : uy_st k (L * 4 + s) M len S = some l) : sy_u1 M i len S = some l := by
  unfold uy_st at h
  split at h
  · rename_i a r hst
    obtain ⟨h3, h4⟩ := qx_cs h
    obtain ⟨h6, h7⟩ := qx_cs h4
    have h8 : len * 4 + sy_so a = L * 4 + s := Nat.eq_of_beq_eq_true h3
    have h9 : k < M.1.2.2.1 := Nat.le_of_ble_eq_true h6
    have h10 := sy_so_lt a
    have e1 : len = L := by omega
    have e2 : sy_so a = s := by omega
    unfold sy_u1 sy_1
    rw [if_neg (by rw [h5]; decide), if_pos h5, hl, hst]
    show ((if len = L ∧ sy_so a = s ∧ k < M.1.2.2.1 then some (S.2.1.2.1 + len, sy_sto S.2.1.2.2.1 k a, r) else none).map (fun z => [sy_at S S.1 z.1 z.2.1 z.2.2])) = some l
    rw [if_pos ⟨e1, e2, h9⟩]
    exact h7
  · cases h
def uy_cn (L : Nat) (v : Int) (len : Nat) (S : sy_S) : Option (List sy_S) := cond (Nat.beq len L) (some [sy_at S S.1 (Nat.add S.2.1.2.1 L) S.2.1.2.2.1 (.inl (sy_c v) :: S.2.1.2.2.2)]) none
def qy_tgt (pc : Nat) (off : Int) : Option Nat := Int.rec (motive := fun _ => Option Nat) (fun m => some (Nat.add pc m)) (fun m => cond (Nat.ble (Nat.succ m) pc) (some (Nat.sub pc (Nat.succ m))) none) off
theorem qy_tgt_e (pc : Nat) (off : Int) : qy_tgt pc off = px_tgt pc off := by
  unfold px_tgt
  match off with
  | .ofNat m =>
    have e : ((pc : Int) + Int.ofNat m) = ((pc + m : Nat) : Int) := rfl
    rw [if_pos (by rw [e]; omega), e, Int.toNat_natCast]
    rfl
  | .negSucc m =>
    show cond (Nat.ble (m + 1) pc) (some (pc - (m + 1))) none = _
    cases h : Nat.ble (m + 1) pc with
    | true =>
      have h1 := Nat.le_of_ble_eq_true h
      rw [Int.negSucc_eq, if_pos (by omega)]
      show some (pc - (m + 1)) = some _
      congr 1
      omega
    | false =>
      have h1 : ¬ m + 1 ≤ pc := fun hle => by
        rw [Nat.ble_eq_true_of_le hle] at h
        cases h
      rw [Int.negSucc_eq, if_neg (by omega)]
      rfl
def uy_go (off : Int) (len : Nat) (S : sy_S) : Option (List sy_S) := cond (Nat.beq len 3) (Option.rec (motive := fun _ => Option (List sy_S)) none (fun t => some [sy_at S S.1 t S.2.1.2.2.1 S.2.1.2.2.2]) (qy_tgt S.2.1.2.1 off)) none
def uy_inc (k : Nat) (n : Int) (M : px_M) (len : Nat) (S : sy_S) : Option (List sy_S) := match px_look S.2.1.2.2.1 k with
  | some (.inl e) => cond (Nat.beq len 3) (cond (Nat.ble (Nat.succ k) M.1.2.2.1) (some [sy_at S S.1 (Nat.add S.2.1.2.1 3) (sy_sto S.2.1.2.2.1 k (.inl (sy_add e (sy_c n)))) S.2.1.2.2.2]) none) none
  | _ => none
def uy_bin (c : Nat) (len : Nat) (S : sy_S) : Option (List sy_S) := match S.2.1.2.2.2 with
  | .inl y :: .inl x :: r => cond (Nat.beq len 1) (cond (Nat.beq c 0) (some [sy_at S S.1 (Nat.add S.2.1.2.1 1) S.2.1.2.2.1 (.inl (sy_add x y) :: r)]) (cond (Nat.beq c 1) (some [sy_at S S.1 (Nat.add S.2.1.2.1 1) S.2.1.2.2.1 (.inl (sy_sub x y) :: r)]) (match x.2 with
    | [] => some [sy_at S S.1 (Nat.add S.2.1.2.1 1) S.2.1.2.2.1 (.inl (sy_scl x.1 y) :: r)]
    | _ => (match y.2 with
      | [] => some [sy_at S S.1 (Nat.add S.2.1.2.1 1) S.2.1.2.2.1 (.inl (sy_scl y.1 x) :: r)]
      | _ => none)))) none
  | _ => none
def uy_if (k : Jvm.ClassFile.Cond) (off : Int) (len : Nat) (S : sy_S) : Option (List sy_S) := match S.2.1.2.2.2 with
  | .inl e :: r => cond (Nat.beq len 3) (Option.rec (motive := fun _ => Option (List sy_S)) none (fun t => some (sy_opt S (sy_two S.1 k e (sy_c 0)).1 t r ++ sy_opt S (sy_two S.1 k e (sy_c 0)).2 (S.2.1.2.1 + 3) r)) (qy_tgt S.2.1.2.1 off)) none
  | _ => none
def uy_ic (k : Jvm.ClassFile.Cond) (off : Int) (len : Nat) (S : sy_S) : Option (List sy_S) := match S.2.1.2.2.2 with
  | .inl b :: .inl a :: r => cond (Nat.beq len 3) (Option.rec (motive := fun _ => Option (List sy_S)) none (fun t => some (sy_opt S (sy_two S.1 k a b).1 t r ++ sy_opt S (sy_two S.1 k a b).2 (S.2.1.2.1 + 3) r)) (qy_tgt S.2.1.2.1 off)) none
  | _ => none
def qy_inx (R : sy_T) (n : Nat) (ix : sy_L) : Bool := match sy_b R ix with
  | some b => cond (qi_le 0 b.1) (qi_le (qi_add b.2 1) (Int.ofNat n)) false
  | none => false
/-- a read of ints: known, or new -/
def uy_krA (An : Nat → Option sy_Ce) (len : Nat) (S : sy_S) (ix : sy_L) (a : Nat) (r : List sy_A) : Option (List sy_S) := if len = 1 ∧ 64 ≤ a then (match An (a - 64) with
    | some (.inl (n, _)) => if n ≤ 2147483647 then (match qx_find S.1.2.2.2 (fun f => cond (Nat.beq f.1 (Nat.sub a 64)) (sy_eq2 (sy_spr S.2.1.1 (Nat.sub a 64)) S.1.1 S.1.2.2.1 f.2.1 ix) false) with
      | some (k, _, .inl e) => some [sy_at (sy_addF S (k, sy_nm S.1.1 ix, .inl e)) (sy_addF S (k, sy_nm S.1.1 ix, .inl e)).1 (S.2.1.2.1 + 1) S.2.1.2.2.1 (.inl e :: r)]
      | _ => none) else none
    | _ => none) else none
theorem uy_krA_eq {An : Nat → Option sy_Ce} {ix : sy_L} {a : Nat} {r : List sy_A} (hst : S.2.1.2.2.2 = .inl ix :: .inr (.inl a) :: r) : uy_krA An len S ix a r = ty_kr An M .iaload len S := by
  unfold ty_kr uy_krA
  rw [hst]
def uy_nRA (An : Nat → Option sy_Ce) (len : Nat) (S : sy_S) (ix : sy_L) (a : Nat) (r : List sy_A) : Option (List sy_S) := cond (Nat.beq len 1) (cond (Nat.ble 64 a) (cond (sy_wS S) (match An (Nat.sub a 64) with
    | some (.inl (n, sg)) => cond (Nat.ble n 2147483647) (match sy_b S.1.1 ix, sy_rd S.1.1 sg ix with
        | some b, some rg => cond (qi_le 0 b.1) (cond (qi_le (qi_add b.2 1) (Int.ofNat n)) (cond (qy_wl (qx_len S.1.1) (sy_nm S.1.1 ix)) (some [sy_at S (S.1.1 ++ [rg], S.1.2.1, S.1.2.2.1, (a - 64, sy_nm S.1.1 ix, .inl (sy_x S.1.1.length)) :: S.1.2.2.2) (S.2.1.2.1 + 1) S.2.1.2.2.1 (.inl (sy_x S.1.1.length) :: r)]) none) none) none
        | _, _ => none) none
    | _ => none) none) none) none
theorem uy_nRA_eq {An : Nat → Option sy_Ce} {ix : sy_L} {a : Nat} {r : List sy_A} (hst : S.2.1.2.2.2 = .inl ix :: .inr (.inl a) :: r) : uy_nRA An len S ix a r = ty_nR An M .iaload len S := by
  unfold ty_nR uy_nRA
  rw [hst]
def uy_ia (An : Nat → Option sy_Ce) (Wr : sy_Wr) (M : px_M) (len : Nat) (S : sy_S) : Option (List sy_S) := match S.2.1.2.2.2 with
  | .inl ix :: .inr (.inl a) :: r => px_or (cond (sy_spr S.2.1.1 (Nat.sub a 64)) (sy_p4 .iaload S) none) (px_or (uy_krA An len S ix a r) (px_or (match An (Nat.sub a 64) with
    | some (.inl (n, _)) => cond (qy_inx S.1.1 n ix) none (ty_p5 An Wr M .iaload S)
    | _ => none) (uy_nRA An len S ix a r)))
  | _ => none
theorem uy_ia_ok (hM : q.1[S.2.1.1]? = some M) (hq : px_look M.2.1 S.2.1.2.1 = some (.iaload, len)) (h : uy_ia (fun k => q.2.1[k]?) q.2.2.1 M len S = some l) : sy_S1 x q S l := by
  unfold uy_ia at h
  split at h
  · rename_i ix a r hst
    rcases px_or_some h with h | h
    · exact sy_p4_ok (qx_cs h).2
    rcases px_or_some h with h | h
    · rw [uy_krA_eq (M := M) hst] at h
      exact ty_kr_ok hM hq h
    rcases px_or_some h with h | h
    · split at h
      · rcases px_cond h with h | h
        · cases h
        · exact sy_p5_ok (ty_p5_eq.symm.trans h)
      · cases h
    · rw [uy_nRA_eq (M := M) hst] at h
      exact ty_nR_ok hM hq h
  · cases h
def uy_krG (idx : Nat) (An : Nat → Option sy_Ce) (M : px_M) (len : Nat) (S : sy_S) (a : Nat) (r : List sy_A) : Option (List sy_S) := if len = 3 ∧ 64 ≤ a then (match An (a - 64), px_look M.2.2.1 idx with
    | some (.inr (.inr (ci, sl))), some (cj, s0) => if ci = cj then (match sl[s0]? with
      | some (.inr b) => some [sy_at S S.1 (S.2.1.2.1 + 3) S.2.1.2.2.1 (.inr (.inl b) :: r)]
      | _ => (match qx_find S.1.2.2.2 (fun f => cond (Nat.beq f.1 (Nat.sub a 64)) (qy_leq f.2.1 (sy_c s0)) false) with
        | some f => some [sy_at S S.1 (S.2.1.2.1 + 3) S.2.1.2.2.1 (f.2.2 :: r)]
        | none => none)) else none
    | _, _ => none) else none
theorem uy_krG_eq {idx : Nat} {An : Nat → Option sy_Ce} {a : Nat} {r : List sy_A} (hst : S.2.1.2.2.2 = .inr (.inl a) :: r) : uy_krG idx An M len S a r = ty_kr An M (.getfield idx) len S := by
  unfold ty_kr uy_krG
  rw [hst]
def uy_nRG (idx : Nat) (An : Nat → Option sy_Ce) (M : px_M) (len : Nat) (S : sy_S) (a : Nat) (r : List sy_A) : Option (List sy_S) := cond (Nat.beq len 3) (cond (Nat.ble 64 a) (cond (sy_wS S) (match An (Nat.sub a 64), px_look M.2.2.1 idx with
    | some (.inr (.inr (ci, sl))), some (cj, s0) => cond (Nat.beq ci cj) (match qx_nth sl s0 with
        | some (.inl rg) => some [sy_at S (S.1.1 ++ [rg], S.1.2.1, S.1.2.2.1, (a - 64, sy_c s0, .inl (sy_x S.1.1.length)) :: S.1.2.2.2) (S.2.1.2.1 + 3) S.2.1.2.2.1 (.inl (sy_x S.1.1.length) :: r)]
        | _ => none) none
    | _, _ => none) none) none) none
theorem uy_nRG_eq {idx : Nat} {An : Nat → Option sy_Ce} {a : Nat} {r : List sy_A} (hst : S.2.1.2.2.2 = .inr (.inl a) :: r) : uy_nRG idx An M len S a r = ty_nR An M (.getfield idx) len S := by
  unfold ty_nR uy_nRG
  rw [hst]
def uy_gf (idx : Nat) (An : Nat → Option sy_Ce) (M : px_M) (len : Nat) (S : sy_S) : Option (List sy_S) := match S.2.1.2.2.2 with
  | .inr (.inl a) :: r => px_or (uy_krG idx An M len S a r) (uy_nRG idx An M len S a r)
  | _ => none
theorem uy_gf_ok {idx : Nat} (hM : q.1[S.2.1.1]? = some M) (hq : px_look M.2.1 S.2.1.2.1 = some (.getfield idx, len)) (h : uy_gf idx (fun k => q.2.1[k]?) M len S = some l) : sy_S1 x q S l := by
  unfold uy_gf at h
  split at h
  · rename_i a r hst
    rcases px_or_some h with h | h
    · rw [uy_krG_eq hst] at h
      exact ty_kr_ok hM hq h
    · rw [uy_nRG_eq hst] at h
      exact ty_nR_ok hM hq h
  · cases h
/-- a write of an int, plainly within -/
def uy_ias (An : Nat → Option sy_Ce) (Wr : sy_Wr) (len : Nat) (S : sy_S) : Option (List sy_S) := match S.2.1.2.2.2 with
  | .inl e :: .inl ix :: .inr (.inl a) :: r => cond (cond (Nat.beq S.2.1.1 77) true (cond (Nat.beq len 1) (Nat.ble a 63) true)) none (match An (Nat.sub a 64), sy_b S.1.1 ix with
    | some (.inl (n, sg)), some b => cond (Nat.ble n 2147483647) (cond (qi_le 0 b.1) (cond (qi_le (qi_add b.2 1) (Int.ofNat n)) (cond (sy_wr S.1.1 sg ix (sy_vb S.1.1 e)) (cond (sy_mayI Wr (Nat.sub a 64) b) (cond (sy_jw Wr (Nat.sub a 64) b.1 b.2) (some [sy_at S (S.1.1, S.1.2.1, S.1.2.2.1, (a - 64, sy_nm S.1.1 ix, .inl e) :: sy_drop S.1.1 S.1.2.2.1 (a - 64) ix S.1.2.2.2) (S.2.1.2.1 + 1) S.2.1.2.2.1 r]) none) none) none) none) none) none
    | _, _ => none)
  | _ => none
theorem uy_ias_ok (hM : q.1[S.2.1.1]? = some M) (hq : px_look M.2.1 S.2.1.2.1 = some (.iastore, len)) (h : uy_ias (fun k => q.2.1[k]?) q.2.2.1 len S = some l) : sy_S1 x q S l := by
  intro hG
  unfold uy_ias at h
  split at h
  · rename_i e ix a r hst
    cases hg : cond (Nat.beq S.2.1.1 77) true (cond (Nat.beq len 1) (Nat.ble a 63) true) with
    | true =>
      rw [hg] at h
      cases h
    | false =>
      rw [hg] at h
      have hl : len = 1 ∧ 64 ≤ a := by
        cases g1 : Nat.beq S.2.1.1 77 with
        | true =>
          rw [g1] at hg
          cases hg
        | false =>
          rw [g1] at hg
          cases g2 : Nat.beq len 1 with
          | false =>
            rw [g2] at hg
            cases hg
          | true =>
            rw [g2] at hg
            have g3 : Nat.ble a 63 = false := hg
            refine ⟨Nat.eq_of_beq_eq_true g2, Nat.lt_of_not_le (fun hle => ?_)⟩
            rw [Nat.ble_eq_true_of_le hle] at g3
            cases g3
      obtain ⟨h1, ha⟩ := hl
      subst h1
      have k0 : (match (fun k => q.2.1[k]?) (Nat.sub a 64), sy_b S.1.1 ix with
        | some (.inl (n, sg)), some b => cond (Nat.ble n 2147483647) (cond (qi_le 0 b.1) (cond (qi_le (qi_add b.2 1) (Int.ofNat n)) (cond (sy_wr S.1.1 sg ix (sy_vb S.1.1 e)) (cond (sy_mayI q.2.2.1 (Nat.sub a 64) b) (cond (sy_jw q.2.2.1 (Nat.sub a 64) b.1 b.2) (some [sy_at S (S.1.1, S.1.2.1, S.1.2.2.1, (a - 64, sy_nm S.1.1 ix, .inl e) :: sy_drop S.1.1 S.1.2.2.1 (a - 64) ix S.1.2.2.2) (S.2.1.2.1 + 1) S.2.1.2.2.1 r]) none) none) none) none) none) none
        | _, _ => none) = some l := h
      split at k0
      · rename_i n sg b hA hb
        have c1 := qx_cs k0
        have c2 := qx_cs c1.2
        have c3 := qx_cs c2.2
        have c4 := qx_cs c3.2
        have c5 := qx_cs c4.2
        have c6 := qx_cs c5.2
        have c7 := Option.some.inj c6.2
        have c3' : qi_add b.2 1 ≤ (n : Int) := qi_le_e.mp c3.1
        rw [qi_add_e] at c3'
        exact sy_goIast hM hq hst ha hA (Nat.le_of_ble_eq_true c1.1) hb (qi_le_e.mp c2.1) (by omega) (fun ρ τ w hm => sy_wr_ok hm.2.1 c4.1 (sy_vb_ok hm.2.1 e)) c5.1 c6.1 (hG _ (by rw [← c7]; exact List.mem_cons_self))
      · cases k0
  · cases h
def uy_fn (i : Instr) : Option uy_F := match i with
  | .iload_n k => some (fun _ _ _ len S => uy_ld k 4 len S)
  | .iload k => some (fun _ _ _ len S => uy_ld k 8 len S)
  | .aload_n k => some (fun _ _ _ len S => uy_ld k 6 len S)
  | .aload k => some (fun _ _ _ len S => uy_ld k 10 len S)
  | .istore_n k => some (fun _ _ M len S => uy_st k 4 M len S)
  | .istore k => some (fun _ _ M len S => uy_st k 8 M len S)
  | .astore_n k => some (fun _ _ M len S => uy_st k 6 M len S)
  | .astore k => some (fun _ _ M len S => uy_st k 10 M len S)
  | .iconst n => some (fun _ _ _ len S => uy_cn 1 n len S)
  | .bipush n => some (fun _ _ _ len S => uy_cn 2 (Int8.ofInt n).toInt32.toInt len S)
  | .sipush n => some (fun _ _ _ len S => uy_cn 3 (Int16.ofInt n).toInt32.toInt len S)
  | .goto off => some (fun _ _ _ len S => uy_go off len S)
  | .iinc k n => some (fun _ _ M len S => uy_inc k n M len S)
  | .iadd => some (fun _ _ _ len S => uy_bin 0 len S)
  | .isub => some (fun _ _ _ len S => uy_bin 1 len S)
  | .imul => some (fun _ _ _ len S => uy_bin 2 len S)
  | .ifCond k off => some (fun _ _ _ len S => uy_if k off len S)
  | .if_icmp k off => some (fun _ _ _ len S => uy_ic k off len S)
  | .iaload => some (fun An Wr M len S => uy_ia An Wr M len S)
  | .getfield idx => some (fun An _ M len S => uy_gf idx An M len S)
  | .iastore => some (fun An Wr _ len S => uy_ias An Wr len S)
  | _ => none
theorem uy_cn_ok {L : Nat} {v : Int} (hx : sy_u1 M i L S = some [sy_at S S.1 (S.2.1.2.1 + L) S.2.1.2.2.1 (.inl (sy_c v) :: S.2.1.2.2.2)]) (h : uy_cn L v len S = some l) : sy_u1 M i len S = some l := by
  obtain ⟨h1, h2⟩ := qx_cs h
  have h3 := Nat.eq_of_beq_eq_true h1
  subst h3
  rw [hx]
  exact h2
theorem uy_fn_ok {f : uy_F} (hf : uy_fn i = some f) (hM : q.1[S.2.1.1]? = some M) (hq : px_look M.2.1 S.2.1.2.1 = some (i, len)) (h : f (fun k => q.2.1[k]?) q.2.2.1 M len S = some l) : sy_S1 x q S l := by
  unfold uy_fn at hf
  split at hf
  · cases hf; exact sy_u1_ok hM hq (uy_ld_ok (L := 1) (s := 0) (by decide) rfl rfl h)
  · cases hf; exact sy_u1_ok hM hq (uy_ld_ok (L := 2) (s := 0) (by decide) rfl rfl h)
  · cases hf; exact sy_u1_ok hM hq (uy_ld_ok (L := 1) (s := 2) (by decide) rfl rfl h)
  · cases hf; exact sy_u1_ok hM hq (uy_ld_ok (L := 2) (s := 2) (by decide) rfl rfl h)
  · cases hf; exact sy_u1_ok hM hq (uy_st_ok (L := 1) (s := 0) (by decide) rfl rfl h)
  · cases hf; exact sy_u1_ok hM hq (uy_st_ok (L := 2) (s := 0) (by decide) rfl rfl h)
  · cases hf; exact sy_u1_ok hM hq (uy_st_ok (L := 1) (s := 2) (by decide) rfl rfl h)
  · cases hf; exact sy_u1_ok hM hq (uy_st_ok (L := 2) (s := 2) (by decide) rfl rfl h)
  · cases hf; exact sy_u1_ok hM hq (uy_cn_ok rfl h)
  · cases hf; exact sy_u1_ok hM hq (uy_cn_ok rfl h)
  · cases hf; exact sy_u1_ok hM hq (uy_cn_ok rfl h)
  · rename_i off
    cases hf
    refine sy_u1_ok hM hq ?_
    have h0 : uy_go off len S = some l := h
    unfold uy_go at h0
    obtain ⟨h1, h2⟩ := qx_cs h0
    have h3 := Nat.eq_of_beq_eq_true h1
    subst h3
    rw [qy_tgt_e] at h2
    show (((if 3 = 3 then (px_tgt S.2.1.2.1 off).map (fun t => (t, S.2.1.2.2.2)) else none).map (fun z => (z.1, S.2.1.2.2.1, z.2))).map (fun z => [sy_at S S.1 z.1 z.2.1 z.2.2])) = some l
    rw [if_pos rfl]
    cases ht : px_tgt S.2.1.2.1 off with
    | none =>
      rw [ht] at h2
      cases h2
    | some t =>
      rw [ht] at h2
      exact h2
  · rename_i k n
    cases hf
    refine sy_u1_ok hM hq ?_
    have h0 : uy_inc k n M len S = some l := h
    unfold uy_inc at h0
    split at h0
    · rename_i e he
      obtain ⟨h1, h2⟩ := qx_cs h0
      obtain ⟨h3, h4⟩ := qx_cs h2
      have h5 := Nat.eq_of_beq_eq_true h1
      have h6 : k < M.1.2.2.1 := Nat.le_of_ble_eq_true h3
      subst h5
      show (((px_look S.2.1.2.2.1 k).bind (fun a => match a with
        | .inl e => if 3 = 3 ∧ k < M.1.2.2.1 then some (S.2.1.2.1 + 3, sy_sto S.2.1.2.2.1 k (.inl (sy_add e (sy_c n))), S.2.1.2.2.2) else none
        | _ => none)).map (fun z => [sy_at S S.1 z.1 z.2.1 z.2.2])) = some l
      rw [he]
      show ((if 3 = 3 ∧ k < M.1.2.2.1 then some (S.2.1.2.1 + 3, sy_sto S.2.1.2.2.1 k (.inl (sy_add e (sy_c n))), S.2.1.2.2.2) else none).map (fun z => [sy_at S S.1 z.1 z.2.1 z.2.2])) = some l
      rw [if_pos ⟨rfl, h6⟩]
      exact h4
    · cases h0
  · cases hf
    refine sy_u1_ok hM hq ?_
    have h0 : uy_bin 0 len S = some l := h
    unfold uy_bin at h0
    split at h0
    · rename_i y z r hst
      obtain ⟨h1, h2⟩ := qx_cs h0
      have h3 := Nat.eq_of_beq_eq_true h1
      subst h3
      unfold sy_u1
      rw [hst]
      exact h2
    · cases h0
  · cases hf
    refine sy_u1_ok hM hq ?_
    have h0 : uy_bin 1 len S = some l := h
    unfold uy_bin at h0
    split at h0
    · rename_i y z r hst
      obtain ⟨h1, h2⟩ := qx_cs h0
      have h3 := Nat.eq_of_beq_eq_true h1
      subst h3
      unfold sy_u1
      rw [hst]
      exact h2
    · cases h0
  · cases hf
    refine sy_u1_ok hM hq ?_
    have h0 : uy_bin 2 len S = some l := h
    unfold uy_bin at h0
    split at h0
    · rename_i y z r hst
      obtain ⟨h1, h2⟩ := qx_cs h0
      have h3 := Nat.eq_of_beq_eq_true h1
      subst h3
      have h4 : (match z.2 with
        | [] => some [sy_at S S.1 (Nat.add S.2.1.2.1 1) S.2.1.2.2.1 (.inl (sy_scl z.1 y) :: r)]
        | _ => (match y.2 with
          | [] => some [sy_at S S.1 (Nat.add S.2.1.2.1 1) S.2.1.2.2.1 (.inl (sy_scl y.1 z) :: r)]
          | _ => none)) = some l := h2
      unfold sy_u1
      rw [hst]
      show (((if 1 = 1 then (if z.2 = [] then some (S.2.1.2.1 + 1, .inl (sy_scl z.1 y) :: r) else if y.2 = [] then some (S.2.1.2.1 + 1, .inl (sy_scl y.1 z) :: r) else none) else none).map (fun u => (u.1, S.2.1.2.2.1, u.2))).map (fun u => [sy_at S S.1 u.1 u.2.1 u.2.2])) = some l
      rw [if_pos rfl]
      split at h4
      · rename_i hz
        rw [if_pos hz]
        exact h4
      · rename_i hz
        rw [if_neg (fun e => hz e)]
        split at h4
        · rename_i hy
          rw [if_pos hy]
          exact h4
        · cases h4
    · cases h0
  · rename_i k off
    cases hf
    refine sy_uB_ok hM hq ?_
    have h0 : uy_if k off len S = some l := h
    unfold uy_if at h0
    split at h0
    · rename_i e r hst
      obtain ⟨h1, h2⟩ := qx_cs h0
      have h3 := Nat.eq_of_beq_eq_true h1
      subst h3
      rw [qy_tgt_e] at h2
      unfold sy_uB
      rw [hst]
      show (if 3 = 3 then (px_tgt S.2.1.2.1 off).map (fun t => sy_opt S (sy_two S.1 k e (sy_c 0)).1 t r ++ sy_opt S (sy_two S.1 k e (sy_c 0)).2 (S.2.1.2.1 + 3) r) else none) = some l
      rw [if_pos rfl]
      cases ht : px_tgt S.2.1.2.1 off with
      | none =>
        rw [ht] at h2
        cases h2
      | some t =>
        rw [ht] at h2
        exact h2
    · cases h0
  · rename_i k off
    cases hf
    refine sy_uB_ok hM hq ?_
    have h0 : uy_ic k off len S = some l := h
    unfold uy_ic at h0
    split at h0
    · rename_i b a r hst
      obtain ⟨h1, h2⟩ := qx_cs h0
      have h3 := Nat.eq_of_beq_eq_true h1
      subst h3
      rw [qy_tgt_e] at h2
      unfold sy_uB
      rw [hst]
      show (if 3 = 3 then (px_tgt S.2.1.2.1 off).map (fun t => sy_opt S (sy_two S.1 k a b).1 t r ++ sy_opt S (sy_two S.1 k a b).2 (S.2.1.2.1 + 3) r) else none) = some l
      rw [if_pos rfl]
      cases ht : px_tgt S.2.1.2.1 off with
      | none =>
        rw [ht] at h2
        cases h2
      | some t =>
        rw [ht] at h2
        exact h2
    · cases h0
  · cases hf; exact uy_ia_ok hM hq h
  · cases hf; exact uy_gf_ok hM hq h
  · cases hf; exact uy_ias_ok hM hq h
  · cases hf
/-- by the sort of the instruction -/
def ty_tg (cl : List vw_C) (An : Nat → Option sy_Ce) (H : Nat → Option (px_M × Nat)) (A : List sy_Ce) (Wr : sy_Wr) (Cs : List sy_Co) (D : Nat) (M : px_M) (i : Instr) (len : Nat) (S : sy_S) (t : Nat) : Option (List sy_S) := px_or (Option.rec (motive := fun _ => Option (List sy_S)) none (fun f => f An Wr M len S) (uy_fn i)) (
  cond (Nat.beq t 1) (sy_u1 M i len S) (cond (Nat.beq t 3) (sy_uB i len S) (cond (Nat.beq t 4) (px_or (sy_p4 i S) (px_or (ty_kr An M i len S) (px_or (ty_p5 An Wr M i S) (px_or (ty_nR An M i len S) (ty_uR An M i len S)))))
  (cond (Nat.beq t 5) (px_or (ty_kr An M i len S) (px_or (ty_nR An M i len S) (ty_uR An M i len S))) (cond (Nat.beq t 2) (px_or (sy_uN A i len S) (px_or (sy_u1 M i len S) (sy_uA i len S)))
  (cond (Nat.beq t 9) (px_or (sy_uX D M i len S) (ty_ca An H Wr Cs D M i len S)) (cond (Nat.beq t 6) (px_or (sy_p4 i S) (px_or (ty_p5 An Wr M i S) (ty_uW cl An Wr M i len S)))
  (cond (Nat.beq t 7) (px_or (ty_p5 An Wr M i S) (ty_uW cl An Wr M i len S)) (cond (Nat.beq t 8) (sy_uV M i len S) none)))))))))
theorem ty_tg_ok {H : Nat → Option (px_M × Nat)} {D t : Nat} {Cs : List sy_Co} (hH : px_Hok x.1 x.2.2.1 H) (hcl : ∀ (k : Nat) (o : Nat × List ((Int × Int) ⊕ Nat)), q.2.1[k]? = some (.inr (.inr o)) → o.1 < x.1.length) (hCs : ∀ C ∈ Cs, sy_Met x.1 x.2.1 x.2.2.1 q.2.1 x.2.2.2.2.1 C) (hD : D ≤ x.2.2.2.2.2.2) (hP : ∀ (j : Nat) (M : px_M), x.2.2.1[j]? = some M → q.1[j]? = some M) (hM : q.1[S.2.1.1]? = some M) (hq : px_look M.2.1 S.2.1.2.1 = some (i, len)) (h : ty_tg x.1 (fun k => q.2.1[k]?) H q.2.1 q.2.2.1 Cs D M i len S t = some l) : sy_S1 x q S l := by
  unfold ty_tg at h
  rcases px_or_some h with h | h
  · cases hf : uy_fn i with
    | none =>
      rw [hf] at h
      cases h
    | some f =>
      rw [hf] at h
      exact uy_fn_ok hf hM hq h
  rcases px_cond h with h | h
  · exact sy_u1_ok hM hq h
  rcases px_cond h with h | h
  · exact sy_uB_ok hM hq h
  rcases px_cond h with h | h
  · rcases px_or_some h with h | h
    · exact sy_p4_ok h
    rcases px_or_some h with h | h
    · exact ty_kr_ok hM hq h
    rcases px_or_some h with h | h
    · exact sy_p5_ok (ty_p5_eq.symm.trans h)
    rcases px_or_some h with h | h
    · exact ty_nR_ok hM hq h
    · exact sy_uR_ok hM hq (ty_uR_eq.symm.trans h)
  rcases px_cond h with h | h
  · rcases px_or_some h with h | h
    · exact ty_kr_ok hM hq h
    rcases px_or_some h with h | h
    · exact ty_nR_ok hM hq h
    · exact sy_uR_ok hM hq (ty_uR_eq.symm.trans h)
  rcases px_cond h with h | h
  · rcases px_or_some h with h | h
    · exact sy_uN_ok hM hq h
    rcases px_or_some h with h | h
    · exact sy_u1_ok hM hq h
    · exact sy_uA_ok hM hq h
  rcases px_cond h with h | h
  · rcases px_or_some h with h | h
    · exact sy_uX_ok hD hM hq h
    · exact ty_ca_ok hH hcl hCs hD hP hM hq h
  rcases px_cond h with h | h
  · rcases px_or_some h with h | h
    · exact sy_p4_ok h
    rcases px_or_some h with h | h
    · exact sy_p5_ok (ty_p5_eq.symm.trans h)
    · exact sy_uW_ok hM hq (ty_uW_eq.symm.trans h)
  rcases px_cond h with h | h
  · rcases px_or_some h with h | h
    · exact sy_p5_ok (ty_p5_eq.symm.trans h)
    · exact sy_uW_ok hM hq (ty_uW_eq.symm.trans h)
  rcases px_cond h with h | h
  · exact sy_uV_ok hM hq h
  · cases h
def ty_ch (cl : List vw_C) (lt : List (List Int32)) (P : List px_M) (A : List sy_Ce) (Wr : sy_Wr) (Cs : List sy_Co) (D : Nat) (M : px_M) (i : Instr) (len : Nat) (S : sy_S) : Option (List sy_S) := px_or (sy_pre A Wr M i S) (px_or (sy_uN A i len S) (px_or (sy_u1 M i len S) (px_or (sy_uB i len S) (px_or (sy_uR A M i len S) (px_or (sy_uW cl A Wr M i len S) (px_or (sy_uK lt A M i len S) (px_or (sy_uA i len S) (px_or (sy_uV M i len S) (px_or (sy_uX D M i len S) (px_or (sy_uL lt A Wr M i len S) (px_or (sy_uY A Wr D M i len S) (match sy_cl cl A P i len M.2.2 S.2.1.2.2.2 with
      | some z => if Cs.any (fun C => C.1 == z.1) = true then sy_uM P Wr D S z Cs else sy_uC cl P A D M i len S
      | none => none))))))))))))
theorem ty_ch_ok {D : Nat} {Cs : List sy_Co} (hCs : ∀ C ∈ Cs, sy_Met x.1 x.2.1 x.2.2.1 q.2.1 x.2.2.2.2.1 C) (hD : D ≤ x.2.2.2.2.2.2) (hP : q.1 = x.2.2.1) (hM : q.1[S.2.1.1]? = some M) (hq : px_look M.2.1 S.2.1.2.1 = some (i, len)) (h : ty_ch x.1 x.2.1 x.2.2.1 q.2.1 q.2.2.1 Cs D M i len S = some l) : sy_S1 x q S l := by
  unfold ty_ch at h
  rcases px_or_some h with h | h
  · exact sy_pre_ok h
  rcases px_or_some h with h | h
  · exact sy_uN_ok hM hq h
  rcases px_or_some h with h | h
  · exact sy_u1_ok hM hq h
  rcases px_or_some h with h | h
  · exact sy_uB_ok hM hq h
  rcases px_or_some h with h | h
  · exact sy_uR_ok hM hq h
  rcases px_or_some h with h | h
  · exact sy_uW_ok hM hq h
  rcases px_or_some h with h | h
  · exact sy_uK_ok hM hq h
  rcases px_or_some h with h | h
  · exact sy_uA_ok hM hq h
  rcases px_or_some h with h | h
  · exact sy_uV_ok hM hq h
  rcases px_or_some h with h | h
  · exact sy_uX_ok hD hM hq h
  rcases px_or_some h with h | h
  · exact sy_uL_ok hM hq h
  rcases px_or_some h with h | h
  · exact sy_uY_ok hD hM hq h
  split at h
  · rename_i z hz
    split at h
    · exact sy_uM_ok hD hM hq hz Cs hCs h
    · exact sy_uC_ok hD hP hM hq h
  · cases h
/-- one step of any sort -/
def ty_suc (cl : List vw_C) (lt : List (List Int32)) (P : List px_M) (G : Nat → Nat → Option (px_M × Instr × Nat)) (H : Nat → Option (px_M × Nat)) (An : Nat → Option sy_Ce) (A : List sy_Ce) (Wr : sy_Wr) (Cs : List sy_Co) (D : Nat) (S : sy_S) : Option (List sy_S) := match G S.2.1.1 S.2.1.2.1 with
  | none => none
  | some (M, i, len) => px_or (cond (sy_top S.2.1.2.2.2) none (px_or (sy_p0 A S) (sy_p1 S))) (px_or (cond (Nat.beq (sy_pq S.2.1.1 S.2.1.2.1) 0) (ty_tg cl An H A Wr Cs D M i len S (sy_tag i)) none) (ty_ch cl lt P A Wr Cs D M i len S))
theorem ty_suc_ok {G : Nat → Nat → Option (px_M × Instr × Nat)} {H : Nat → Option (px_M × Nat)} {An : Nat → Option sy_Ce} {D : Nat} {Cs : List sy_Co} (hGo : px_Gok x.2.2.1 G) (hH : px_Hok x.1 x.2.2.1 H) (hA : An = fun k => q.2.1[k]?) (hcl : ∀ (k : Nat) (o : Nat × List ((Int × Int) ⊕ Nat)), q.2.1[k]? = some (.inr (.inr o)) → o.1 < x.1.length) (hCs : ∀ C ∈ Cs, sy_Met x.1 x.2.1 x.2.2.1 q.2.1 x.2.2.2.2.1 C) (hD : D ≤ x.2.2.2.2.2.2) (hP : q.1 = x.2.2.1) (h : ty_suc x.1 x.2.1 x.2.2.1 G H An q.2.1 q.2.2.1 Cs D S = some l) : sy_S1 x q S l := by
  unfold ty_suc at h
  split at h
  · cases h
  · rename_i M i len hg
    obtain ⟨hM, hq⟩ := hGo _ _ _ _ _ hg
    rw [← hP] at hM
    rcases px_or_some h with h | h
    · rcases px_cond h with h | h
      · cases h
      · rcases px_or_some h with h | h
        · exact sy_p0_ok h
        · exact sy_p1_ok h
    rcases px_or_some h with h | h
    · rcases px_cond h with h | h
      · rw [hA] at h
        exact ty_tg_ok hH hcl hCs hD (fun j M h => by rw [hP]; exact h) hM hq h
      · cases h
    · exact ty_ch_ok hCs hD hP hM hq h
/-- what differs in a constant is no such cut -/
def sy_ie (a b : Int) : Bool := match a, b with
  | .ofNat m, .ofNat n => Nat.beq m n
  | .negSucc m, .negSucc n => Nat.beq m n
  | _, _ => false
def sy_qk (lv pat : List (Nat × sy_A)) : Bool := pat.all (fun p => match p.2 with
  | .inl (k, []) => (match px_look lv p.1 with
    | some (.inl (j, [])) => sy_ie k j
    | _ => true)
  | _ => true)
/-- none: go on; true: fits -/
def ty_halt (G : Nat → Nat → Option (px_M × Instr × Nat)) (C : sy_Co) (cuts : List sy_Cut) (m : sy_L) (S : sy_S) : Option Bool := match S.2.2 with
  | _ :: _ => none
  | [] => cond (S.2.1.2.2.2.isEmpty && (Nat.beq S.2.1.1 C.1 && qx_any cuts (fun c => Nat.beq c.1 S.2.1.2.1))) (some (cuts.any (fun c => Nat.beq c.1 S.2.1.2.1 && (sy_qk S.2.1.2.2.1 c.2.2.1 && sy_atC C.2.1.1.length m S c)))) (match G S.2.1.1 S.2.1.2.1 with
    | some (M, i, len) => cond (cond (Nat.beq (sy_tag i) 8) false true) none (match sy_rt S.1.1 i len M.1.2.2.2.1 S.2.1.2.2.2 with
        | some v => if sy_uf S.1.1 v = true then none else some (C.2.2.2.2.2.any (sy_atP C.2.1.1.length S.1 v))
        | none => none)
    | none => none)
theorem ty_halt_ok {G : Nat → Nat → Option (px_M × Instr × Nat)} {cuts : List sy_Cut} {C : sy_Co} {ρ0 : Nat → Int} {m : sy_L} (hGo : px_Gok x.2.2.1 G) (hMC : x.2.2.1[C.1]? = some M) (hI : sy_I x q.2.1 q.2.2.1 q.2.2.2.1 ρ0 C.2.1.1.length M cuts (sy_e q.2.2.2.2.1 m)) (hN : C.2.1.1.length ≤ q.2.2.2.2.2 ∧ ∀ i, i < C.2.1.1.length → q.2.2.2.2.1 i = ρ0 i) (hmw : sy_wl q.2.2.2.2.2 m = true) (hP : q.1 = x.2.2.1) (hK : x.2.2.2.2.2.1 = sy_K q.2.1 C q.2.2.2.1 ρ0) (hWr : q.2.2.1 = C.2.2.2.1) (h : ty_halt G C cuts m S = some true) : sy_Good x q S := by
  unfold ty_halt at h
  split at h
  · cases h
  · rename_i hfs
    cases hc : (S.2.1.2.2.2.isEmpty && (Nat.beq S.2.1.1 C.1 && qx_any cuts (fun c => Nat.beq c.1 S.2.1.2.1))) with
    | true =>
      rw [hc, px_c1] at h
      have h0 : some (cuts.any (fun c => Nat.beq c.1 S.2.1.2.1 && (sy_qk S.2.1.2.2.1 c.2.2.1 && sy_atC C.2.1.1.length m S c))) = some true := h
      rw [Bool.and_eq_true, Bool.and_eq_true] at hc
      have hj := Nat.eq_of_beq_eq_true hc.2.1
      obtain ⟨c, hcc, h1⟩ := List.any_eq_true.mp (Option.some.inj h0)
      rw [Bool.and_eq_true, Bool.and_eq_true] at h1
      replace h1 := h1.2.2
      unfold sy_atC at h1
      rw [Bool.and_eq_true] at h1
      have hgo : ∀ (σ : List sy_L) (σL : List Nat), sy_fitC C.2.1.1.length S c σ σL m = true → sy_Good x q S := fun σ σL h2 => sy_goCut hI hN hmw (by rw [hP, hj]; exact hMC) hcc h2
      obtain ⟨-, h2⟩ := h1
      rw [Bool.or_eq_true] at h2
      rcases h2 with h2 | h2
      · exact hgo _ _ h2
      · split at h2
        · cases h2
        · rw [Bool.or_eq_true] at h2
          rcases h2 with h2 | h2
          · exact hgo _ _ h2
          · obtain ⟨j, -, h3⟩ := List.any_eq_true.mp h2
            exact hgo _ _ h3
    | false =>
      rw [hc, px_c0] at h
      split at h
      · rename_i M2 i len hg
        obtain ⟨hM2, hq⟩ := hGo _ _ _ _ _ hg
        rcases px_cond h with h | h
        · cases h
        split at h
        · rename_i v hv
          split at h
          · cases h
          · obtain ⟨p, hp, h1⟩ := List.any_eq_true.mp (Option.some.inj h)
            exact sy_goPost hK hWr hN (by rw [hP]; exact hM2) hq hv hfs hp h1
        · cases h
      · cases h
/-- all states of a list, with fuel -/
def ty_all (cl : List vw_C) (lt : List (List Int32)) (P : List px_M) (G : Nat → Nat → Option (px_M × Instr × Nat)) (H : Nat → Option (px_M × Nat)) (An : Nat → Option sy_Ce) (A : List sy_Ce) (Cs : List sy_Co) (C : sy_Co) (cuts : List sy_Cut) (m : sy_L) : Nat → List sy_S → Bool
  | 0, _ => false
  | _ + 1, [] => true
  | n + 1, S :: r => match ty_halt G C cuts m S with
    | some b => b && ty_all cl lt P G H An A Cs C cuts m n r
    | none => (match ty_suc cl lt P G H An A C.2.2.2.1 Cs C.2.2.2.2.1 S with
      | some l => ty_all cl lt P G H An A Cs C cuts m n (l ++ r)
      | none => false)
theorem ty_all_ok {G : Nat → Nat → Option (px_M × Instr × Nat)} {H : Nat → Option (px_M × Nat)} {An : Nat → Option sy_Ce} {cuts : List sy_Cut} {Cs : List sy_Co} {C : sy_Co} {ρ0 : Nat → Int} {m : sy_L} (hGo : px_Gok x.2.2.1 G) (hH : px_Hok x.1 x.2.2.1 H) (hA : An = fun k => q.2.1[k]?) (hcl : ∀ (k : Nat) (o : Nat × List ((Int × Int) ⊕ Nat)), q.2.1[k]? = some (.inr (.inr o)) → o.1 < x.1.length) (hCs : ∀ C ∈ Cs, sy_Met x.1 x.2.1 x.2.2.1 q.2.1 x.2.2.2.2.1 C) (hD : C.2.2.2.2.1 ≤ x.2.2.2.2.2.2) (hMC : x.2.2.1[C.1]? = some M) (hI : sy_I x q.2.1 q.2.2.1 q.2.2.2.1 ρ0 C.2.1.1.length M cuts (sy_e q.2.2.2.2.1 m)) (hN : C.2.1.1.length ≤ q.2.2.2.2.2 ∧ ∀ i, i < C.2.1.1.length → q.2.2.2.2.1 i = ρ0 i) (hmw : sy_wl q.2.2.2.2.2 m = true) (hP : q.1 = x.2.2.1) (hK : x.2.2.2.2.2.1 = sy_K q.2.1 C q.2.2.2.1 ρ0) (hWr : q.2.2.1 = C.2.2.2.1) : ∀ (n : Nat) (l : List sy_S), ty_all x.1 x.2.1 x.2.2.1 G H An q.2.1 Cs C cuts m n l = true → ∀ S ∈ l, sy_Good x q S
  | 0, l, h => by cases h
  | n + 1, [], _ => fun S hS => absurd hS List.not_mem_nil
  | n + 1, S0 :: r, h => by
    unfold ty_all at h
    intro S hS
    split at h
    · rename_i b hb
      rw [Bool.and_eq_true] at h
      rw [h.1] at hb
      rcases List.mem_cons.mp hS with rfl | hS
      · exact ty_halt_ok hGo hMC hI hN hmw hP hK hWr hb
      · exact ty_all_ok hGo hH hA hcl hCs hD hMC hI hN hmw hP hK hWr n r h.2 S hS
    · split at h
      · rename_i l0 hl
        have ih := ty_all_ok hGo hH hA hcl hCs hD hMC hI hN hmw hP hK hWr n (l0 ++ r) h
        rcases List.mem_cons.mp hS with rfl | hS
        · rw [← hWr] at hl
          exact ty_suc_ok hGo hH hA hcl hCs hD hP hl (fun S' h' => ih S' (List.mem_append_left _ h'))
        · exact ih S (List.mem_append_right _ hS)
      · cases h
end TY
/-- a cut is checked: its first step, and all that comes of it -/
def ty_ckC (cl : List vw_C) (lt : List (List Int32)) (P : List px_M) (G : Nat → Nat → Option (px_M × Instr × Nat)) (H : Nat → Option (px_M × Nat)) (An : Nat → Option sy_Ce) (A : List sy_Ce) (Cs : List sy_Co) (C : sy_Co) (cuts : List sy_Cut) (n : Nat) (c : sy_Cut) : Bool := sy_wl c.2.1.1.length c.2.2.2 && (match ty_suc cl lt P G H An A C.2.2.2.1 Cs C.2.2.2.2.1 (sy_cS C.1 c) with
  | some l => ty_all cl lt P G H An A Cs C cuts c.2.2.2 n l
  | none => false)
/-- a contract holds, if its cuts are checked -/
theorem ty_met2 {cl : List vw_C} {lt : List (List Int32)} {P : List px_M} {G : Nat → Nat → Option (px_M × Instr × Nat)} {H : Nat → Option (px_M × Nat)} {An : Nat → Option sy_Ce} {A : List sy_Ce} {b : Nat × Nat} {Cs : List sy_Co} {C : sy_Co} {cuts : List sy_Cut} {m0 : sy_L} (n : Nat) (hGo : px_Gok P G) (hH : px_Hok cl P H) (hA : An = fun k => A[k]?) (hcl : ∀ (k : Nat) (o : Nat × List ((Int × Int) ⊕ Nat)), A[k]? = some (.inr (.inr o)) → o.1 < cl.length) (hCs : ∀ C ∈ Cs, sy_Met cl lt P A b C) (h0 : cuts.head? = some (0, C.2.1, sy_args 0 C.2.2.1, m0)) (hm0 : sy_pos C.2.1.1 C.2.1.2.2.1 m0 = true) (hc : cuts.all (ty_ckC cl lt P G H An A Cs C cuts n) = true) : sy_Met cl lt P A b C := by
  refine sy_met (PM := P) (cuts := cuts) (fun _ _ h => h) (List.mem_of_mem_head? h0) hm0 (fun c hcc M hM d w0 ρ0 ρs hd hr hI => ?_)
  have h1 := List.all_eq_true.mp hc c hcc
  unfold ty_ckC at h1
  rw [Bool.and_eq_true] at h1
  obtain ⟨h2, h3⟩ := h1
  split at h3
  · rename_i l hl
    have ih := ty_all_ok (x := (cl, lt, P, none, b, sy_K A C w0 ρ0, d)) (q := (P, A, C.2.2.2.1, w0, ρs, c.2.1.1.length)) (ρ0 := ρ0) hGo hH hA hcl hCs hd hM hI hr h2 rfl rfl rfl n l h3
    exact ty_suc_ok (x := (cl, lt, P, none, b, sy_K A C w0 ρ0, d)) (q := (P, A, C.2.2.2.1, w0, ρs, c.2.1.1.length)) hGo hH hA hcl hCs hd rfl hl ih
  · cases h3

end
