noncomputable section
/-! each op is what its instruction does -/
section EC3
variable {cl : List vw_C} {lt : List (List Int32)} {P : List px_M} {d : Nat} {scr : Option (List Int32)} {M : px_M} {pc : Nat} {lv : List (Nat × Value)} {st : List Value} {w : px_W} {i : Instr} {len : Nat}
theorem ec_s3_no {L : px_L} (h : px_so2 i ≤ 1) : px_s3 i len d L st w = none := by
  unfold px_s3
  split
  · have h' : 2 ≤ 1 := h
    omega
  · have h' : 4 ≤ 1 := h
    omega
  · rfl
theorem ec_s6_no {L : px_L} (h : px_so2 i ≠ 2) : px_s6 i len d L st = none := by
  unfold px_s6
  split
  · exact absurd rfl h
  · rfl
theorem ec_s4_no {L : px_L} (h : px_so2 i ≤ 1) : px_s4 cl P i len L st w = none := by
  unfold px_s4
  split
  · have h' : 3 ≤ 1 := h
    omega
  · have h' : 2 ≤ 1 := h
    omega
  · have h' : 4 ≤ 1 := h
    omega
  · rfl
theorem ec_only2 (hq : px_look M.2.1 pc = some (i, len)) (h0 : px_so1 i = 0) (h2 : px_so2 i = 0) : px_step cl lt P d scr M pc lv st w = (px_s2 cl lt i len scr M.1.1.name M.1.1.cls M.2.2 st w).map (fun z => .inl (pc + len, lv, z.1, z.2.1, z.2.2)) := by
  unfold px_step
  rw [hq]
  show px_or ((px_s1 i len pc M.1.2.2.1 lv st).map _) (px_or ((px_s2 cl lt i len scr M.1.1.name M.1.1.cls M.2.2 st w).map _) (px_or ((px_s5 i len M.1.2.2.2.1 st).map _) (px_or ((px_s3 i len d M.2.2 st w).map _) (px_or ((px_s6 i len d M.2.2 st).map _) ((px_s4 cl P i len M.2.2 st w).map _))))) = _
  rw [px_s1_0 h0, px_s5_no (by omega), ec_s3_no (by omega), ec_s6_no (by omega), ec_s4_no (by omega)]
  cases px_s2 cl lt i len scr M.1.1.name M.1.1.cls M.2.2 st w <;> rfl
theorem ec_only5 (hq : px_look M.2.1 pc = some (i, len)) (h2 : px_so2 i = 1) : px_step cl lt P d scr M pc lv st w = (px_s5 i len M.1.2.2.2.1 st).map (fun z => .inr (.inl z)) := by
  unfold px_step
  rw [hq]
  show px_or ((px_s1 i len pc M.1.2.2.1 lv st).map _) (px_or ((px_s2 cl lt i len scr M.1.1.name M.1.1.cls M.2.2 st w).map _) (px_or ((px_s5 i len M.1.2.2.2.1 st).map _) (px_or ((px_s3 i len d M.2.2 st w).map _) (px_or ((px_s6 i len d M.2.2 st).map _) ((px_s4 cl P i len M.2.2 st w).map _))))) = _
  rw [px_s1_0 (px_so2_0 (by omega)), px_s2_no (by omega), ec_s3_no (by omega), ec_s6_no (by omega), ec_s4_no (by omega)]
  cases px_s5 i len M.1.2.2.2.1 st <;> rfl
theorem ec_only3 (hq : px_look M.2.1 pc = some (i, len)) (h2 : 2 ≤ px_so2 i) : px_step cl lt P d scr M pc lv st w = px_or ((px_s3 i len d M.2.2 st w).map (fun z => .inl (pc + 3, lv, z.1, z.2, 0, 0))) (px_or ((px_s6 i len d M.2.2 st).map (fun z => .inl (pc + 3, lv, z, w, 0, 0))) ((px_s4 cl P i len M.2.2 st w).map (fun z => .inr (.inr z)))) := by
  unfold px_step
  rw [hq]
  show px_or ((px_s1 i len pc M.1.2.2.1 lv st).map _) (px_or ((px_s2 cl lt i len scr M.1.1.name M.1.1.cls M.2.2 st w).map _) (px_or ((px_s5 i len M.1.2.2.2.1 st).map _) (px_or ((px_s3 i len d M.2.2 st w).map _) (px_or ((px_s6 i len d M.2.2 st).map _) ((px_s4 cl P i len M.2.2 st w).map _))))) = _
  rw [px_s1_0 (px_so2_0 (by omega)), px_s2_no (by omega), px_s5_no (by omega)]
  rfl
theorem ec_div0 (hq : px_look M.2.1 pc = some (i, len)) (hi : i = .idiv ∨ i = .irem) {x : Int32} {r : List Value} : px_step cl lt P d scr M pc lv (.int 0 :: .int x :: r) w = none := by
  have h1 : px_so1 i = 1 := by rcases hi with rfl | rfl <;> rfl
  have h0 : px_a1 i len pc lv (.int 0 :: .int x :: r) = none := by
    rcases hi with rfl | rfl
    · show (if len = 1 then (if (0 : Int32) = 0 then none else some (x / 0)).map _ else none) = none
      rw [if_pos rfl]
      split <;> rfl
    · show (if len = 1 then (if (0 : Int32) = 0 then none else some (x - x / 0 * 0)).map _ else none) = none
      rw [if_pos rfl]
      split <;> rfl
  have h2 : px_s1 i len pc M.1.2.2.1 lv (.int 0 :: .int x :: r) = none := by
    rw [px_s1_eq, px_or_n h0, px_or_n (px_a2_no (by omega)), px_or_n (px_a3_no (by omega)), px_or_n (px_a4_no (by omega)), px_or_n (px_a5_no (by omega)), px_or_n (px_a6_no (by omega)), px_or_n (px_a7_no (by omega)), px_or_n (px_a8_no (by omega)), px_a9_no (by omega)]
  unfold px_step
  rw [hq]
  show px_or ((px_s1 i len pc M.1.2.2.1 lv (.int 0 :: .int x :: r)).map _) _ = none
  rw [h2]
  rcases hi with rfl | rfl <;> rfl
theorem ec_ld2 {q : Nat × Nat × Nat} (h : px_ld i = some q) : px_so1 i = 2 := by
  unfold px_ld at h
  split at h <;> first | rfl | cases h
theorem ec_st5 {q : Nat × Nat × Nat} (h : px_st i = some q) : px_so1 i = 5 := by
  unfold px_st at h
  split at h <;> first | rfl | cases h
theorem ec_cst3 {q : Value × Nat} (h : px_cst i = some q) : px_so1 i = 3 := by
  unfold px_cst at h
  split at h <;> first | rfl | cases h
end EC3
section EC4
variable {X : ec_X} {n0 j pc pc' : Nat} {L : List (Nat × ec_V)} {st : List ec_V} {w : px_W} {r : Option Value × px_W} {M : px_M} {i : Instr} {len : Nat} {o : ec_O} {ih : ec_I} {F : Prop}
theorem ec_c0_ok (hM : X.2.2.2.1[j]? = some M) (hq : px_look M.2.1 pc = some (i, len)) (hm : ec_m0 M pc o i len = some pc') (hF : F) (h : ec_E X n0 j pc L st w r) (hi : ∀ (m : Nat) (L' : List (Nat × ec_V)) (st' : List ec_V) (w' : px_W) (F' : Prop), m + 1 = n0 → F' → ec_E X m j pc' L' st' w' r → ih L' st' w' F') : ec_c0 o ih L st w F := by
  obtain ⟨n, M', lc, d, b, b', z, rfl, hW, hM', hl, hx, hz⟩ := ec_step h
  cases hM.symm.trans hM'
  obtain ⟨c0, k, x, y, c⟩ := o
  revert hm
  match k with
  | 0 =>
    intro hm
    replace hm : (if px_ld i = some (x, len, 0) then some (pc + len) else none) = some pc' := hm
    show (match (generalizing := false) ec_lk L x with
      | some (.inl a) => ih L (.inl a :: st) w F
      | _ => True)
    split at hm
    · rename_i hld
      cases hm
      split
      · rename_i a hlk
        have hlook := hl _ (ec_lk_mem hlk)
        refine hi n _ _ _ _ rfl hF (ec_after hM hx (px_step_1 hq (px_s1_2 (ec_ld2 hld) (z := (pc + len, lc, (Sum.inl a :: st : List ec_V).map ec_v)) ?_)) hl hW)
        unfold px_a2
        rw [hld]
        show (px_look lc x).bind _ = _
        rw [hlook]
        exact if_pos ⟨rfl, rfl⟩
      · trivial
    · cases hm
  | 1 =>
    intro hm
    replace hm : (if px_ld i = some (x, len, 2) then some (pc + len) else none) = some pc' := hm
    show (match (generalizing := false) ec_lk L x with
      | some (.inr (.inl a)) => ih L (.inr (.inl a) :: st) w F
      | _ => True)
    split at hm
    · rename_i hld
      cases hm
      split
      · rename_i a hlk
        have hlook := hl _ (ec_lk_mem hlk)
        refine hi n _ _ _ _ rfl hF (ec_after hM hx (px_step_1 hq (px_s1_2 (ec_ld2 hld) (z := (pc + len, lc, (Sum.inr (Sum.inl a) :: st : List ec_V).map ec_v)) ?_)) hl hW)
        unfold px_a2
        rw [hld]
        show (px_look lc x).bind _ = _
        rw [hlook]
        exact if_pos ⟨rfl, rfl⟩
      · trivial
    · cases hm
  | 2 =>
    intro hm
    replace hm : (match (generalizing := false) i with
      | .ldc x => (match px_look M.2.2.2.2.2.1 x with
        | some v => if len = 2 ∧ v.toInt = c then some (pc + len) else none
        | none => none)
      | .ldc_w x => (match px_look M.2.2.2.2.2.1 x with
        | some v => if len = 3 ∧ v.toInt = c then some (pc + len) else none
        | none => none)
      | _ => (match px_cst i with
        | some (.int x, l) => if l = len ∧ x.toInt = c then some (pc + len) else none
        | _ => none)) = some pc' := hm
    show ih L (.inl c :: st) w F
    split at hm
    · rename_i x
      split at hm
      · rename_i v hv
        split at hm
        · rename_i hc
          cases hm
          obtain ⟨rfl, hc⟩ := hc
          refine hi n _ _ _ _ rfl hF (ec_after hM hx ((px_step_2 (z := ((Sum.inl c :: st : List ec_V).map ec_v, w, 0, 0)) hq rfl ?_)) hl hW)
          show (if 2 = 2 then px_or ((px_look M.2.2.2.2.2.1 x).map _) _ else none) = _
          rw [if_pos rfl, hv]
          show some (Value.int v :: st.map ec_v, w, 0, 0) = some (Value.int (Int32.ofInt c) :: st.map ec_v, w, 0, 0)
          rw [← hc, Int32.ofInt_toInt]
        · cases hm
      · cases hm
    · rename_i x
      split at hm
      · rename_i v hv
        split at hm
        · rename_i hc
          cases hm
          obtain ⟨rfl, hc⟩ := hc
          refine hi n _ _ _ _ rfl hF (ec_after hM hx ((px_step_2 (z := ((Sum.inl c :: st : List ec_V).map ec_v, w, 0, 0)) hq rfl ?_)) hl hW)
          show (if 3 = 3 then (px_look M.2.2.2.2.2.1 x).map _ else none) = _
          rw [if_pos rfl, hv]
          show some (Value.int v :: st.map ec_v, w, 0, 0) = some (Value.int (Int32.ofInt c) :: st.map ec_v, w, 0, 0)
          rw [← hc, Int32.ofInt_toInt]
        · cases hm
      · cases hm
    · split at hm
      · rename_i x l hcst
        split at hm
        · rename_i hc
          cases hm
          obtain ⟨rfl, hc⟩ := hc
          refine hi n _ _ _ _ rfl hF (ec_after hM hx (px_step_1 hq (px_s1_3 (ec_cst3 hcst) (z := (pc + l, lc, (Sum.inl c :: st : List ec_V).map ec_v)) ?_)) hl hW)
          unfold px_a3
          rw [hcst]
          show (if l = l then some (pc + l, lc, Value.int x :: st.map ec_v) else none) = some (pc + l, lc, Value.int (Int32.ofInt c) :: st.map ec_v)
          rw [if_pos rfl, ← hc, Int32.ofInt_toInt]
        · cases hm
      · cases hm
  | 3 =>
    intro hm
    replace hm : (if px_st i = some (x, len, 0) ∧ x < M.1.2.2.1 then some (pc + len) else none) = some pc' := hm
    show (match (generalizing := false) st with
      | .inl a :: s => ih (ec_set L x (.inl a)) s w F
      | _ => True)
    split at hm
    · rename_i hc
      cases hm
      split
      · rename_i a s
        refine hi n _ _ _ _ rfl hF (ec_after hM hx (px_step_1 hq (px_s1_5 (ec_st5 hc.1) (z := (pc + len, px_sto lc x (ec_v (.inl a)), s.map ec_v)) ?_)) (ec_sto_ok hl _ _) hW)
        show (px_st i).bind _ = _
        rw [hc.1]
        exact if_pos ⟨rfl, rfl, hc.2⟩
      · trivial
    · cases hm
  | 4 =>
    intro hm
    replace hm : (if px_st i = some (x, len, 2) ∧ x < M.1.2.2.1 then some (pc + len) else none) = some pc' := hm
    show (match (generalizing := false) st with
      | .inr (.inl a) :: s => ih (ec_set L x (.inr (.inl a))) s w F
      | _ => True)
    split at hm
    · rename_i hc
      cases hm
      split
      · rename_i a s
        refine hi n _ _ _ _ rfl hF (ec_after hM hx (px_step_1 hq (px_s1_5 (ec_st5 hc.1) (z := (pc + len, px_sto lc x (ec_v (.inr (.inl a))), s.map ec_v)) ?_)) (ec_sto_ok hl _ _) hW)
        show (px_st i).bind _ = _
        rw [hc.1]
        exact if_pos ⟨rfl, rfl, hc.2⟩
      · trivial
    · cases hm
  | 5 =>
    intro hm
    replace hm : (match (generalizing := false) i with
      | .iinc k c' => if k = x ∧ c' = c ∧ len = 3 ∧ x < M.1.2.2.1 then some (pc + 3) else none
      | _ => none) = some pc' := hm
    show (match (generalizing := false) ec_lk L x with
      | some (.inl a) => ih (ec_set L x (.inl (a + c))) st w F
      | _ => True)
    split at hm
    · split at hm
      · rename_i hc
        cases hm
        obtain ⟨rfl, rfl, rfl, hc⟩ := hc
        rename_i k c'
        split
        · rename_i a hlk
          have hlook := hl _ (ec_lk_mem hlk)
          refine hi n _ _ _ _ rfl hF (ec_after hM hx (px_step_1 hq (px_s1_6 rfl (z := (pc + 3, px_sto lc k (ec_v (.inl (a + c'))), st.map ec_v)) ?_)) (ec_sto_ok hl _ _) hW)
          show (px_look lc k).bind _ = _
          rw [hlook]
          show (if 3 = 3 ∧ k < M.1.2.2.1 then some (pc + 3, px_sto lc k (.int (Int32.ofInt a + Int32.ofInt c')), st.map ec_v) else none) = _
          rw [if_pos ⟨rfl, hc⟩, ← Int32.ofInt_add]
          rfl
        · trivial
      · cases hm
    · cases hm
  | 6 =>
    intro hm
    replace hm : (if px_ld i = some (x, len, 1) then some (pc + len) else none) = some pc' := hm
    show (match (generalizing := false) ec_lk L x with
      | some (.inr (.inr a)) => ih L (.inr (.inr a) :: st) w F
      | _ => True)
    split at hm
    · rename_i hld
      cases hm
      split
      · rename_i a hlk
        have hlook := hl _ (ec_lk_mem hlk)
        refine hi n _ _ _ _ rfl hF (ec_after hM hx (px_step_1 hq (px_s1_2 (ec_ld2 hld) (z := (pc + len, lc, (Sum.inr (Sum.inr a) :: st : List ec_V).map ec_v)) ?_)) hl hW)
        unfold px_a2
        rw [hld]
        show (px_look lc x).bind _ = _
        rw [hlook]
        exact if_pos ⟨rfl, rfl⟩
      · trivial
    · cases hm
  | 7 =>
    intro hm
    replace hm : (match (generalizing := false) i with
      | .ldc2_w x => (match px_look M.2.2.2.2.2.2.1 x with
        | some v => if len = 3 ∧ v.toInt = c then some (pc + 3) else none
        | none => none)
      | _ => none) = some pc' := hm
    show ih L (.inr (.inr (Int64.ofInt c)) :: st) w F
    split at hm
    · rename_i x
      split at hm
      · rename_i v hv
        split at hm
        · rename_i hc
          cases hm
          obtain ⟨rfl, hc⟩ := hc
          refine hi n _ _ _ _ rfl hF (ec_after hM hx ((px_step_2 (z := ((Sum.inr (Sum.inr (Int64.ofInt c)) :: st : List ec_V).map ec_v, w, 0, 0)) hq rfl ?_)) hl hW)
          show (if 3 = 3 then (px_look M.2.2.2.2.2.2.1 x).map _ else none) = _
          rw [if_pos rfl, hv]
          show some (Value.long v :: st.map ec_v, w, 0, 0) = some (Value.long (Int64.ofInt c) :: st.map ec_v, w, 0, 0)
          rw [← hc, Int64.ofInt_toInt]
        · cases hm
      · cases hm
    · cases hm
  | _ + 8 =>
    intro _
    trivial
theorem ec_c1_ok (hM : X.2.2.2.1[j]? = some M) (hq : px_look M.2.1 pc = some (i, len)) (hm : ec_m1 pc o i len = some pc') (hF : F) (h : ec_E X n0 j pc L st w r) (hi : ∀ (m : Nat) (L' : List (Nat × ec_V)) (st' : List ec_V) (w' : px_W) (F' : Prop), m + 1 = n0 → F' → ec_E X m j pc' L' st' w' r → ih L' st' w' F') : ec_c1 o ih L st w F := by
  obtain ⟨n, M', lc, d, b, b', z, rfl, hW, hM', hl, hx, hz⟩ := ec_step h
  cases hM.symm.trans hM'
  unfold ec_m1 at hm
  unfold ec_c1
  split at hm
  · rename_i hc
    cases hm
    obtain ⟨hc, rfl⟩ := hc
    split
    · rename_i y x s
      obtain ⟨e1, e2⟩ := ec_bq_ok hc x y
      refine hi n _ _ _ _ rfl hF (ec_after hM hx (px_step_1 hq (px_s1_1 e1 (z := (pc + 1, lc, (Sum.inl (ec_bn o.2.1 x y) :: s : List ec_V).map ec_v)) ?_)) hl hW)
      show (if 1 = 1 then (px_bin i (Int32.ofInt x) (Int32.ofInt y)).map _ else none) = _
      rw [if_pos rfl, e2]
      rfl
    · trivial
  · cases hm
theorem ec_c2_ok (hM : X.2.2.2.1[j]? = some M) (hq : px_look M.2.1 pc = some (i, len)) (hm : ec_m2 pc o i len = some pc') (hF : F) (h : ec_E X n0 j pc L st w r) (hi : ∀ (m : Nat) (L' : List (Nat × ec_V)) (st' : List ec_V) (w' : px_W) (F' : Prop), m + 1 = n0 → F' → ec_E X m j pc' L' st' w' r → ih L' st' w' F') : ec_c2 o ih L st w F := by
  obtain ⟨n, M', lc, d, b, b', z, rfl, hW, hM', hl, hx, hz⟩ := ec_step h
  cases hM.symm.trans hM'
  obtain ⟨c0, k, x0, y0, c⟩ := o
  unfold ec_c2
  split
  · rename_i y x s
    have key : (i = .idiv ∨ i = .irem) → ec_tw y ≠ 0 := by
      intro hi0 hy
      have hy0 : Int32.ofInt y = 0 := by
        have e : (Int32.ofInt y).toInt = (0 : Int32).toInt := hy
        exact Int32.toInt_inj.mp e
      have hz' : px_step X.1 X.2.1 X.2.2.1 d X.2.2.2.2.2 M pc lc (.int (Int32.ofInt y) :: .int (Int32.ofInt x) :: s.map ec_v) w = some z := hz
      rw [hy0, ec_div0 hq hi0] at hz'
      cases hz'
    have hne : ec_tw y ≠ 0 → ¬ Int32.ofInt y = 0 := by
      intro h1 h2
      apply h1
      unfold ec_tw
      rw [h2]
      rfl
    revert hm
    match k with
    | 0 =>
      intro hm
      unfold ec_m2 at hm
      split at hm
      · split at hm
        · rename_i hlen
          subst hlen
          cases hm
          have hy := key (.inl rfl)
          show ih L (.inl (ec_dv x y) :: s) w (F ∧ ec_tw y ≠ 0)
          refine hi n _ _ _ _ rfl ⟨hF, hy⟩ (ec_after hM hx (px_step_1 hq (px_s1_1 rfl (z := (pc + 1, lc, (Sum.inl (ec_dv x y) :: s : List ec_V).map ec_v)) ?_)) hl hW)
          show (if 1 = 1 then (if Int32.ofInt y = 0 then none else some (Int32.ofInt x / Int32.ofInt y)).map _ else none) = _
          rw [if_pos rfl, if_neg (hne hy)]
          show some (pc + 1, lc, Value.int (Int32.ofInt x / Int32.ofInt y) :: s.map ec_v) = some (pc + 1, lc, Value.int (Int32.ofInt (ec_dv x y)) :: s.map ec_v)
          unfold ec_dv
          rw [Int32.ofInt_toInt]
        · cases hm
      · rename_i e
        cases e
      · cases hm
    | 1 =>
      intro hm
      unfold ec_m2 at hm
      split at hm
      · rename_i e
        cases e
      · split at hm
        · rename_i hlen
          subst hlen
          cases hm
          have hy := key (.inr rfl)
          show ih L (.inl (ec_rm x y) :: s) w (F ∧ ec_tw y ≠ 0)
          refine hi n _ _ _ _ rfl ⟨hF, hy⟩ (ec_after hM hx (px_step_1 hq (px_s1_1 rfl (z := (pc + 1, lc, (Sum.inl (ec_rm x y) :: s : List ec_V).map ec_v)) ?_)) hl hW)
          show (if 1 = 1 then (if Int32.ofInt y = 0 then none else some (Int32.ofInt x - Int32.ofInt x / Int32.ofInt y * Int32.ofInt y)).map _ else none) = _
          rw [if_pos rfl, if_neg (hne hy)]
          show some (pc + 1, lc, Value.int (Int32.ofInt x - Int32.ofInt x / Int32.ofInt y * Int32.ofInt y) :: s.map ec_v) = some (pc + 1, lc, Value.int (Int32.ofInt (ec_rm x y)) :: s.map ec_v)
          unfold ec_rm
          rw [Int32.ofInt_toInt]
        · cases hm
      · cases hm
    | _ + 2 =>
      intro _
      trivial
  · trivial
/-- a step on the stack alone -/
theorem ec_st7 {st' : List Value} (hq : px_look M.2.1 pc = some (i, 1)) (h1 : px_so1 i = 7) (h2 : px_stk i (st.map ec_v) = some st') {lc : List (Nat × Value)} {d : Nat} : px_step X.1 X.2.1 X.2.2.1 d X.2.2.2.2.2 M pc lc (st.map ec_v) w = some (.inl (pc + 1, lc, st', w, 0, 0)) := by
  refine px_step_1 hq (px_s1_7 h1 (z := (pc + 1, lc, st')) ?_)
  unfold px_a7
  rw [if_pos rfl, h2]
  rfl
theorem ec_c3_ok (hM : X.2.2.2.1[j]? = some M) (hq : px_look M.2.1 pc = some (i, len)) (hm : ec_m3 M pc o i len = some pc') (hF : F) (h : ec_E X n0 j pc L st w r) (hi : ∀ (m : Nat) (L' : List (Nat × ec_V)) (st' : List ec_V) (w' : px_W) (F' : Prop), m + 1 = n0 → F' → ec_E X m j pc' L' st' w' r → ih L' st' w' F') : ec_c3 o ih L st w F := by
  obtain ⟨n, M', lc, d, b, b', z, rfl, hW, hM', hl, hx, hz⟩ := ec_step h
  cases hM.symm.trans hM'
  obtain ⟨c0, k0, x0, y0, c⟩ := o
  unfold ec_m3 at hm
  split at hm
  · rename_i hk
    have hk' : k0 = 0 := hk
    subst hk'
    show (match (generalizing := false) st with
      | a :: s => cond (Nat.beq (ec_ct a) 1) (ih L (a :: a :: s) w F) True
      | _ => True)
    split at hm
    · rename_i hlen
      subst hlen
      cases hm
      split
      · rename_i a s
        cases hca : Nat.beq (ec_ct a) 1 with
        | false => trivial
        | true =>
        have hca' := (ec_cat a).trans (Nat.eq_of_beq_eq_true hca)
        refine hi n _ _ _ _ rfl hF (ec_after (st' := a :: a :: s) hM hx (ec_st7 (st := a :: s) (st' := (a :: a :: s : List ec_V).map ec_v) hq rfl ?_) hl hW)
        show (if (ec_v a).category = 1 then some (ec_v a :: ec_v a :: s.map ec_v) else none) = _
        exact if_pos hca'
      · trivial
    · cases hm
  · rename_i hk
    have hk' : k0 = 1 := hk
    subst hk'
    show (match (generalizing := false) st with
      | a :: s => cond (Nat.beq (ec_ct a) 1) (ih L s w F) True
      | _ => True)
    split at hm
    · rename_i hlen
      subst hlen
      cases hm
      split
      · rename_i a s
        cases hca : Nat.beq (ec_ct a) 1 with
        | false => trivial
        | true =>
        have hca' := (ec_cat a).trans (Nat.eq_of_beq_eq_true hca)
        refine hi n _ _ _ _ rfl hF (ec_after (st' := s) hM hx (ec_st7 (st := a :: s) (st' := s.map ec_v) hq rfl ?_) hl hW)
        show (if (ec_v a).category = 1 then some (s.map ec_v) else none) = _
        exact if_pos hca'
      · trivial
    · cases hm
  · rename_i hk
    have hk' : k0 = 2 := hk
    subst hk'
    show (match (generalizing := false) st with
      | a :: b :: s => cond (Nat.beq (ec_ct a) 1 && Nat.beq (ec_ct b) 1) (ih L (a :: b :: a :: s) w F) True
      | _ => True)
    split at hm
    · rename_i hlen
      subst hlen
      cases hm
      split
      · rename_i a c s
        cases hca : (Nat.beq (ec_ct a) 1 && Nat.beq (ec_ct c) 1) with
        | false => trivial
        | true =>
        rw [Bool.and_eq_true] at hca
        have hca' := (ec_cat a).trans (Nat.eq_of_beq_eq_true hca.1)
        have hcc' := (ec_cat c).trans (Nat.eq_of_beq_eq_true hca.2)
        refine hi n _ _ _ _ rfl hF (ec_after (st' := a :: c :: a :: s) hM hx (ec_st7 (st := a :: c :: s) (st' := (a :: c :: a :: s : List ec_V).map ec_v) hq rfl ?_) hl hW)
        show (if (ec_v a).category = 1 ∧ (ec_v c).category = 1 then some (ec_v a :: ec_v c :: ec_v a :: s.map ec_v) else none) = _
        exact if_pos ⟨hca', hcc'⟩
      · trivial
    · cases hm
  · rename_i hk
    have hk' : k0 = 3 := hk
    subst hk'
    show (match (generalizing := false) st with
      | a :: b :: s => cond (Nat.beq (ec_ct a) 1 && Nat.beq (ec_ct b) 1) (ih L (a :: b :: a :: b :: s) w F) True
      | _ => True)
    split at hm
    · rename_i hlen
      subst hlen
      cases hm
      split
      · rename_i a c s
        cases hca : (Nat.beq (ec_ct a) 1 && Nat.beq (ec_ct c) 1) with
        | false => trivial
        | true =>
        rw [Bool.and_eq_true] at hca
        have hca' := (ec_cat a).trans (Nat.eq_of_beq_eq_true hca.1)
        have hcc' := (ec_cat c).trans (Nat.eq_of_beq_eq_true hca.2)
        refine hi n _ _ _ _ rfl hF (ec_after (st' := a :: c :: a :: c :: s) hM hx (ec_st7 (st := a :: c :: s) (st' := (a :: c :: a :: c :: s : List ec_V).map ec_v) hq rfl ?_) hl hW)
        show (if (ec_v a).category = 1 ∧ (ec_v c).category = 1 then some (ec_v a :: ec_v c :: ec_v a :: ec_v c :: s.map ec_v) else none) = _
        exact if_pos ⟨hca', hcc'⟩
      · trivial
    · cases hm
  · rename_i hk
    have hk' : k0 = 4 := hk
    subst hk'
    show (match (generalizing := false) st with
      | .inl a :: s => ih L (.inl (-a) :: s) w F
      | _ => True)
    split at hm
    · rename_i hlen
      subst hlen
      cases hm
      split
      · rename_i a s
        refine hi n _ _ _ _ rfl hF (ec_after hM hx (px_step_1 hq (px_s1_8 rfl (z := (pc + 1, lc, (Sum.inl (-a) :: s : List ec_V).map ec_v)) ?_)) hl hW)
        show some (pc + 1, lc, Value.int (-(Int32.ofInt a)) :: s.map ec_v) = some (pc + 1, lc, Value.int (Int32.ofInt (-a)) :: s.map ec_v)
        rw [Int32.ofInt_neg]
      · trivial
    · cases hm
  · rename_i hk
    have hk' : k0 = 8 := hk
    subst hk'
    show (match (generalizing := false) st with
      | .inl a :: s => ih L (.inr (.inr (Int32.ofInt a).toInt64) :: s) w F
      | _ => True)
    split at hm
    · rename_i hlen
      subst hlen
      cases hm
      split
      · rename_i a s
        exact hi n _ _ _ _ rfl hF (ec_after hM hx (px_step_1 hq (px_s1_8 rfl (z := (pc + 1, lc, (Sum.inr (Sum.inr (Int32.ofInt a).toInt64) :: s : List ec_V).map ec_v)) rfl)) hl hW)
      · trivial
    · cases hm
  · rename_i hk
    have hk' : k0 = 9 := hk
    subst hk'
    show (match (generalizing := false) st with
      | .inr (.inr x) :: s => ih L (.inl x.toInt32.toInt :: s) w F
      | _ => True)
    split at hm
    · rename_i hlen
      subst hlen
      cases hm
      split
      · rename_i x s
        refine hi n _ _ _ _ rfl hF (ec_after hM hx (px_step_1 hq (px_s1_8 rfl (z := (pc + 1, lc, (Sum.inl x.toInt32.toInt :: s : List ec_V).map ec_v)) ?_)) hl hW)
        show some (pc + 1, lc, Value.int x.toInt32 :: s.map ec_v) = some (pc + 1, lc, Value.int (Int32.ofInt x.toInt32.toInt) :: s.map ec_v)
        rw [Int32.ofInt_toInt]
      · trivial
    · cases hm
  · rename_i hk
    have hk' : k0 = 10 := hk
    subst hk'
    show (match (generalizing := false) st with
      | .inr (.inr y) :: .inr (.inr x) :: s => ih L (.inr (.inr (x &&& y)) :: s) w F
      | _ => True)
    split at hm
    · rename_i hlen
      subst hlen
      cases hm
      split
      · rename_i y x s
        exact hi n _ _ _ _ rfl hF (ec_after hM hx (px_step_1 hq (px_s1_9 rfl (z := (pc + 1, lc, (Sum.inr (Sum.inr (x &&& y)) :: s : List ec_V).map ec_v)) rfl)) hl hW)
      · trivial
    · cases hm
  · rename_i hk
    have hk' : k0 = 11 := hk
    subst hk'
    show (match (generalizing := false) st with
      | .inr (.inr y) :: .inr (.inr x) :: s => ih L (.inr (.inr (x ||| y)) :: s) w F
      | _ => True)
    split at hm
    · rename_i hlen
      subst hlen
      cases hm
      split
      · rename_i y x s
        exact hi n _ _ _ _ rfl hF (ec_after hM hx (px_step_1 hq (px_s1_9 rfl (z := (pc + 1, lc, (Sum.inr (Sum.inr (x ||| y)) :: s : List ec_V).map ec_v)) rfl)) hl hW)
      · trivial
    · cases hm
  · rename_i hk
    have hk' : k0 = 12 := hk
    subst hk'
    show (match (generalizing := false) st with
      | .inl y :: .inr (.inr x) :: s => ih L (.inr (.inr (x <<< ((Int32.ofInt y).toInt64 &&& 63))) :: s) w F
      | _ => True)
    split at hm
    · rename_i hlen
      subst hlen
      cases hm
      split
      · rename_i y x s
        exact hi n _ _ _ _ rfl hF (ec_after hM hx (px_step_1 hq (px_s1_9 rfl (z := (pc + 1, lc, (Sum.inr (Sum.inr (x <<< ((Int32.ofInt y).toInt64 &&& 63))) :: s : List ec_V).map ec_v)) rfl)) hl hW)
      · trivial
    · cases hm
  · rename_i hk
    have hk' : k0 = 13 := hk
    subst hk'
    show (match (generalizing := false) st with
      | .inl y :: .inr (.inr x) :: s => ih L (.inr (.inr (x >>> ((Int32.ofInt y).toInt64 &&& 63))) :: s) w F
      | _ => True)
    split at hm
    · rename_i hlen
      subst hlen
      cases hm
      split
      · rename_i y x s
        exact hi n _ _ _ _ rfl hF (ec_after hM hx (px_step_1 hq (px_s1_9 rfl (z := (pc + 1, lc, (Sum.inr (Sum.inr (x >>> ((Int32.ofInt y).toInt64 &&& 63))) :: s : List ec_V).map ec_v)) rfl)) hl hW)
      · trivial
    · cases hm
  · rename_i x
    split at hm
    · rename_i q hlq
      split at hm
      · rename_i hc
        cases hm
        obtain ⟨hlen, hc⟩ := hc
        have hq6 : q.1 ≠ 6 := by omega
        have hq4 : ¬ (q.1 = 1 ∨ q.1 = 4) := by omega
        have h3 : ∀ st : List Value, px_s3 (.invokestatic x) len d M.2.2 st w = none := by
          intro st
          unfold px_s3
          split
          · rename_i e
            cases e
            split
            · rw [hlq]
              split
              · rename_i hq0 _ _
                cases hq0
                rw [if_neg (fun e => hq6 e.1)]
              · rfl
            · rfl
          · rename_i e
            cases e
          · rfl
        have h4 : ∀ st : List Value, px_s4 X.1 X.2.2.1 (.invokestatic x) len M.2.2 st w = none := by
          intro st
          show (if len = 3 then (px_look M.2.2.2.1 x).bind _ else none) = none
          rw [if_pos hlen, hlq]
          show (X.2.2.1[q.2]?).bind _ = none
          cases X.2.2.1[q.2]? with
          | none => rfl
          | some M1 => exact if_neg (fun e => hq4 e.1)
        have hz1 := hz
        rw [ec_only3 hq (Nat.le_refl 2), h3, h4] at hz1
        have hz2 : ∃ s6, px_s6 (.invokestatic x) len d M.2.2 (st.map ec_v) = some s6 ∧ z = .inl (pc + 3, lc, s6, w, 0, 0) := by
          cases h6 : px_s6 (.invokestatic x) len d M.2.2 (st.map ec_v) with
          | none =>
            rw [h6] at hz1
            cases hz1
          | some s6 =>
            rw [h6] at hz1
            cases hz1
            exact ⟨s6, rfl, rfl⟩
        obtain ⟨s6, h6, rfl⟩ := hz2
        unfold px_s6 at h6
        try dsimp only at h6
        split at h6
        · rw [hlq] at h6
          have h6' : (match (st.map ec_v : List Value) with
            | .int y :: r => if q.1 = 10 then (if (r.map (fun v => v.category)).sum ≤ 8 then some (.int (if 0 ≤ y then y else 0 - y) :: r) else none) else (match r with
              | .int x :: r2 => if (r2.map (fun v => v.category)).sum ≤ 8 then (if q.1 = 8 then some (.int (if x < y then y else x) :: r2) else if q.1 = 9 then some (.int (if y < x then y else x) :: r2) else none) else none
              | _ => none)
            | _ => none) = some s6 := h6
          rcases hc with ⟨hk8, hq8⟩ | ⟨hk9, hq9⟩ | ⟨hk10, hq10⟩
          · have hk' : k0 = 5 := hk8
            subst hk'
            show (match (generalizing := false) st with
              | .inl b :: .inl a :: s => ih L (.inl (ec_mx a b) :: s) w F
              | _ => True)
            split
            · rename_i y x' s
              refine hi n _ _ _ _ rfl hF (ec_after (st' := .inl (ec_mx x' y) :: s) hM hx (hz.trans ?_) hl hW)
              dsimp only [List.map, ec_v] at h6'
              rw [if_neg (by omega), if_pos hq8] at h6'
              split at h6'
              · cases h6'
                unfold ec_mx
                show some (Sum.inl (pc + 3, lc, Value.int (if Int32.ofInt x' < Int32.ofInt y then Int32.ofInt y else Int32.ofInt x') :: s.map ec_v, w, 0, 0)) = some (Sum.inl (pc + 3, lc, Value.int (Int32.ofInt (if ec_tw x' < ec_tw y then y else x')) :: s.map ec_v, w, 0, 0))
                by_cases hlt : ec_tw x' < ec_tw y
                · rw [if_pos hlt, if_pos (Int32.lt_iff_toInt_lt.mpr hlt)]
                · rw [if_neg hlt, if_neg (fun e => hlt (Int32.lt_iff_toInt_lt.mp e))]
              · cases h6'
            · trivial
          · have hk' : k0 = 6 := hk9
            subst hk'
            show (match (generalizing := false) st with
              | .inl b :: .inl a :: s => ih L (.inl (ec_mn a b) :: s) w F
              | _ => True)
            split
            · rename_i y x' s
              refine hi n _ _ _ _ rfl hF (ec_after (st' := .inl (ec_mn x' y) :: s) hM hx (hz.trans ?_) hl hW)
              dsimp only [List.map, ec_v] at h6'
              rw [if_neg (show ¬ q.1 = 10 by omega), if_neg (show ¬ q.1 = 8 by omega), if_pos hq9] at h6'
              split at h6'
              · cases h6'
                unfold ec_mn
                show some (Sum.inl (pc + 3, lc, Value.int (if Int32.ofInt y < Int32.ofInt x' then Int32.ofInt y else Int32.ofInt x') :: s.map ec_v, w, 0, 0)) = some (Sum.inl (pc + 3, lc, Value.int (Int32.ofInt (if ec_tw y < ec_tw x' then y else x')) :: s.map ec_v, w, 0, 0))
                by_cases hlt : ec_tw y < ec_tw x'
                · rw [if_pos hlt, if_pos (Int32.lt_iff_toInt_lt.mpr hlt)]
                · rw [if_neg hlt, if_neg (fun e => hlt (Int32.lt_iff_toInt_lt.mp e))]
              · cases h6'
            · trivial
          · have hk' : k0 = 7 := hk10
            subst hk'
            show (match (generalizing := false) st with
              | .inl a :: s => ih L (.inl (ec_ab a) :: s) w F
              | _ => True)
            split
            · rename_i y s
              refine hi n _ _ _ _ rfl hF (ec_after (st' := .inl (ec_ab y) :: s) hM hx (hz.trans ?_) hl hW)
              dsimp only [List.map, ec_v] at h6'
              rw [if_pos hq10] at h6'
              split at h6'
              · cases h6'
                unfold ec_ab
                show some (Sum.inl (pc + 3, lc, Value.int (if 0 ≤ Int32.ofInt y then Int32.ofInt y else 0 - Int32.ofInt y) :: s.map ec_v, w, 0, 0)) = some (Sum.inl (pc + 3, lc, Value.int (Int32.ofInt (if 0 ≤ ec_tw y then y else 0 - y)) :: s.map ec_v, w, 0, 0))
                have e0 : (0 ≤ Int32.ofInt y) ↔ 0 ≤ ec_tw y := Int32.le_iff_toInt_le
                by_cases hlt : 0 ≤ ec_tw y
                · rw [if_pos hlt, if_pos (e0.mpr hlt)]
                · rw [if_neg hlt, if_neg (fun e => hlt (e0.mp e)), Int32.ofInt_sub]
                  rfl
              · cases h6'
            · trivial
        · cases h6
      · cases hm
    · cases hm
  · cases hm
end EC4

end
