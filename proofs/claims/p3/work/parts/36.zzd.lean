noncomputable section
section EC5
variable {X : ec_X} {n0 j pc pc' : Nat} {L : List (Nat × ec_V)} {st : List ec_V} {w : px_W} {r : Option Value × px_W} {M : px_M} {i : Instr} {len : Nat} {o : ec_O} {ih : ec_I} {F : Prop}
theorem ec_br4 {t : Nat} {st' : List Value} (hq : px_look M.2.1 pc = some (i, len)) (h1 : px_so1 i = 4) (h2 : px_br i pc len (st.map ec_v) = some (t, st')) {lc : List (Nat × Value)} {d : Nat} : px_step X.1 X.2.1 X.2.2.1 d X.2.2.2.2.2 M pc lc (st.map ec_v) w = some (.inl (t, lc, st', w, 0, 0)) := by
  refine px_step_1 hq (px_s1_4 h1 (z := (t, lc, st')) ?_)
  unfold px_a4
  rw [h2]
  rfl
theorem ec_c4_ok (hM : X.2.2.2.1[j]? = some M) (hq : px_look M.2.1 pc = some (i, len)) (hm : ec_m4 pc o i len = some pc') (hF : F) (h : ec_E X n0 j pc L st w r) (hi : ∀ (m : Nat) (L' : List (Nat × ec_V)) (st' : List ec_V) (w' : px_W) (F' : Prop), m + 1 = n0 → F' → ec_E X m j pc' L' st' w' r → ih L' st' w' F') : ec_c4 o ih L st w F := by
  obtain ⟨n, M', lc, d, b, b', z, rfl, hW, hM', hl, hx, hz⟩ := ec_step h
  cases hM.symm.trans hM'
  obtain ⟨c0, k0, x0, y0, c⟩ := o
  unfold ec_m4 at hm
  dsimp only at hm
  split at hm
  · rename_i off
    show ih L st w F
    split at hm
    · rename_i hlen
      refine hi n _ _ _ _ rfl hF (ec_after (st' := st) hM hx (ec_br4 hq rfl ?_) hl hW)
      show (if len = 3 then (px_tgt pc off).map _ else none) = _
      rw [if_pos hlen, hm]
      rfl
    · cases hm
  · rename_i k off
    show (match (generalizing := false) st with
      | .inl a :: s => ec_cd x0 a 0 → ih L s w F
      | _ => True)
    split at hm
    · rename_i hlen
      split at hm
      · rename_i t ht
        split
        · rename_i a s
          intro hc
          obtain ⟨c1, c2⟩ := ec_cd_ok k a 0
          have e0 : px_cnd k (Int32.ofInt a) 0 = px_cnd k (Int32.ofInt a) (Int32.ofInt 0) := rfl
          refine hi n _ _ _ _ rfl hF (ec_after (st' := s) hM hx (ec_br4 hq rfl ?_) hl hW)
          show (if len = 3 then (px_tgt pc off).map (fun t => (if px_cnd k (Int32.ofInt a) 0 = true then t else pc + 3, s.map ec_v)) else none) = _
          rw [if_pos hlen, ht]
          show some (if px_cnd k (Int32.ofInt a) 0 = true then t else pc + 3, s.map ec_v) = some (pc', s.map ec_v)
          rw [e0]
          split at hm
          · split at hm
            · rename_i hcode
              cases hm
              rw [hcode] at hc
              rw [if_pos (c1.mpr hc)]
            · cases hm
          · split at hm
            · rename_i hcode
              cases hm
              rw [hcode] at hc
              rw [if_neg (fun e => c2.mp hc (c1.mp e))]
            · cases hm
        · trivial
      · cases hm
    · cases hm
  · rename_i k off
    show (match (generalizing := false) st with
      | .inl b :: .inl a :: s => ec_cd x0 a b → ih L s w F
      | _ => True)
    split at hm
    · rename_i hlen
      split at hm
      · rename_i t ht
        split
        · rename_i y a s
          intro hc
          obtain ⟨c1, c2⟩ := ec_cd_ok k a y
          refine hi n _ _ _ _ rfl hF (ec_after (st' := s) hM hx (ec_br4 hq rfl ?_) hl hW)
          show (if len = 3 then (px_tgt pc off).map (fun t => (if px_cnd k (Int32.ofInt a) (Int32.ofInt y) = true then t else pc + 3, s.map ec_v)) else none) = _
          rw [if_pos hlen, ht]
          show some (if px_cnd k (Int32.ofInt a) (Int32.ofInt y) = true then t else pc + 3, s.map ec_v) = some (pc', s.map ec_v)
          split at hm
          · split at hm
            · rename_i hcode
              cases hm
              rw [hcode] at hc
              rw [if_pos (c1.mpr hc)]
            · cases hm
          · split at hm
            · rename_i hcode
              cases hm
              rw [hcode] at hc
              rw [if_neg (fun e => c2.mp hc (c1.mp e))]
            · cases hm
        · trivial
      · cases hm
    · cases hm
  · rename_i df lo hi' offs
    show (match (generalizing := false) st with
      | .inl a :: s => ec_tw a = c → ih L s w F
      | _ => True)
    split at hm
    · rename_i hc
      split at hm
      · rename_i f hf
        split
        · rename_i a s
          intro ha
          refine hi n _ _ _ _ rfl hF (ec_after (st' := s) hM hx (ec_br4 hq rfl ?_) hl hW)
          have ha' : (Int32.ofInt a).toInt = c := ha
          show (if (Int32.ofInt a).toInt < lo ∨ hi' < (Int32.ofInt a).toInt then (px_tgt pc df).map (fun t => (t, s.map ec_v)) else (offs[((Int32.ofInt a).toInt - lo).toNat]?.bind (fun o => px_tgt pc o)).map (fun t => (t, s.map ec_v))) = some (pc', s.map ec_v)
          rw [ha', if_neg (by omega), hf]
          show (px_tgt pc f).map _ = _
          rw [hm]
          rfl
        · trivial
      · cases hm
    · cases hm
  · rename_i df lo hi' offs
    show (match (generalizing := false) st with
      | .inl a :: s => (ec_tw a < c ∨ c + x0 < ec_tw a) → ih L s w F
      | _ => True)
    split at hm
    · rename_i hc
      split
      · rename_i a s
        intro ha
        refine hi n _ _ _ _ rfl hF (ec_after (st' := s) hM hx (ec_br4 hq rfl ?_) hl hW)
        have ha' : (Int32.ofInt a).toInt < c ∨ c + x0 < (Int32.ofInt a).toInt := ha
        show (if (Int32.ofInt a).toInt < lo ∨ hi' < (Int32.ofInt a).toInt then (px_tgt pc df).map (fun t => (t, s.map ec_v)) else (offs[((Int32.ofInt a).toInt - lo).toNat]?.bind (fun o => px_tgt pc o)).map (fun t => (t, s.map ec_v))) = some (pc', s.map ec_v)
        rw [if_pos (by omega), hm]
        rfl
      · trivial
    · cases hm
  · cases hm
theorem ec_ixw {a : Int} {l : Nat} (h : px_ix (Int32.ofInt a) l = true) : 0 ≤ ec_tw a ∧ ec_tw a < (l : Int) := by
  have h1 := (px_ix_in h).2
  unfold px_ix at h
  simp only [Bool.and_eq_true, Bool.not_eq_true', decide_eq_false_iff_not] at h
  have h2 : ¬ (Int32.ofInt a) < 0 := h.1
  rw [Int32.lt_iff_toInt_lt] at h2
  have h3 : ¬ ec_tw a < 0 := h2
  have h4 : (ec_tw a).toNat < l := h1
  omega
theorem ec_c5_ok (hM : X.2.2.2.1[j]? = some M) (hq : px_look M.2.1 pc = some (i, len)) (hm : ec_m5 X.2.2.2.2.1 M pc o i len = some pc') (hF : F) (h : ec_E X n0 j pc L st w r) (hi : ∀ (m : Nat) (L' : List (Nat × ec_V)) (st' : List ec_V) (w' : px_W) (F' : Prop), m + 1 = n0 → F' → ec_E X m j pc' L' st' w' r → ih L' st' w' F') : ec_c5 X.2.2.2.2.2 o ih L st w F := by
  obtain ⟨n, M', lc, d, b0, b', z, rfl, hW, hM', hl, hx, hz⟩ := ec_step h
  cases hM.symm.trans hM'
  obtain ⟨c0, k0, x0, y0, c⟩ := o
  unfold ec_m5 at hm
  dsimp only at hm
  split at hm
  · rename_i x
    show (match (generalizing := false) st with
      | .inr (.inl b) :: s => cond (Nat.beq b (64 + x0)) (ih L (.inl (ec_fd w x0 y0) :: s) w F) True
      | _ => True)
    split at hm
    · rename_i q ci sl hlq hA
      split at hm
      · rename_i rg hsl
        split at hm
        · rename_i hc
          obtain ⟨rfl, hc1, hc2⟩ := hc
          cases hm
          split
          · rename_i b s
            cases hb : Nat.beq b (64 + x0) with
            | false => trivial
            | true =>
              have hbe := Nat.eq_of_beq_eq_true hb
              subst hbe
              obtain ⟨ob, ho, e1, e2, e3, e4⟩ := ec_W_obj hW hA
              obtain ⟨v, hv⟩ := e3 _ _ hsl
              have hfd : Int32.ofInt (ec_fd w x0 y0) = v := by
                unfold ec_fd
                rw [ho]
                try dsimp only
                rw [hv]
                exact Int32.ofInt_toInt v
              refine hi n _ _ _ _ rfl hF (ec_after (st' := .inl (ec_fd w x0 y0) :: s) hM hx (px_step_2 (z := (Value.int v :: s.map ec_v, w, 0, 0)) hq rfl ?_ |>.trans ?_) hl hW)
              · show (if 3 = 3 ∧ 64 ≤ 64 + x0 then (match px_look M.2.2.1 x, w[64 + x0 - 64]? with
                  | some q, some (.inr (.inr o)) => if q.1 = o.1 then (o.2[q.2]?).map (fun v => (v :: s.map ec_v, w, 0, 0)) else none
                  | _, _ => none) else _) = _
                rw [if_pos ⟨rfl, Nat.le_add_right _ _⟩, Nat.add_sub_cancel_left, hlq, ho]
                try dsimp only
                rw [if_pos (hc1.trans e1.symm), hc2, hv]
                rfl
              · show some (Sum.inl (pc + 3, lc, Value.int v :: s.map ec_v, w, 0, 0)) = some (Sum.inl (pc + 3, lc, Value.int (Int32.ofInt (ec_fd w x0 y0)) :: s.map ec_v, w, 0, 0))
                rw [hfd]
          · trivial
        · cases hm
      · cases hm
    · cases hm
  · rename_i x
    show (match (generalizing := false) st with
      | .inr (.inl b) :: s => cond (Nat.beq b (64 + x0)) (ih L (.inr (.inl y0) :: s) w F) True
      | _ => True)
    split at hm
    · rename_i q ci sl hlq hA
      split at hm
      · rename_i bb hsl
        split at hm
        · rename_i hc
          obtain ⟨rfl, hc1, hby⟩ := hc
          subst hby
          cases hm
          split
          · rename_i b s
            cases hb : Nat.beq b (64 + x0) with
            | false => trivial
            | true =>
              have hbe := Nat.eq_of_beq_eq_true hb
              subst hbe
              obtain ⟨ob, ho, e1, e2, e3, e4⟩ := ec_W_obj hW hA
              have hv := e4 _ _ hsl
              refine hi n _ _ _ _ rfl hF (ec_after (st' := .inr (.inl bb) :: s) hM hx (px_step_2 (z := (Value.ref bb :: s.map ec_v, w, 0, 0)) hq rfl ?_) hl hW)
              show (if 3 = 3 ∧ 64 ≤ 64 + x0 then (match px_look M.2.2.1 x, w[64 + x0 - 64]? with
                  | some q, some (.inr (.inr o)) => if q.1 = o.1 then (o.2[q.2]?).map (fun v => (v :: s.map ec_v, w, 0, 0)) else none
                  | _, _ => none) else _) = _
              rw [if_pos ⟨rfl, Nat.le_add_right _ _⟩, Nat.add_sub_cancel_left, hlq, ho]
              try dsimp only
              rw [if_pos (hc1.trans e1.symm), hv]
              rfl
          · trivial
        · cases hm
      · cases hm
    · cases hm
  · skip
    show (match (generalizing := false) st with
      | .inl i :: .inr (.inl b) :: s => cond (Nat.beq b (64 + x0)) (ih L (.inl (ec_rd w x0 (ec_tw i)) :: s) w (F ∧ 0 ≤ ec_tw i ∧ ec_tw i < c)) True
      | _ => True)
    split at hm
    · rename_i n' sg hA
      split at hm
      · rename_i hc
        obtain ⟨rfl, hc⟩ := hc
        cases hm
        split
        · rename_i a b s
          cases hb : Nat.beq b (64 + x0) with
          | false => trivial
          | true =>
            have hbe := Nat.eq_of_beq_eq_true hb
            subst hbe
            obtain ⟨l, hlw, hn⟩ := ec_W_row hW hA
            have hs2 : px_s2 X.1 X.2.1 .iaload 1 X.2.2.2.2.2 M.1.1.name M.1.1.cls M.2.2 (.int (Int32.ofInt a) :: .ref (64 + x0) :: s.map ec_v) w = if px_ix (Int32.ofInt a) l.length = true then some (Value.int (l.getD (Int32.ofInt a).toNatClampNeg 0) :: s.map ec_v, w, 0, 0) else none := by
              show (if 1 = 1 then (if 64 + x0 = 0 then _ else if 64 ≤ 64 + x0 then (match w[64 + x0 - 64]? with
                | some (.inl l) => if px_ix (Int32.ofInt a) l.length = true then some (Value.int (l.getD (Int32.ofInt a).toNatClampNeg 0) :: s.map ec_v, w, 0, 0) else none
                | _ => none) else none) else none) = _
              rw [if_pos rfl, if_neg (by omega), if_pos (Nat.le_add_right _ _), Nat.add_sub_cancel_left, hlw]
            have hz1 : px_step X.1 X.2.1 X.2.2.1 d X.2.2.2.2.2 M pc lc (.int (Int32.ofInt a) :: .ref (64 + x0) :: s.map ec_v) w = some z := hz
            rw [ec_only2 hq rfl rfl, hs2] at hz1
            split at hz1
            · rename_i hix
              have hin := ec_ixw hix
              rw [hn, hc] at hin
              have hrd : Int32.ofInt (ec_rd w x0 (ec_tw a)) = l.getD (Int32.ofInt a).toNatClampNeg 0 := by
                unfold ec_rd
                rw [hlw]
                exact Int32.ofInt_toInt _
              refine hi n _ _ _ _ rfl ⟨hF, hin⟩ (ec_after (st' := .inl (ec_rd w x0 (ec_tw a)) :: s) hM hx (hz.trans (hz1.symm.trans ?_)) hl hW)
              show some (Sum.inl (pc + 1, lc, Value.int (l.getD (Int32.ofInt a).toNatClampNeg 0) :: s.map ec_v, w, 0, 0)) = some (Sum.inl (pc + 1, lc, Value.int (Int32.ofInt (ec_rd w x0 (ec_tw a))) :: s.map ec_v, w, 0, 0))
              rw [hrd]
            · cases hz1
        · trivial
      · cases hm
    · cases hm
  · skip
    show (match (generalizing := false) st with
      | .inl z :: .inl i :: .inr (.inl b) :: s => cond (Nat.beq b (64 + x0)) (ih L s (ec_wr w x0 (ec_tw i) z) (F ∧ 0 ≤ ec_tw i ∧ ec_tw i < c)) True
      | _ => True)
    split at hm
    · rename_i n' sg hA
      split at hm
      · rename_i hc
        obtain ⟨rfl, hc⟩ := hc
        cases hm
        split
        · rename_i y a b s
          cases hb : Nat.beq b (64 + x0) with
          | false => trivial
          | true =>
            have hbe := Nat.eq_of_beq_eq_true hb
            subst hbe
            obtain ⟨l, hlw, hn⟩ := ec_W_row hW hA
            have hs2 : px_s2 X.1 X.2.1 .iastore 1 X.2.2.2.2.2 M.1.1.name M.1.1.cls M.2.2 (.int (Int32.ofInt y) :: .int (Int32.ofInt a) :: .ref (64 + x0) :: s.map ec_v) w = if px_ix (Int32.ofInt a) l.length = true then some (s.map ec_v, w.set x0 (.inl (l.set (Int32.ofInt a).toNatClampNeg (Int32.ofInt y))), 0, 0) else none := by
              show (if 1 = 1 ∧ 64 ≤ 64 + x0 then (match w[64 + x0 - 64]? with
                | some (.inl l) => if px_ix (Int32.ofInt a) l.length = true then some (s.map ec_v, w.set (64 + x0 - 64) (.inl (l.set (Int32.ofInt a).toNatClampNeg (Int32.ofInt y))), 0, 0) else none
                | _ => none) else none) = _
              rw [if_pos ⟨rfl, Nat.le_add_right _ _⟩, Nat.add_sub_cancel_left, hlw]
            have hz1 : px_step X.1 X.2.1 X.2.2.1 d X.2.2.2.2.2 M pc lc (.int (Int32.ofInt y) :: .int (Int32.ofInt a) :: .ref (64 + x0) :: s.map ec_v) w = some z := hz
            rw [ec_only2 hq rfl rfl, hs2] at hz1
            split at hz1
            · rename_i hix
              have hin := ec_ixw hix
              rw [hn, hc] at hin
              have hwr : ec_wr w x0 (ec_tw a) y = w.set x0 (.inl (l.set (Int32.ofInt a).toNatClampNeg (Int32.ofInt y))) := by
                unfold ec_wr
                rw [hlw]
                rfl
              refine hi n _ _ _ _ rfl ⟨hF, hin⟩ (ec_after (st' := s) hM hx (hz.trans (hz1.symm.trans ?_)) hl (ec_W_wr hW))
              rw [hwr]
              rfl
            · cases hz1
        · trivial
      · cases hm
    · cases hm
  · rename_i x
    show (match (generalizing := false) st with
      | .inl z :: .inr (.inl b) :: s => cond (Nat.beq b (64 + x0)) (ih L s (ec_pf w x0 y0 z) F) True
      | _ => True)
    split at hm
    · rename_i q ci sl hlq hA
      split at hm
      · rename_i rg hsl
        split at hm
        · rename_i hc
          obtain ⟨rfl, hc1, hc2⟩ := hc
          cases hm
          split
          · rename_i y b s
            cases hb : Nat.beq b (64 + x0) with
            | false => trivial
            | true =>
              have hbe := Nat.eq_of_beq_eq_true hb
              subst hbe
              obtain ⟨ob, ho, e1, e2, e3, e4⟩ := ec_W_obj hW hA
              have hpf : ec_pf w x0 y0 y = w.set x0 (.inr (.inr (ob.1, ob.2.set y0 (.int (Int32.ofInt y))))) := by
                unfold ec_pf
                rw [ho]
              have hz1 : px_step X.1 X.2.1 X.2.2.1 d X.2.2.2.2.2 M pc lc (.int (Int32.ofInt y) :: .ref (64 + x0) :: s.map ec_v) w = some z := hz
              rw [ec_only2 hq rfl rfl] at hz1
              have hs2 : ∀ z2, px_s2 X.1 X.2.1 (.putfield x) 3 X.2.2.2.2.2 M.1.1.name M.1.1.cls M.2.2 (.int (Int32.ofInt y) :: .ref (64 + x0) :: s.map ec_v) w = some z2 → z2 = (s.map ec_v, ec_pf w x0 y0 y, 0, 0) := by
                intro z2 hz2
                have hz3 : (if 3 = 3 ∧ 64 ≤ 64 + x0 then (match px_look M.2.2.1 x, w[64 + x0 - 64]? with
                  | some q, some (.inr (.inr o')) => (match X.1[q.1]? with
                    | some k => if q.1 = o'.1 ∧ q.2 < o'.2.length ∧ px_fit (px_ty k.2.1 q.2) (.int (Int32.ofInt y)) = true ∧ ((k.2.1 q.2).2.2.2 = true → M.1.1.name = "<init>" ∧ (k.2.1 q.2).1 = M.1.1.cls) then some (s.map ec_v, w.set (64 + x0 - 64) (.inr (.inr (o'.1, o'.2.set q.2 (.int (Int32.ofInt y))))), 0, 0) else none
                    | none => none)
                  | _, _ => none) else none) = some z2 := hz2
                rw [if_pos ⟨rfl, Nat.le_add_right _ _⟩, Nat.add_sub_cancel_left, hlq, ho] at hz3
                dsimp only at hz3
                split at hz3
                · split at hz3
                  · cases hz3
                    rw [hpf, hc2]
                  · cases hz3
                · cases hz3
              cases hs : px_s2 X.1 X.2.1 (.putfield x) 3 X.2.2.2.2.2 M.1.1.name M.1.1.cls M.2.2 (.int (Int32.ofInt y) :: .ref (64 + x0) :: s.map ec_v) w with
              | none =>
                rw [hs] at hz1
                cases hz1
              | some z2 =>
                have hz4 := hs2 z2 hs
                subst hz4
                rw [hs] at hz1
                exact hi n _ _ _ _ rfl hF (ec_after (st' := s) hM hx (hz.trans hz1.symm) hl (ec_W_pf hA hsl hW))
          · trivial
        · cases hm
      · cases hm
    · cases hm
  · skip
    show (match (generalizing := false) st with
      | .inr (.inl b) :: s => cond (Nat.beq b (64 + x0)) (ih L (.inl c :: s) w F) True
      | _ => True)
    split at hm
    · rename_i n' sg hA
      split at hm
      · rename_i hc
        obtain ⟨rfl, hc, hsm⟩ := hc
        cases hm
        split
        · rename_i b s
          cases hb : Nat.beq b (64 + x0) with
          | false => trivial
          | true =>
            have hbe := Nat.eq_of_beq_eq_true hb
            subst hbe
            obtain ⟨l, hlw, hn⟩ := ec_W_row hW hA
            refine hi n _ _ _ _ rfl hF (ec_after (st' := .inl c :: s) hM hx (px_step_2 (z := (Value.int (Int32.ofInt c) :: s.map ec_v, w, 0, 0)) hq rfl ?_) hl hW)
            show (if 1 = 1 then (if 64 + x0 = 0 then _ else if 64 ≤ 64 + x0 then (match w[64 + x0 - 64]? with
                | some (.inl l) => some (Value.int (Int32.ofNat l.length) :: s.map ec_v, w, 0, 0)
                | _ => none) else _) else none) = _
            rw [if_pos rfl, if_neg (by omega), if_pos (Nat.le_add_right _ _), Nat.add_sub_cancel_left, hlw]
            show some (Value.int (Int32.ofNat l.length) :: s.map ec_v, w, 0, 0) = _
            rw [← hc, hn]
            rfl
        · trivial
      · cases hm
    · cases hm
  · rename_i x
    show (match (generalizing := false) st with
      | .inl n :: .inl dp :: .inr (.inl b) :: .inl sp :: .inr (.inl a) :: s => cond (Nat.beq a (64 + x0)) (cond (Nat.beq b (64 + y0)) (ih L s (ec_cp w x0 y0 (ec_tw sp) (ec_tw dp) (ec_tw n)) F) True) True
      | _ => True)
    split at hm
    · rename_i q ca cb hlq hA hB
      split at hm
      · rename_i hc
        obtain ⟨rfl, hc⟩ := hc
        cases hm
        split
        · rename_i y3 y2 b y1 a s
          cases hb : Nat.beq a (64 + x0) with
          | false => trivial
          | true =>
            cases hb2 : Nat.beq b (64 + y0) with
            | false => trivial
            | true =>
              have hbe := Nat.eq_of_beq_eq_true hb
              have hbe2 := Nat.eq_of_beq_eq_true hb2
              subst hbe hbe2
              obtain ⟨n1, sg1⟩ := ca
              obtain ⟨n2, sg2⟩ := cb
              obtain ⟨la, hla, hna⟩ := ec_W_row hW hA
              obtain ⟨lb, hlb, hnb⟩ := ec_W_row hW hB
              have hcp : ec_cp w x0 y0 (ec_tw y1) (ec_tw y2) (ec_tw y3) = w.set y0 (.inl (px_cpy la lb (Int32.ofInt y1).toNatClampNeg (Int32.ofInt y2).toNatClampNeg (Int32.ofInt y3).toNatClampNeg)) := by
                unfold ec_cp
                rw [hla, hlb]
                rfl
              have hz1 : px_step X.1 X.2.1 X.2.2.1 d X.2.2.2.2.2 M pc lc (.int (Int32.ofInt y3) :: .int (Int32.ofInt y2) :: .ref (64 + y0) :: .int (Int32.ofInt y1) :: .ref (64 + x0) :: s.map ec_v) w = some z := hz
              rw [ec_only3 hq (Nat.le_refl 2)] at hz1
              have h6 : px_s6 (.invokestatic x) 3 d M.2.2 (.int (Int32.ofInt y3) :: .int (Int32.ofInt y2) :: .ref (64 + y0) :: .int (Int32.ofInt y1) :: .ref (64 + x0) :: s.map ec_v) = none := by
                unfold px_s6
                try dsimp only
                split
                · rw [hlq]
                  show (if q.1 = 10 then _ else if _ then (if q.1 = 8 then _ else if q.1 = 9 then _ else none) else none) = none
                  rw [if_neg (show ¬ q.1 = 10 by omega), if_neg (show ¬ q.1 = 8 by omega), if_neg (show ¬ q.1 = 9 by omega)]
                  split <;> rfl
                · rfl
              have h4 : ∀ st : List Value, px_s4 X.1 X.2.2.1 (.invokestatic x) 3 M.2.2 st w = none := by
                intro st
                show (if 3 = 3 then (px_look M.2.2.2.1 x).bind _ else none) = none
                rw [if_pos rfl, hlq]
                show (X.2.2.1[q.2]?).bind _ = none
                cases X.2.2.1[q.2]? with
                | none => rfl
                | some M1 => exact if_neg (fun e => by omega)
              rw [h6, h4] at hz1
              have h3 : ∀ z2, px_s3 (.invokestatic x) 3 d M.2.2 (.int (Int32.ofInt y3) :: .int (Int32.ofInt y2) :: .ref (64 + y0) :: .int (Int32.ofInt y1) :: .ref (64 + x0) :: s.map ec_v) w = some z2 → z2 = (s.map ec_v, ec_cp w x0 y0 (ec_tw y1) (ec_tw y2) (ec_tw y3)) ∧ ((Int32.ofInt y1).toNatClampNeg + (Int32.ofInt y3).toNatClampNeg ≤ la.length ∧ (Int32.ofInt y2).toNatClampNeg + (Int32.ofInt y3).toNatClampNeg ≤ lb.length) := by
                intro z2 hz2
                unfold px_s3 at hz2
                dsimp only at hz2
                split at hz2
                · rw [hlq, Nat.add_sub_cancel_left, Nat.add_sub_cancel_left, hla, hlb] at hz2
                  dsimp only at hz2
                  split at hz2
                  · rename_i hcc
                    cases hz2
                    exact ⟨by rw [hcp], hcc.2⟩
                  · cases hz2
                · cases hz2
              cases hs : px_s3 (.invokestatic x) 3 d M.2.2 (.int (Int32.ofInt y3) :: .int (Int32.ofInt y2) :: .ref (64 + y0) :: .int (Int32.ofInt y1) :: .ref (64 + x0) :: s.map ec_v) w with
              | none =>
                rw [hs] at hz1
                cases hz1
              | some z2 =>
                obtain ⟨hz4, h5, h7⟩ := h3 z2 hs
                subst hz4
                rw [hs] at hz1
                refine hi n _ _ _ _ rfl hF (ec_after (st' := s) hM hx (hz.trans hz1.symm) hl ?_)
                show ec_W _ (ec_cp w x0 y0 (ec_tw y1) (ec_tw y2) (ec_tw y3))
                rw [hcp]
                refine ec_W_set hW (fun a ha => ?_)
                rw [hB] at ha
                cases ha
                show (px_cpy la lb _ _ _).length = n2
                unfold px_cpy
                rw [List.length_append, List.length_append, List.length_take, List.length_take, List.length_drop, List.length_drop]
                omega
        · trivial
      · cases hm
    · cases hm
  · show (match (generalizing := false) st, X.2.2.2.2.2 with
      | .inl i :: .inr (.inl b) :: s, some xs => cond (Nat.beq b 0) (ih L (.inl (xs.getD (ec_tw i).toNat 0).toInt :: s) w (F ∧ 0 ≤ ec_tw i ∧ ec_tw i < (xs.length : Int))) True
      | _, _ => True)
    split at hm
    · rename_i hlen
      subst hlen
      cases hm
      split
      · rename_i st0 sc0 a b s xs hscr
        cases hb : Nat.beq b 0 with
        | false => trivial
        | true =>
          have hbe := Nat.eq_of_beq_eq_true hb
          subst hbe
          have hs2 : px_s2 X.1 X.2.1 .iaload 1 X.2.2.2.2.2 M.1.1.name M.1.1.cls M.2.2 (.int (Int32.ofInt a) :: .ref 0 :: s.map ec_v) w = if px_ix (Int32.ofInt a) xs.length = true then some (Value.int (xs.getD (Int32.ofInt a).toNatClampNeg 0) :: s.map ec_v, w, 0, 0) else none := by
            rw [hscr]
            rfl
          have hz1 : px_step X.1 X.2.1 X.2.2.1 d X.2.2.2.2.2 M pc lc (.int (Int32.ofInt a) :: .ref 0 :: s.map ec_v) w = some z := hz
          rw [ec_only2 hq rfl rfl, hs2] at hz1
          split at hz1
          · rename_i hix
            have hin := ec_ixw hix
            refine hi n _ _ _ _ rfl ⟨hF, hin⟩ (ec_after (st' := .inl (xs.getD (ec_tw a).toNat 0).toInt :: s) hM hx (hz.trans (hz1.symm.trans ?_)) hl hW)
            show some (Sum.inl (pc + 1, lc, Value.int (xs.getD (Int32.ofInt a).toNatClampNeg 0) :: s.map ec_v, w, 0, 0)) = some (Sum.inl (pc + 1, lc, Value.int (Int32.ofInt (xs.getD (ec_tw a).toNat 0).toInt) :: s.map ec_v, w, 0, 0))
            rw [Int32.ofInt_toInt]
            rfl
          · cases hz1
      · trivial
    · cases hm
  · show (match (generalizing := false) st, X.2.2.2.2.2 with
      | .inr (.inl b) :: s, some xs => cond (Nat.beq b 0) (ih L (.inl (xs.length : Int) :: s) w F) True
      | _, _ => True)
    split at hm
    · rename_i hlen
      subst hlen
      cases hm
      split
      · rename_i st0 sc0 b s xs hscr
        cases hb : Nat.beq b 0 with
        | false => trivial
        | true =>
          have hbe := Nat.eq_of_beq_eq_true hb
          subst hbe
          refine hi n _ _ _ _ rfl hF (ec_after (st' := .inl (xs.length : Int) :: s) hM hx (px_step_2 (z := (Value.int (Int32.ofInt (xs.length : Int)) :: s.map ec_v, w, 0, 0)) hq rfl ?_) hl hW)
          rw [hscr]
          rfl
      · trivial
    · cases hm
  · cases hm
end EC5

end
