noncomputable section
/-! ROWS: what needs neither cells nor the pool -/
section PX1
variable {p : Program} {l : Launch} {e : Env} {R : Room} {s : State} {m : MethodId} {args : Array Value} {below : List Frame} {meth : Method} {c : Code} {H : Heap} {locs : List Loc} {cells slots : Nat} {Q : State → Prop}
variable {cc : ByteArray} {pc : Nat} {ls : Array Slot} {rest : List Value}
theorem px_bin_W (hx : p.tables.exec = Jvm.exec) (hb : c.code = cc) {i : Instr} {x y z : Int32} (hd : decode cc pc = .ok (i, 1)) (hz : px_bin i x y = some z)
    (k : W p l e R s m args below meth c H locs cells slots Q (F0 m (pc + 1) ls (.int z :: rest))) : W p l e R s m args below meth c H locs cells slots Q (F0 m pc ls (.int y :: .int x :: rest)) := by
  unfold px_bin at hz
  split at hz
  · cases hz; exact lv_iadd hx hb hd k
  · cases hz; exact lv_isub hx hb hd k
  · cases hz; exact lv_imul hx hb hd k
  · cases hz; exact lv_iand hx hb hd k
  · cases hz; exact lv_ior hx hb hd k
  · cases hz; exact lv_ixor hx hb hd k
  · cases hz; exact lv_ishl hx hb hd k
  · cases hz; exact lv_ishr hx hb hd k
  · cases hz; exact lv_iushr hx hb hd rfl k
  · split at hz
    · cases hz
    · rename_i hne
      cases hz; exact lv_idiv hx hb hd hne k
  · split at hz
    · cases hz
    · rename_i hne
      cases hz; exact lv_irem hx hb hd hne k
  · cases hz
theorem px_un_W (hx : p.tables.exec = Jvm.exec) (hb : c.code = cc) (ad : Nat → Option Nat) {i : Instr} {v z : Value} (hd : decode cc pc = .ok (i, 1)) (hz : px_un i v = some z)
    (k : W p l e R s m args below meth c H locs cells slots Q (F0 m (pc + 1) ls (px_tr ad z :: rest))) : W p l e R s m args below meth c H locs cells slots Q (F0 m pc ls (px_tr ad v :: rest)) := by
  unfold px_un at hz
  split at hz
  · cases hz; exact lv_ineg hx hb hd k
  · cases hz; exact lv_i2l hx hb hd rfl k
  · cases hz; exact lv_i2b hx hb hd rfl k
  · cases hz; exact lv_i2s hx hb hd rfl k
  · cases hz; exact lv_i2c hx hb hd rfl k
  · cases hz; exact lv_l2i hx hb hd rfl k
  · cases hz
theorem px_lb_W (hx : p.tables.exec = Jvm.exec) (hb : c.code = cc) (ad : Nat → Option Nat) {i : Instr} {x z : Int64} {v : Value} (hd : decode cc pc = .ok (i, 1)) (hz : px_lb i x v = some z)
    (k : W p l e R s m args below meth c H locs cells slots Q (F0 m (pc + 1) ls (.long z :: rest))) : W p l e R s m args below meth c H locs cells slots Q (F0 m pc ls (px_tr ad v :: .long x :: rest)) := by
  unfold px_lb at hz
  split at hz
  · cases hz; exact lv_land hx hb hd k
  · cases hz; exact lv_lor hx hb hd k
  · cases hz; exact lv_lshl hx hb hd rfl k
  · cases hz; exact lv_lshr hx hb hd rfl k
  · cases hz
theorem px_cst_W (hx : p.tables.exec = Jvm.exec) (hb : c.code = cc) (ad : Nat → Option Nat) {i : Instr} {q : Value × Nat} (hd : decode cc pc = .ok (i, q.2)) (hz : px_cst i = some q)
    (k : W p l e R s m args below meth c H locs cells slots Q (F0 m (pc + q.2) ls (px_tr ad q.1 :: rest))) : W p l e R s m args below meth c H locs cells slots Q (F0 m pc ls rest) := by
  unfold px_cst at hz
  split at hz
  · cases hz; exact lv_iconst hx hb hd rfl k
  · cases hz; exact lv_bipush hx hb hd rfl k
  · cases hz; exact lv_sipush hx hb hd rfl k
  · cases hz; exact lv_lconst hx hb hd rfl k
  · cases hz
theorem px_so_int {v : Value} (h : px_so v = 0) : ∃ x, v = .int x := by
  cases v with
  | int x => exact ⟨x, rfl⟩
  | _ => simp [px_so] at h
theorem px_so_long {v : Value} (h : px_so v = 1) : ∃ x, v = .long x := by
  cases v with
  | long x => exact ⟨x, rfl⟩
  | _ => simp [px_so] at h
theorem px_so_ref {v : Value} (h : px_so v = 2) : ∃ x, v = .ref x := by
  cases v with
  | ref x => exact ⟨x, rfl⟩
  | _ => simp [px_so] at h
theorem px_ld_W (hx : p.tables.exec = Jvm.exec) (hb : c.code = cc) (ad : Nat → Option Nat) {i : Instr} {q : Nat × Nat × Nat} {v : Value} (hd : decode cc pc = .ok (i, q.2.1)) (hz : px_ld i = some q) (hv : px_so v = q.2.2) (hl : ls[q.1]? = some (.val (px_tr ad v)))
    (k : W p l e R s m args below meth c H locs cells slots Q (F0 m (pc + q.2.1) ls (px_tr ad v :: rest))) : W p l e R s m args below meth c H locs cells slots Q (F0 m pc ls rest) := by
  unfold px_ld at hz
  split at hz
  · cases hz
    obtain ⟨x, rfl⟩ := px_so_int hv
    exact lv_iload_n hx hb hd rfl hl k
  · cases hz
    obtain ⟨x, rfl⟩ := px_so_int hv
    exact lv_iload hx hb hd hl k
  · cases hz
    obtain ⟨x, rfl⟩ := px_so_long hv
    exact lv_lload_n hx hb hd rfl hl k
  · cases hz
    obtain ⟨x, rfl⟩ := px_so_long hv
    exact lv_lload hx hb hd hl k
  · cases hz
    obtain ⟨x, rfl⟩ := px_so_ref hv
    simp only [px_tr] at hl k
    cases hx2 : ad x with
    | none => rw [hx2] at hl k; exact lv_aload_nN hx hb hd rfl hl k
    | some a => rw [hx2] at hl k; exact lv_aload_n hx hb hd rfl hl k
  · cases hz
    obtain ⟨x, rfl⟩ := px_so_ref hv
    simp only [px_tr] at hl k
    cases hx2 : ad x with
    | none => rw [hx2] at hl k; exact lv_aloadN hx hb hd hl k
    | some a => rw [hx2] at hl k; exact lv_aload hx hb hd hl k
  · cases hz
theorem px_st_W (hx : p.tables.exec = Jvm.exec) (hb : c.code = cc) (ad : Nat → Option Nat) {i : Instr} {q : Nat × Nat × Nat} {v : Value} {mx : Nat} {lv : List (Nat × Value)} (hd : decode cc pc = .ok (i, q.2.1)) (hz : px_st i = some q) (hv : px_so v = q.2.2) (hn : q.1 < mx) (hl : lv_has ls mx (px_lv ad lv))
    (k : ∀ ls' : Array Slot, lv_has ls' mx (px_lv ad (px_sto lv q.1 v)) → W p l e R s m args below meth c H locs cells slots Q (F0 m (pc + q.2.1) ls' rest)) : W p l e R s m args below meth c H locs cells slots Q (F0 m pc ls (px_tr ad v :: rest)) := by
  have hs := px_sto_tr ad lv q.1 v
  unfold px_st at hz
  split at hz
  · cases hz
    obtain ⟨x, rfl⟩ := px_so_int hv
    exact lv_istore_n hx hb hd rfl hl hn hs k
  · cases hz
    obtain ⟨x, rfl⟩ := px_so_int hv
    exact lv_istore hx hb hd hl hn hs k
  · cases hz
    obtain ⟨x, rfl⟩ := px_so_ref hv
    have e1 : px_tr ad (.ref x) = va_rf (ad x) := rfl
    rw [e1] at hs ⊢
    cases hx2 : ad x with
    | none => rw [hx2] at hs; exact lv_astore_nN hx hb hd rfl hl hn hs k
    | some a => rw [hx2] at hs; exact lv_astore_n hx hb hd rfl hl hn hs k
  · cases hz
    obtain ⟨x, rfl⟩ := px_so_ref hv
    have e1 : px_tr ad (.ref x) = va_rf (ad x) := rfl
    rw [e1] at hs ⊢
    cases hx2 : ad x with
    | none => rw [hx2] at hs; exact lv_astoreN hx hb hd hl hn hs k
    | some a => rw [hx2] at hs; exact lv_astore hx hb hd hl hn hs k
  · cases hz
theorem px_stk_W (hx : p.tables.exec = Jvm.exec) (hb : c.code = cc) (ad : Nat → Option Nat) {i : Instr} {st r : List Value} (hd : decode cc pc = .ok (i, 1)) (hz : px_stk i st = some r)
    (k : W p l e R s m args below meth c H locs cells slots Q (F0 m (pc + 1) ls (r.map (px_tr ad)))) : W p l e R s m args below meth c H locs cells slots Q (F0 m pc ls (st.map (px_tr ad))) := by
  unfold px_stk at hz
  split at hz
  · split at hz
    · rename_i h1
      cases hz; exact lv_dup hx hb hd ((px_tr_cat ad _).trans h1) k
    · cases hz
  · split at hz
    · rename_i h1
      cases hz; exact lv_pop hx hb hd ((px_tr_cat ad _).trans h1) k
    · cases hz
  · split at hz
    · rename_i h1
      cases hz; exact lv_dup_x1 hx hb hd ((px_tr_cat ad _).trans h1.1) ((px_tr_cat ad _).trans h1.2) k
    · cases hz
  · split at hz
    · rename_i h1
      cases hz; exact lv_dup2_11 hx hb hd ((px_tr_cat ad _).trans h1.1) ((px_tr_cat ad _).trans h1.2) k
    · cases hz
  · cases hz
theorem px_tgt_eq {pc t : Nat} {off : Int} (h : px_tgt pc off = some t) : (pc : Int) + off = (t : Int) := by
  unfold px_tgt at h
  split at h
  · cases h
    omega
  · cases h
theorem px_if_W (hx : p.tables.exec = Jvm.exec) (hb : c.code = cc) {k : Jvm.ClassFile.Cond} {x : Int32} {off : Int} {t : Nat} (hd : decode cc pc = .ok (.ifCond k off, 3)) (ht : (pc : Int) + off = (t : Int))
    (kk : W p l e R s m args below meth c H locs cells slots Q (F0 m (if px_cnd k x 0 = true then t else pc + 3) ls rest)) : W p l e R s m args below meth c H locs cells slots Q (F0 m pc ls (.int x :: rest)) := by
  have kt : px_cnd k x 0 = true → W p l e R s m args below meth c H locs cells slots Q (F0 m t ls rest) := fun h => by rw [if_pos h] at kk; exact kk
  have kf : ¬ px_cnd k x 0 = true → W p l e R s m args below meth c H locs cells slots Q (F0 m (pc + 3) ls rest) := fun h => by rw [if_neg h] at kk; exact kk
  cases k
  · exact lv_if_eq hx hb hd ht (fun h => kt (decide_eq_true h)) (fun h => kf (fun z => h (of_decide_eq_true z)))
  · exact lv_if_ne hx hb hd ht (fun h => kt (decide_eq_true h)) (fun h => kf (fun z => (of_decide_eq_true z : ¬ x = 0) h))
  · exact lv_if_lt hx hb hd ht (fun h => kt (decide_eq_true h)) (fun h => kf (fun z => h (of_decide_eq_true z)))
  · exact lv_if_ge hx hb hd ht (fun h => kt (decide_eq_true h)) (fun h => kf (fun z => h (of_decide_eq_true z)))
  · exact lv_if_gt hx hb hd ht (fun h => kt (decide_eq_true h)) (fun h => kf (fun z => h (of_decide_eq_true z)))
  · exact lv_if_le hx hb hd ht (fun h => kt (decide_eq_true h)) (fun h => kf (fun z => h (of_decide_eq_true z)))
theorem px_icmp_W (hx : p.tables.exec = Jvm.exec) (hb : c.code = cc) {k : Jvm.ClassFile.Cond} {x y : Int32} {off : Int} {t : Nat} (hd : decode cc pc = .ok (.if_icmp k off, 3)) (ht : (pc : Int) + off = (t : Int))
    (kk : W p l e R s m args below meth c H locs cells slots Q (F0 m (if px_cnd k x y = true then t else pc + 3) ls rest)) : W p l e R s m args below meth c H locs cells slots Q (F0 m pc ls (.int y :: .int x :: rest)) := by
  have kt : px_cnd k x y = true → W p l e R s m args below meth c H locs cells slots Q (F0 m t ls rest) := fun h => by rw [if_pos h] at kk; exact kk
  have kf : ¬ px_cnd k x y = true → W p l e R s m args below meth c H locs cells slots Q (F0 m (pc + 3) ls rest) := fun h => by rw [if_neg h] at kk; exact kk
  cases k
  · exact lv_icmp_eq hx hb hd ht (fun h => kt (decide_eq_true h)) (fun h => kf (fun z => h (of_decide_eq_true z)))
  · exact lv_icmp_ne hx hb hd ht (fun h => kt (decide_eq_true h)) (fun h => kf (fun z => (of_decide_eq_true z : ¬ x = y) h))
  · exact lv_icmp_lt hx hb hd ht (fun h => kt (decide_eq_true h)) (fun h => kf (fun z => h (of_decide_eq_true z)))
  · exact lv_icmp_ge hx hb hd ht (fun h => kt (decide_eq_true h)) (fun h => kf (fun z => h (of_decide_eq_true z)))
  · exact lv_icmp_gt hx hb hd ht (fun h => kt (decide_eq_true h)) (fun h => kf (fun z => h (of_decide_eq_true z)))
  · exact lv_icmp_le hx hb hd ht (fun h => kt (decide_eq_true h)) (fun h => kf (fun z => h (of_decide_eq_true z)))
theorem px_br_W (hx : p.tables.exec = Jvm.exec) (hb : c.code = cc) (ad : Nat → Option Nat) {i : Instr} {len : Nat} {st : List Value} {q : Nat × List Value} (hd : decode cc pc = .ok (i, len)) (hz : px_br i pc len st = some q)
    (k : W p l e R s m args below meth c H locs cells slots Q (F0 m q.1 ls (q.2.map (px_tr ad)))) : W p l e R s m args below meth c H locs cells slots Q (F0 m pc ls (st.map (px_tr ad))) := by
  unfold px_br at hz
  split at hz
  · split at hz
    · rename_i hl
      subst hl
      obtain ⟨t, ht, hq⟩ := Option.map_eq_some_iff.mp hz
      subst hq
      exact lv_goto hx hb hd (px_tgt_eq ht) k
    · cases hz
  · split at hz
    · rename_i hl
      subst hl
      obtain ⟨t, ht, hq⟩ := Option.map_eq_some_iff.mp hz
      subst hq
      exact px_if_W hx hb hd (px_tgt_eq ht) k
    · cases hz
  · split at hz
    · rename_i hl
      subst hl
      obtain ⟨t, ht, hq⟩ := Option.map_eq_some_iff.mp hz
      subst hq
      exact px_icmp_W hx hb hd (px_tgt_eq ht) k
    · cases hz
  · split at hz
    · rename_i hc
      obtain ⟨t, ht, hq⟩ := Option.map_eq_some_iff.mp hz
      subst hq
      exact lv_tableOut hx hb hd hc (px_tgt_eq ht) k
    · rename_i hc
      obtain ⟨t, ht, hq⟩ := Option.map_eq_some_iff.mp hz
      subst hq
      obtain ⟨o, ho, ht⟩ := Option.bind_eq_some_iff.mp ht
      exact lv_tableIn hx hb hd (fun z => hc (Or.inl z)) (fun z => hc (Or.inr z)) ho (px_tgt_eq ht) k
  · cases hz
theorem px_W1 (hx : p.tables.exec = Jvm.exec) (hb : c.code = cc) (ad : Nat → Option Nat) {i : Instr} {len mx : Nat} {lv : List (Nat × Value)} {st : List Value} {z : Nat × List (Nat × Value) × List Value} (hd : decode cc pc = .ok (i, len)) (hz : px_s1 i len pc mx lv st = some z) (hl : lv_has ls mx (px_lv ad lv))
    (k : ∀ ls' : Array Slot, lv_has ls' mx (px_lv ad z.2.1) → W p l e R s m args below meth c H locs cells slots Q (F0 m z.1 ls' (z.2.2.map (px_tr ad)))) : W p l e R s m args below meth c H locs cells slots Q (F0 m pc ls (st.map (px_tr ad))) := by
  have hat : ∀ (j : Nat) (v : Value), px_look lv j = some v → (j, px_tr ad v) ∈ px_lv ad lv := fun j v h => List.mem_map.mpr ⟨(j, v), px_look_mem h, rfl⟩
  unfold px_s1 at hz
  have hz1 := px_or_some hz
  clear hz
  rcases hz1 with h | hz
  · split at h
    · split at h
      · rename_i hl1
        rw [hl1] at hd
        obtain ⟨t, ht, hq⟩ := Option.map_eq_some_iff.mp h
        subst hq
        exact px_bin_W hx hb hd ht (k ls hl)
      · cases h
    · cases h
  have hz1 := px_or_some hz
  clear hz
  rcases hz1 with h | hz
  · obtain ⟨q, hq, h⟩ := Option.bind_eq_some_iff.mp h
    obtain ⟨v, hv, h⟩ := Option.bind_eq_some_iff.mp h
    split at h
    · rename_i hc
      cases h
      rw [hc.1] at hd k
      exact px_ld_W hx hb ad hd hq hc.2 (hl.2.2 _ (hat _ _ hv)) (k ls hl)
    · cases h
  have hz1 := px_or_some hz
  clear hz
  rcases hz1 with h | hz
  · obtain ⟨q, hq, h⟩ := Option.bind_eq_some_iff.mp h
    split at h
    · rename_i hc
      cases h
      rw [hc] at hd k
      exact px_cst_W hx hb ad hd hq (k ls hl)
    · cases h
  have hz1 := px_or_some hz
  clear hz
  rcases hz1 with h | hz
  · obtain ⟨q, hq, h⟩ := Option.map_eq_some_iff.mp h
    subst h
    exact px_br_W hx hb ad hd hq (k ls hl)
  have hz1 := px_or_some hz
  clear hz
  rcases hz1 with h | hz
  · split at h
    · obtain ⟨q, hq, h⟩ := Option.bind_eq_some_iff.mp h
      split at h
      · rename_i hc
        cases h
        rw [hc.1] at hd k
        exact px_st_W hx hb ad hd hq hc.2.1 hc.2.2 hl k
      · cases h
    · cases h
  have hz1 := px_or_some hz
  clear hz
  rcases hz1 with h | hz
  · split at h
    · obtain ⟨v, hv, h⟩ := Option.bind_eq_some_iff.mp h
      split at h
      · split at h
        · rename_i hc
          cases h
          rw [hc.1] at hd
          obtain ⟨j, hj⟩ := List.getElem?_of_mem (hat _ _ hv)
          exact lv_iinc hx hb hd hl hj rfl hc.2 (px_sto_tr ad lv _ (.int _)) k
        · cases h
      · cases h
    · cases h
  have hz1 := px_or_some hz
  clear hz
  rcases hz1 with h | hz
  · split at h
    · rename_i hc
      rw [hc] at hd
      obtain ⟨q, hq, h2⟩ := Option.map_eq_some_iff.mp h
      clear h
      subst h2
      exact px_stk_W hx hb ad hd hq (k ls hl)
    · cases h
  have hz1 := px_or_some hz
  clear hz
  rcases hz1 with h | h
  · split at h
    · split at h
      · rename_i hc
        rw [hc] at hd
        obtain ⟨q, hq, h2⟩ := Option.map_eq_some_iff.mp h
        clear h
        subst h2
        exact px_un_W hx hb ad hd hq (k ls hl)
      · cases h
    · cases h
  · split at h
    · split at h
      · rename_i hc
        rw [hc] at hd
        obtain ⟨q, hq, h2⟩ := Option.map_eq_some_iff.mp h
        clear h
        subst h2
        exact px_lb_W hx hb ad hd hq (k ls hl)
      · cases h
    · cases h
end PX1

end
