noncomputable section
/-! READING CELLS -/
theorem px_ix_of {z : Int} {n : Nat} (h0 : 0 ≤ z) (h1 : z < (n : Int)) (hn : n ≤ 2147483647) : px_ix (Int32.ofInt z) n = true ∧ (Int32.ofInt z).toNatClampNeg = z.toNat := by
  have e1 : (Int32.ofInt z).toInt = z := Int32.toInt_ofInt_of_le (by omega) (by omega)
  have e2 : (Int32.ofInt z).toNatClampNeg = z.toNat := Int32.toNatClampNeg_ofInt_of_le (by omega) (by omega)
  refine ⟨?_, e2⟩
  unfold px_ix
  rw [Bool.and_eq_true]
  refine ⟨?_, ?_⟩
  · have h2 : ¬ Int32.ofInt z < 0 := by
      intro q
      have := Int32.lt_iff_toInt_lt.mp q
      rw [e1] at this
      have h3 : (0 : Int32).toInt = 0 := rfl
      omega
    simp [h2]
  · rw [e2]
    exact decide_eq_true (by omega)
/-- where a form may lie: start, step, how many steps -/
def sy_pr (R : sy_T) (e : sy_L) : Option (Int × Int × Nat) := match e.2 with
  | [] => some (e.1, 1, 0)
  | [(i, c)] => (qx_nth R i).map (fun p => (qi_add e.1 (qi_mul c p.1), c, (p.2 - p.1).toNat))
  | _ => (sy_b R e).map (fun p => (p.1, 1, (p.2 - p.1).toNat))
theorem sy_pr_ok {ρ : Nat → Int} {R : sy_T} (h : sy_ok ρ R) {e : sy_L} {z : Int × Int × Nat} (hz : sy_pr R e = some z) : ∃ k : Nat, k ≤ z.2.2 ∧ sy_e ρ e = z.1 + z.2.1 * (k : Int) := by
  unfold sy_pr at hz
  split at hz
  · rename_i hc
    cases hz
    refine ⟨0, Nat.le_refl _, ?_⟩
    rw [sy_e_nil hc]
    simp
  · rename_i i c hc
    obtain ⟨p, hp, rfl⟩ := Option.map_eq_some_iff.mp hz
    rw [qx_nth_ok] at hp
    have h1 := h i p hp
    refine ⟨(ρ i - p.1).toNat, by show _ ≤ (p.2 - p.1).toNat; omega, ?_⟩
    have hev : sy_e ρ e = e.1 + c * ρ i := by
      unfold sy_e
      rw [hc]
      simp [sy_s]
    show sy_e ρ e = qi_add e.1 (qi_mul c p.1) + c * (((ρ i - p.1).toNat : Nat) : Int)
    rw [qi_add_e, qi_mul_e]
    rw [show (((ρ i - p.1).toNat : Nat) : Int) = ρ i - p.1 by omega, Int.mul_sub, hev]
    omega
  · obtain ⟨p, hp, rfl⟩ := Option.map_eq_some_iff.mp hz
    obtain ⟨h1, h2⟩ := sy_b_e h hp
    refine ⟨(sy_e ρ e - p.1).toNat, by show _ ≤ (p.2 - p.1).toNat; omega, ?_⟩
    show sy_e ρ e = p.1 + 1 * (((sy_e ρ e - p.1).toNat : Nat) : Int)
    omega
def sy_jn (sg : sy_Sg) (s c : Int) : Nat → Int × Int
  | 0 => sy_seg sg s.toNat
  | n + 1 => (min (sy_seg sg (s + c * ((n + 1 : Nat) : Int)).toNat).1 (sy_jn sg s c n).1, max (sy_seg sg (s + c * ((n + 1 : Nat) : Int)).toNat).2 (sy_jn sg s c n).2)
theorem sy_jn_ok {sg : sy_Sg} {s c : Int} : ∀ (n k : Nat), k ≤ n → (sy_jn sg s c n).1 ≤ (sy_seg sg (s + c * (k : Int)).toNat).1 ∧ (sy_seg sg (s + c * (k : Int)).toNat).2 ≤ (sy_jn sg s c n).2
  | 0, k, hk => by
    have hk0 : k = 0 := by omega
    subst hk0
    rw [show s + c * ((0 : Nat) : Int) = s by simp]
    exact ⟨Int.le_refl _, Int.le_refl _⟩
  | n + 1, k, hk => by
    unfold sy_jn
    rcases Nat.lt_or_ge n k with h | h
    · have hk1 : k = n + 1 := by omega
      subst hk1
      exact ⟨by show min _ _ ≤ _; omega, by show _ ≤ max _ _; omega⟩
    · have := sy_jn_ok (sg := sg) (s := s) (c := c) n k h
      exact ⟨by show min _ _ ≤ _; omega, by show _ ≤ max _ _; omega⟩
/-- places that have all one range -/
def qy_sgp (sg : sy_Sg) (a c n : Nat) : Option (Int × Int) := List.rec (motive := fun _ => Option (Int × Int)) (some sy_full) (fun g _ ih => cond (Nat.ble g.2.1 a) ih (cond (Nat.ble (Nat.succ (Nat.add a (Nat.mul c n))) g.1) ih (cond (Nat.ble g.1 a) (cond (Nat.ble (Nat.succ (Nat.add a (Nat.mul c n))) g.2.1) (cond (cond (Nat.beq n 0) true (Nat.beq (Nat.mod c g.2.2.length) 0)) (some (g.2.2.getD (Nat.mod (Nat.sub a g.1) g.2.2.length) sy_full)) none) none) none))) sg
theorem qy_sgp_ok {a c n : Nat} {r : Int × Int} : ∀ {sg : sy_Sg}, qy_sgp sg a c n = some r → ∀ k : Nat, k ≤ n → sy_seg sg (a + c * k) = r
  | [], h, k, _ => Option.some.inj h
  | g :: s, h, k, hk => by
    have h0 : cond (Nat.ble g.2.1 a) (qy_sgp s a c n) (cond (Nat.ble (Nat.succ (Nat.add a (Nat.mul c n))) g.1) (qy_sgp s a c n) (cond (Nat.ble g.1 a) (cond (Nat.ble (Nat.succ (Nat.add a (Nat.mul c n))) g.2.1) (cond (cond (Nat.beq n 0) true (Nat.beq (Nat.mod c g.2.2.length) 0)) (some (g.2.2.getD (Nat.mod (Nat.sub a g.1) g.2.2.length) sy_full)) none) none) none)) = some r := h
    have hck : c * k ≤ c * n := Nat.mul_le_mul_left c hk
    unfold sy_seg
    cases h1 : Nat.ble g.2.1 a with
    | true =>
      rw [h1] at h0
      have h2 := Nat.le_of_ble_eq_true h1
      rw [if_neg (by omega)]
      exact qy_sgp_ok h0 k hk
    | false =>
      rw [h1] at h0
      cases h3 : Nat.ble (Nat.succ (Nat.add a (Nat.mul c n))) g.1 with
      | true =>
        rw [h3] at h0
        have h4 : a + c * n + 1 ≤ g.1 := Nat.le_of_ble_eq_true h3
        rw [if_neg (by omega)]
        exact qy_sgp_ok h0 k hk
      | false =>
        rw [h3] at h0
        cases h5 : Nat.ble g.1 a with
        | false =>
          rw [h5] at h0
          cases h0
        | true =>
          rw [h5] at h0
          have h6 := Nat.le_of_ble_eq_true h5
          cases h7 : Nat.ble (Nat.succ (Nat.add a (Nat.mul c n))) g.2.1 with
          | false =>
            rw [h7] at h0
            cases h0
          | true =>
            rw [h7] at h0
            have h8 : a + c * n + 1 ≤ g.2.1 := Nat.le_of_ble_eq_true h7
            rw [if_pos (by omega)]
            cases h9 : cond (Nat.beq n 0) true (Nat.beq (Nat.mod c g.2.2.length) 0) with
            | false =>
              rw [h9] at h0
              cases h0
            | true =>
              rw [h9] at h0
              have h10 : g.2.2.getD ((a - g.1) % g.2.2.length) sy_full = r := Option.some.inj h0
              rw [← h10]
              congr 1
              rcases qx_or h9 with h11 | h11
              · have := Nat.eq_of_beq_eq_true h11
                have hk0 : k = 0 := by omega
                subst hk0
                rw [Nat.mul_zero, Nat.add_zero]
              · have h12 : c % g.2.2.length = 0 := Nat.eq_of_beq_eq_true h11
                have h13 : a + c * k - g.1 = (a - g.1) + c * k := by omega
                rw [h13, Nat.add_mod, Nat.mul_mod, h12, Nat.zero_mul, Nat.zero_mod, Nat.add_zero, Nat.mod_mod]
def qy_sg (sg : sy_Sg) (s c : Int) (n : Nat) : Option (Int × Int) := Int.rec (motive := fun _ => Option (Int × Int)) (fun a => Int.rec (motive := fun _ => Option (Int × Int)) (fun m => qy_sgp sg a m n) (fun _ => none) c) (fun _ => none) s
theorem qy_sg_ok {sg : sy_Sg} {s c : Int} {n : Nat} {r : Int × Int} (h : qy_sg sg s c n = some r) (k : Nat) (hk : k ≤ n) : sy_seg sg (s + c * (k : Int)).toNat = r := by
  match s, c, h with
  | .ofNat a, .ofNat m, h =>
    have h1 := qy_sgp_ok (a := a) (c := m) (n := n) h k hk
    have h2 : (Int.ofNat a + Int.ofNat m * (k : Int)).toNat = a + m * k := by
      show ((a : Int) + (m : Int) * (k : Int)).toNat = _
      rw [← Int.natCast_mul, ← Int.natCast_add, Int.toNat_natCast]
    rw [h2]
    exact h1
  | .ofNat _, .negSucc _, h => cases h
  | .negSucc _, _, h => cases h
/-- the range of what stands at a place -/
def sy_rd (R : sy_T) (sg : sy_Sg) (e : sy_L) : Option (Int × Int) := match sg with
  | [] => some sy_full
  | _ => (sy_pr R e).bind (fun z => cond (Nat.ble z.2.2 3000) (some (match qy_sg sg z.1 z.2.1 z.2.2 with
    | some r => r
    | none => sy_jn sg z.1 z.2.1 z.2.2)) none)
theorem sy_rd_ok {ρ : Nat → Int} {R : sy_T} (h : sy_ok ρ R) {sg : sy_Sg} {e : sy_L} {r : Int × Int} (hr : sy_rd R sg e = some r) {x : Int32} (hx : sy_in (sy_seg sg (sy_e ρ e).toNat) x) : r.1 ≤ x.toInt ∧ x.toInt ≤ r.2 := by
  unfold sy_rd at hr
  split at hr
  · cases hr
    exact sy_full_in x
  · obtain ⟨z, hz, hr2⟩ := Option.bind_eq_some_iff.mp hr
    cases h3 : Nat.ble z.2.2 3000 with
    | false =>
      rw [h3] at hr2
      cases hr2
    | true =>
      rw [h3] at hr2
      have hr3 := Option.some.inj hr2
      obtain ⟨k, hk, he⟩ := sy_pr_ok h hz
      split at hr3
      · rename_i r' hsg
        have h4 := qy_sg_ok hsg k hk
        rw [← he] at h4
        rw [h4, hr3] at hx
        exact hx
      · have := sy_jn_ok (sg := sg) (s := z.1) (c := z.2.1) z.2.2 k hk
        rw [← he, hr3] at this
        unfold sy_in at hx
        omega
section RD
variable {x : sy_X} {q : sy_Q} {S : sy_S} {M : px_M} {i : Instr} {len : Nat}
/-- a new number that stands at a place -/
theorem sy_goFa {rg : Int × Int} {pc' k : Nat} {ix : sy_L} {pre r : List sy_A} (hw : sy_wS S = true) (hwi : sy_wl S.1.1.length ix = true) (hM : q.1[S.2.1.1]? = some M) (hst : S.2.1.2.2.2 = pre ++ r)
    (hs : ∀ (ρ : Nat → Int) (τ : Nat → Int64) (w : px_W) (lc : List (Nat × Value)) (cf : List pf_F) (d : Nat), sy_mem q S.1 ρ τ w → d + cf.length = x.2.2.2.2.2.2 → ∃ Z : Int32, rg.1 ≤ Z.toInt ∧ Z.toInt ≤ rg.2 ∧ 0 ≤ sy_e ρ ix ∧ sy_get w k (sy_e ρ ix).toNat = some (.int Z) ∧ px_step x.1 x.2.1 x.2.2.1 d (pf_scr x.2.2.2.1 cf) M S.2.1.2.1 lc (S.2.1.2.2.2.map (sy_v ρ τ)) w = some (.inl (pc', lc, .int Z :: r.map (sy_v ρ τ), w, 0, 0)))
    (hG : sy_Good x q (sy_at S (S.1.1 ++ [rg], S.1.2.1, S.1.2.2.1, (k, ix, .inl (sy_x S.1.1.length)) :: S.1.2.2.2) pc' S.2.1.2.2.1 (.inl (sy_x S.1.1.length) :: r))) : sy_Good x q S := by
  refine sy_open (fun ρ τ w lc cf d hm hl hf hd => ?_) hM
  obtain ⟨Z, h1, h2, h2a, h2b, h3⟩ := hs ρ τ w lc cf d hm hd
  obtain ⟨ρ', e1, e2, ⟨m1, m2, m3, m4, m5, m6⟩, ⟨f1, f2, f3, f4⟩, hf'⟩ := sy_fresh (c := (M, S.2.1.2.1, lc, S.2.1.2.2.2.map (sy_v ρ τ))) hw ⟨hm, ⟨hM, rfl, hl, rfl⟩, hf⟩ h1 h2
  refine pf_next h3 ?_
  have f4' : S.2.1.2.2.2.map (sy_v ρ τ) = S.2.1.2.2.2.map (sy_v ρ' τ) := f4
  rw [hst, List.map_append, List.map_append] at f4'
  have hr := (List.append_inj' f4' (by rw [List.length_map, List.length_map])).2
  have ei := sy_ext_l e1 hwi
  have hm' : sy_mem q (S.1.1 ++ [rg], S.1.2.1, S.1.2.2.1, (k, ix, .inl (sy_x S.1.1.length)) :: S.1.2.2.2) ρ' τ w := by
    refine ⟨m1, m2, m3, fun f hf => ?_, m5, m6⟩
    rcases List.mem_cons.mp hf with rfl | hf
    · show 0 ≤ sy_e ρ' ix ∧ sy_get w k (sy_e ρ' ix).toNat = some (.int (Int32.ofInt (sy_e ρ' (sy_x S.1.1.length))))
      rw [ei, sy_x_e, e2, Int32.ofInt_toInt]
      exact ⟨h2a, h2b⟩
    · exact m4 f hf
  have hu := sy_use hG hM hm' f3 hf' hd
  have e3 : (.inl (sy_x S.1.1.length) :: r : List sy_A).map (sy_v ρ' τ) = .int Z :: r.map (sy_v ρ τ) := by
    show Value.int (Int32.ofInt (sy_e ρ' (sy_x S.1.1.length))) :: r.map (sy_v ρ' τ) = _
    rw [sy_x_e, e2, Int32.ofInt_toInt, hr]
  rw [e3] at hu
  exact hu
theorem sy_cell_i {w : px_W} {k n : Nat} {sg : sy_Sg} (hW : sy_W q.2.1 w) (hA : q.2.1[k]? = some (.inl (n, sg))) : ∃ l : List Int32, w[k]? = some (.inl l) ∧ l.length = n ∧ ∀ (i : Nat) (x : Int32), l[i]? = some x → sy_in (sy_seg sg i) x := by
  obtain ⟨c, h1, h2⟩ := hW.2 k _ hA
  match c, h2 with
  | .inl l, h2 => exact ⟨l, h1, h2.1, h2.2⟩
theorem sy_cell_l {w : px_W} {k n : Nat} (hW : sy_W q.2.1 w) (hA : q.2.1[k]? = some (.inr (.inl n))) : ∃ l : List Int64, w[k]? = some (.inr (.inl l)) ∧ l.length = n := by
  obtain ⟨c, h1, h2⟩ := hW.2 k _ hA
  match c, h2 with
  | .inr (.inl l), h2 => exact ⟨l, h1, h2⟩
theorem sy_cell_o {w : px_W} {k ci : Nat} {sl : List ((Int × Int) ⊕ Nat)} (hW : sy_W q.2.1 w) (hA : q.2.1[k]? = some (.inr (.inr (ci, sl)))) : ∃ o : Nat × List Value, w[k]? = some (.inr (.inr o)) ∧ o.1 = ci ∧ o.2.length = sl.length ∧ (∀ (i : Nat) (r : Int × Int), sl[i]? = some (.inl r) → ∃ x, o.2[i]? = some (.int x) ∧ sy_in r x) ∧ ∀ (i a : Nat), sl[i]? = some (.inr a) → o.2[i]? = some (.ref a) := by
  obtain ⟨c, h1, h2⟩ := hW.2 k _ hA
  match c, h2 with
  | .inr (.inr o), h2 => exact ⟨o, h1, h2⟩
theorem sy_getI {w : px_W} {k : Nat} {l : List Int32} (h : w[k]? = some (.inl l)) (j : Nat) : sy_get w k j = (l[j]?).map Value.int := by
  unfold sy_get
  rw [h]
theorem sy_getO {w : px_W} {k : Nat} {o : Nat × List Value} (h : w[k]? = some (.inr (.inr o))) (j : Nat) : sy_get w k j = o.2[j]? := by
  unfold sy_get
  rw [h]
/-- an int out of an int array, at a place not read before -/
theorem sy_goIald {a n : Nat} {sg : sy_Sg} {ix : sy_L} {b rg : Int × Int} {r : List sy_A} (hw : sy_wS S = true) (hM : q.1[S.2.1.1]? = some M) (hq : px_look M.2.1 S.2.1.2.1 = some (.iaload, 1)) (hst : S.2.1.2.2.2 = .inl ix :: .inr (.inl a) :: r) (ha : 64 ≤ a) (hA : q.2.1[a - 64]? = some (.inl (n, sg))) (hn : n ≤ 2147483647) (hb : sy_b S.1.1 ix = some b) (hb1 : 0 ≤ b.1) (hb2 : b.2 < (n : Int)) (hr : sy_rd S.1.1 sg ix = some rg)
    (hG : sy_Good x q (sy_at S (S.1.1 ++ [rg], S.1.2.1, S.1.2.2.1, (a - 64, sy_nm S.1.1 ix, .inl (sy_x S.1.1.length)) :: S.1.2.2.2) (S.2.1.2.1 + 1) S.2.1.2.2.1 (.inl (sy_x S.1.1.length) :: r))) (hwi : sy_wl S.1.1.length (sy_nm S.1.1 ix) = true) : sy_Good x q S := by
  refine sy_goFa (pre := [.inl ix, .inr (.inl a)]) hw hwi hM hst (fun ρ τ w lc cf d hm _ => ?_) hG
  obtain ⟨l, l1, l2, l3⟩ := sy_cell_i hm.2.2.2.2.1 hA
  obtain ⟨c1, c2⟩ := sy_b_e hm.2.1 hb
  have hz : (sy_e ρ ix).toNat < l.length := by rw [l2]; omega
  obtain ⟨x1, x2⟩ := px_ix_of (z := sy_e ρ ix) (n := l.length) (by omega) (by omega) (by omega)
  have hg : l[(sy_e ρ ix).toNat]? = some l[(sy_e ρ ix).toNat] := List.getElem?_eq_getElem hz
  have hd : l.getD (sy_e ρ ix).toNat 0 = l[(sy_e ρ ix).toNat] := by
    rw [List.getD_eq_getElem?_getD, hg]
    rfl
  obtain ⟨r1, r2⟩ := sy_rd_ok hm.2.1 hr (l3 _ _ hg)
  refine ⟨l[(sy_e ρ ix).toNat], r1, r2, ?_, ?_, ?_⟩
  · rw [sy_nm_e hm.2.1]; omega
  · rw [sy_nm_e hm.2.1, sy_getI l1, hg]
    rfl
  · refine (fun hs : px_s2 x.1 x.2.1 .iaload 1 (pf_scr x.2.2.2.1 cf) M.1.1.name M.1.1.cls M.2.2 (S.2.1.2.2.2.map (sy_v ρ τ)) w = some (.int l[(sy_e ρ ix).toNat] :: r.map (sy_v ρ τ), w, 0, 0) => px_step_2 hq rfl hs) ?_
    rw [hst]
    show (if 1 = 1 then (if a = 0 then _ else if 64 ≤ a then (match w[a - 64]? with
      | some (.inl l) => if px_ix (Int32.ofInt (sy_e ρ ix)) l.length = true then some (.int (l.getD (Int32.ofInt (sy_e ρ ix)).toNatClampNeg 0) :: r.map (sy_v ρ τ), w, 0, 0) else none
      | _ => none) else none) else none) = _
    rw [if_pos rfl, if_neg (by omega), if_pos ha, l1]
    show (if px_ix (Int32.ofInt (sy_e ρ ix)) l.length = true then _ else none) = _
    rw [if_pos x1, x2, hd]
/-- a field of an object that holds an int, not read before -/
theorem sy_goGetI {a idx ci sl0 : Nat} {sl : List ((Int × Int) ⊕ Nat)} {rg : Int × Int} {r : List sy_A} (hw : sy_wS S = true) (hM : q.1[S.2.1.1]? = some M) (hq : px_look M.2.1 S.2.1.2.1 = some (.getfield idx, 3)) (hst : S.2.1.2.2.2 = .inr (.inl a) :: r) (ha : 64 ≤ a) (hA : q.2.1[a - 64]? = some (.inr (.inr (ci, sl)))) (hL : px_look M.2.2.1 idx = some (ci, sl0)) (hr : sl[sl0]? = some (.inl rg))
    (hG : sy_Good x q (sy_at S (S.1.1 ++ [rg], S.1.2.1, S.1.2.2.1, (a - 64, sy_c sl0, .inl (sy_x S.1.1.length)) :: S.1.2.2.2) (S.2.1.2.1 + 3) S.2.1.2.2.1 (.inl (sy_x S.1.1.length) :: r))) : sy_Good x q S := by
  refine sy_goFa (pre := [.inr (.inl a)]) hw rfl hM hst (fun ρ τ w lc cf d hm _ => ?_) hG
  obtain ⟨o, l1, l2, l3, l4, l5⟩ := sy_cell_o hm.2.2.2.2.1 hA
  obtain ⟨Z, z1, z2⟩ := l4 _ _ hr
  refine ⟨Z, z2.1, z2.2, ?_, ?_, ?_⟩
  · rw [sy_c_e]; omega
  · rw [sy_c_e, sy_getO l1]
    exact z1
  · refine (fun hs : px_s2 x.1 x.2.1 (.getfield idx) 3 (pf_scr x.2.2.2.1 cf) M.1.1.name M.1.1.cls M.2.2 (S.2.1.2.2.2.map (sy_v ρ τ)) w = some (.int Z :: r.map (sy_v ρ τ), w, 0, 0) => px_step_2 hq rfl hs) ?_
    rw [hst]
    show (if 3 = 3 ∧ 64 ≤ a then (match px_look M.2.2.1 idx, w[a - 64]? with
      | some q, some (.inr (.inr o)) => if q.1 = o.1 then (o.2[q.2]?).map (fun v => (v :: r.map (sy_v ρ τ), w, 0, 0)) else none
      | _, _ => none) else _) = _
    rw [if_pos ⟨rfl, ha⟩, hL, l1]
    show (if ci = o.1 then (o.2[sl0]?).map _ else none) = _
    rw [if_pos l2.symm, z1]
    rfl
end RD

end
