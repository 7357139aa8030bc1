noncomputable section
/-! THE WAYS OUT OF A STATE, BY PROGRAM -/
def sy_S1 (x : sy_X) (q : sy_Q) (S : sy_S) (l : List sy_S) : Prop := (∀ S' ∈ l, sy_Good x q S') → sy_Good x q S
def sy_opt (S : sy_S) (g : Option sy_G) (pc : Nat) (r : List sy_A) : List sy_S := match g with
  | some g' => [sy_at S g' pc S.2.1.2.2.1 r]
  | none => []
theorem sy_opt_mem {S : sy_S} {g : Option sy_G} {pc : Nat} {r : List sy_A} {g' : sy_G} (h : g = some g') : sy_at S g' pc S.2.1.2.2.1 r ∈ sy_opt S g pc r := by
  subst h
  exact List.mem_cons_self
theorem sy_or_some {α : Type} {a b : Option α} {z : α} (h : px_or a b = some z) : a = some z ∨ b = some z := by
  unfold px_or at h
  split at h
  · exact .inl h
  · exact .inr h
section SU
variable {x : sy_X} {q : sy_Q} {S : sy_S} {M : px_M} {i : Instr} {len : Nat} {l : List sy_S}
def sy_u1 (M : px_M) (i : Instr) (len : Nat) (S : sy_S) : Option (List sy_S) := (sy_1 i len S.2.1.2.1 M.1.2.2.1 S.2.1.2.2.1 S.2.1.2.2.2).map (fun z => [sy_at S S.1 z.1 z.2.1 z.2.2])
theorem sy_u1_ok (hM : q.1[S.2.1.1]? = some M) (hq : px_look M.2.1 S.2.1.2.1 = some (i, len)) (h : sy_u1 M i len S = some l) : sy_S1 x q S l := by
  obtain ⟨z, hz, rfl⟩ := Option.map_eq_some_iff.mp h
  exact fun hG => sy_go1 hM hq hz (hG _ List.mem_cons_self)
def sy_uK (lt : List (List Int32)) (A : List sy_Ce) (M : px_M) (i : Instr) (len : Nat) (S : sy_S) : Option (List sy_S) := (sy_k lt A i len M.2.2 S.2.1.2.2.2).map (fun z => [sy_at S S.1 (S.2.1.2.1 + len) S.2.1.2.2.1 z])
theorem sy_uK_ok (hM : q.1[S.2.1.1]? = some M) (hq : px_look M.2.1 S.2.1.2.1 = some (i, len)) (h : sy_uK x.2.1 q.2.1 M i len S = some l) : sy_S1 x q S l := by
  obtain ⟨z, hz, rfl⟩ := Option.map_eq_some_iff.mp h
  exact fun hG => sy_goK hM hq hz (hG _ List.mem_cons_self)
/-- branches -/
def sy_uB (i : Instr) (len : Nat) (S : sy_S) : Option (List sy_S) := match i, S.2.1.2.2.2 with
  | .ifCond k off, .inl e :: r => if len = 3 then (px_tgt S.2.1.2.1 off).map (fun t => sy_opt S (sy_two S.1 k e (sy_c 0)).1 t r ++ sy_opt S (sy_two S.1 k e (sy_c 0)).2 (S.2.1.2.1 + 3) r) else none
  | .if_icmp k off, .inl b :: .inl a :: r => if len = 3 then (px_tgt S.2.1.2.1 off).map (fun t => sy_opt S (sy_two S.1 k a b).1 t r ++ sy_opt S (sy_two S.1 k a b).2 (S.2.1.2.1 + 3) r) else none
  | .tableswitch dflt lo hi offs, .inl e :: r => (match px_tgt S.2.1.2.1 dflt, sy_b S.1.1 e, sy_tab S.1 e lo S.2.1.2.1 offs.toList 0 with
    | some t, some b, some l => if sy_fit b = true ∧ offs.size = (hi - lo + 1).toNat then some (l.map (fun z => sy_at S z.1 z.2 S.2.1.2.2.1 r) ++ (sy_opt S (sy_asm S.1 (sy_add (sy_sub (sy_c lo) e) (sy_c (-1)))) t r ++ sy_opt S (sy_asm S.1 (sy_add (sy_sub e (sy_c hi)) (sy_c (-1)))) t r)) else none
    | _, _, _ => none)
  | _, _ => none
theorem sy_uB_ok (hM : q.1[S.2.1.1]? = some M) (hq : px_look M.2.1 S.2.1.2.1 = some (i, len)) (h : sy_uB i len S = some l) : sy_S1 x q S l := by
  intro hG
  unfold sy_uB at h
  split at h
  · rename_i k off e r hst
    split at h
    · rename_i h3
      subst h3
      obtain ⟨t, ht, rfl⟩ := Option.map_eq_some_iff.mp h
      exact sy_goIf hM hq hst ht (fun g' hg => hG _ (List.mem_append_left _ (sy_opt_mem hg))) (fun g' hg => hG _ (List.mem_append_right _ (sy_opt_mem hg)))
    · cases h
  · rename_i k off b a r hst
    split at h
    · rename_i h3
      subst h3
      obtain ⟨t, ht, rfl⟩ := Option.map_eq_some_iff.mp h
      exact sy_goCmp hM hq hst ht (fun g' hg => hG _ (List.mem_append_left _ (sy_opt_mem hg))) (fun g' hg => hG _ (List.mem_append_right _ (sy_opt_mem hg)))
    · cases h
  · rename_i dflt lo hi offs e r hst
    split at h
    · rename_i t b l0 ht hb hl
      split at h
      · rename_i hc
        cases h
        exact sy_goTab hM hq hst ht hb hc.1 hc.2 hl (fun z hz => hG _ (List.mem_append_left _ (List.mem_map.mpr ⟨z, hz, rfl⟩))) (fun g' hg => hG _ (List.mem_append_right _ (List.mem_append_left _ (sy_opt_mem hg)))) (fun g' hg => hG _ (List.mem_append_right _ (List.mem_append_right _ (sy_opt_mem hg))))
      · cases h
    · cases h
  · cases h
/-- arithmetic that is no form -/
def sy_uA (i : Instr) (len : Nat) (S : sy_S) : Option (List sy_S) := if len = 1 ∧ sy_wS S = true then px_or (match S.2.1.2.2.2 with
    | .inl b :: .inl a :: r => if px_so1 i = 1 then (sy_bn S.1.1 i a b).map (fun rg => [sy_at S (sy_new S.1 rg) (S.2.1.2.1 + 1) S.2.1.2.2.1 (.inl (sy_x S.1.1.length) :: r)]) else none
    | _ => none) (px_or (match S.2.1.2.2.2 with
    | a :: r => (sy_u i a).map (fun rg => [sy_at S (sy_new S.1 rg) (S.2.1.2.1 + 1) S.2.1.2.2.1 (.inl (sy_x S.1.1.length) :: r)])
    | _ => none) ((sy_ul i S.2.1.2.2.2).map (fun z => [sy_at S (S.1.1, S.1.2.1 + 1, S.1.2.2) (S.2.1.2.1 + 1) S.2.1.2.2.1 (.inr (.inr S.1.2.1) :: z.2)]))) else none
theorem sy_uA_ok (hM : q.1[S.2.1.1]? = some M) (hq : px_look M.2.1 S.2.1.2.1 = some (i, len)) (h : sy_uA i len S = some l) : sy_S1 x q S l := by
  intro hG
  unfold sy_uA at h
  split at h
  · rename_i hc
    obtain ⟨h1, hw⟩ := hc
    subst h1
    rcases sy_or_some h with h | h
    · split at h
      · rename_i b a r hst
        split at h
        · rename_i h1
          obtain ⟨rg, hr, rfl⟩ := Option.map_eq_some_iff.mp h
          exact sy_goBin hw hM hq h1 hst hr (hG _ List.mem_cons_self)
        · cases h
      · cases h
    · rcases sy_or_some h with h | h
      · split at h
        · rename_i a r hst
          obtain ⟨rg, hr, rfl⟩ := Option.map_eq_some_iff.mp h
          exact sy_goU hw hM hq hst hr (hG _ List.mem_cons_self)
        · cases h
      · obtain ⟨z, hz, rfl⟩ := Option.map_eq_some_iff.mp h
        exact sy_goUL hw hM hq hz (hG _ List.mem_cons_self)
  · cases h
/-- a known value, under another form of its place -/
def sy_addF (S : sy_S) (f : sy_Fa) : sy_S := ((S.1.1, S.1.2.1, S.1.2.2.1, f :: S.1.2.2.2), S.2)
theorem sy_goAddF {f : sy_Fa} {ix : sy_L} {t : Bool} (hf : f ∈ S.1.2.2.2) (he : sy_eq2 t S.1.1 S.1.2.2.1 f.2.1 ix = true) (hG : sy_Good x q (sy_addF S (f.1, sy_nm S.1.1 ix, f.2.2))) : sy_Good x q S := by
  intro ρ τ w c cf d hR hd
  obtain ⟨⟨m1, m2, m3, m4, m5⟩, h2⟩ := hR
  refine hG ρ τ w c cf d ⟨⟨m1, m2, m3, fun f' hf' => ?_, m5⟩, h2⟩ hd
  rcases List.mem_cons.mp hf' with rfl | h
  · have := m4 f hf
    show 0 ≤ sy_e ρ (sy_nm S.1.1 ix) ∧ sy_get w f.1 (sy_e ρ (sy_nm S.1.1 ix)).toNat = some (sy_v ρ τ f.2.2)
    rw [sy_nm_e m2, ← sy_eq2_e m2 m3 he]
    exact this
  · exact m4 f' h
def sy_uR (A : List sy_Ce) (M : px_M) (i : Instr) (len : Nat) (S : sy_S) : Option (List sy_S) := match i, S.2.1.2.2.2 with
  | .iaload, .inl ix :: .inr (.inl a) :: r => if len = 1 ∧ 64 ≤ a ∧ sy_wS S = true then (match A[a - 64]? with
    | some (.inl (n, sg)) => if n ≤ 2147483647 then (match S.1.2.2.2.find? (fun f => f.1 == a - 64 && sy_eq2 (sy_spr S.2.1.1 (a - 64)) S.1.1 S.1.2.2.1 f.2.1 ix) with
      | some (k, fx, .inl e) => some [sy_at (sy_addF S (k, sy_nm S.1.1 ix, .inl e)) (sy_addF S (k, sy_nm S.1.1 ix, .inl e)).1 (S.2.1.2.1 + 1) S.2.1.2.2.1 (.inl e :: r)]
      | _ => (match sy_b S.1.1 ix, sy_rd S.1.1 sg ix with
        | some b, some rg => if 0 ≤ b.1 ∧ b.2 < (n : Int) ∧ sy_wl S.1.1.length (sy_nm S.1.1 ix) = true then some [sy_at S (S.1.1 ++ [rg], S.1.2.1, S.1.2.2.1, (a - 64, sy_nm S.1.1 ix, .inl (sy_x S.1.1.length)) :: S.1.2.2.2) (S.2.1.2.1 + 1) S.2.1.2.2.1 (.inl (sy_x S.1.1.length) :: r)] else none
        | _, _ => none)) else none
    | _ => none) else none
  | .getfield idx, .inr (.inl a) :: r => if len = 3 ∧ 64 ≤ a ∧ sy_wS S = true then (match A[a - 64]?, px_look M.2.2.1 idx with
    | some (.inr (.inr (ci, sl))), some (cj, s0) => if ci = cj then (match S.1.2.2.2.find? (fun f => decide (f.1 = a - 64) && decide (f.2.1 = sy_c s0)) with
      | some f => some [sy_at S S.1 (S.2.1.2.1 + 3) S.2.1.2.2.1 (f.2.2 :: r)]
      | none => (match sl[s0]? with
        | some (.inl rg) => some [sy_at S (S.1.1 ++ [rg], S.1.2.1, S.1.2.2.1, (a - 64, sy_c s0, .inl (sy_x S.1.1.length)) :: S.1.2.2.2) (S.2.1.2.1 + 3) S.2.1.2.2.1 (.inl (sy_x S.1.1.length) :: r)]
        | some (.inr b) => some [sy_at S S.1 (S.2.1.2.1 + 3) S.2.1.2.2.1 (.inr (.inl b) :: r)]
        | none => none)) else none
    | _, _ => none) else none
  | _, _ => none
theorem sy_uR_ok (hM : q.1[S.2.1.1]? = some M) (hq : px_look M.2.1 S.2.1.2.1 = some (i, len)) (h : sy_uR q.2.1 M i len S = some l) : sy_S1 x q S l := by
  intro hG
  unfold sy_uR at h
  split at h
  · rename_i ix a r hst
    split at h
    · rename_i hc
      obtain ⟨h1, ha, hw⟩ := hc
      subst h1
      split at h
      · rename_i n sg hA
        split at h
        · rename_i hn
          split at h
          · rename_i k fx e hfind
            cases h
            have hm := List.mem_of_find?_eq_some hfind
            have hp := List.find?_some hfind
            rw [Bool.and_eq_true] at hp
            have hk : k = a - 64 := eq_of_beq hp.1
            refine sy_goAddF hm hp.2 ?_
            have hG0 := hG _ List.mem_cons_self
            refine sy_goIaldK (S := sy_addF S (k, sy_nm S.1.1 ix, .inl e)) hM hq hst ha hA hn ?_ hG0
            rw [← hk]
            exact List.mem_cons_self
          · split at h
            · rename_i b rg hb hr
              split at h
              · rename_i hc
                cases h
                exact sy_goIald hw hM hq hst ha hA hn hb hc.1 hc.2.1 hr (hG _ List.mem_cons_self) hc.2.2
              · cases h
            · cases h
        · cases h
      · cases h
    · cases h
  · rename_i idx a r hst
    split at h
    · rename_i hc
      obtain ⟨h1, ha, hw⟩ := hc
      subst h1
      split at h
      · rename_i ci sl cj s0 hA hL
        split at h
        · rename_i hcc
          subst hcc
          split at h
          · rename_i f hfind
            cases h
            have hm := List.mem_of_find?_eq_some hfind
            have hp := List.find?_some hfind
            simp only [Bool.and_eq_true, decide_eq_true_eq] at hp
            refine sy_goGetK hM hq hst ha hA hL (.inl ?_) (hG _ List.mem_cons_self)
            rw [← hp.1, ← hp.2]
            exact hm
          · split at h
            · rename_i rg hr
              cases h
              exact sy_goGetI hw hM hq hst ha hA hL hr (hG _ List.mem_cons_self)
            · rename_i b hr
              cases h
              exact sy_goGetK hM hq hst ha hA hL (.inr ⟨b, rfl, hr⟩) (hG _ List.mem_cons_self)
            · cases h
        · cases h
      · cases h
    · cases h
  · cases h
/-- writes -/
def sy_same (A : List sy_Ce) (R : sy_T) (F : List sy_Fa) (sg : sy_Sg) (ix e : sy_L) : Bool := F.any (fun f => decide (f.2.2 = .inl e) && (sy_eq R f.2.1 ix && (match A[f.1]? with
  | some (.inl z) => decide (z.2 = sg)
  | _ => false)))
theorem sy_same_ok {sg : sy_Sg} {ix e : sy_L} (h : sy_same q.2.1 S.1.1 S.1.2.2.2 sg ix e = true) (ρ : Nat → Int) (τ : Nat → Int64) (w : px_W) (hm : sy_mem q S.1 ρ τ w) : sy_in (sy_seg sg (sy_e ρ ix).toNat) (Int32.ofInt (sy_e ρ e)) := by
  obtain ⟨f, hf, h2⟩ := List.any_eq_true.mp h
  simp only [Bool.and_eq_true, decide_eq_true_eq] at h2
  obtain ⟨h3, h4, h5⟩ := h2
  obtain ⟨m1, m2, m3, m4, m5, m6⟩ := hm
  split at h5
  · rename_i z hz
    obtain ⟨n, sg2⟩ := z
    have h6 : sg2 = sg := of_decide_eq_true h5
    subst h6
    obtain ⟨l, l1, l2, l3⟩ := sy_cell_i m5 hz
    have h7 := (m4 f hf).2
    rw [h3, sy_getI l1, sy_eq_e m2 h4] at h7
    obtain ⟨v, hv, he⟩ := Option.map_eq_some_iff.mp h7
    have h8 : v = Int32.ofInt (sy_e ρ e) := by
      injection he
    rw [← h8]
    exact l3 _ v hv
  · cases h5
def sy_ub (R : sy_T) (e : sy_L) (n : Int) : Bool := match sy_b R e with
  | some b => decide (b.2 < n)
  | none => false
def sy_isK (R : sy_T) (a : sy_A) (v : Int) : Bool := match a with
  | .inl e => decide (sy_b R e = some (v, v))
  | _ => false
/-- a value of the row that was kept, onto its place in the row -/
def sy_sm4 (Wr : sy_Wr) (R : sy_T) (F : List sy_Fa) (sg : sy_Sg) (ix e : sy_L) : Bool := (sy_js Wr).contains 4 && (decide (sg = sy_D) && (sy_ub R ix 1580 && (F.any (fun f => decide (f.1 = 151) && (decide (f.2.1 = sy_c 2) && sy_isK R f.2.2 1)) && F.any (fun f => decide (f.1 = 153) && (decide (f.2.2 = .inl e) && sy_eq R f.2.1 ix)))))
theorem sy_sm4_ok {sg : sy_Sg} {ix e : sy_L} (h : sy_sm4 q.2.2.1 S.1.1 S.1.2.2.2 sg ix e = true) (ρ : Nat → Int) (τ : Nat → Int64) (w : px_W) (hm : sy_mem q S.1 ρ τ w) : sy_in (sy_seg sg (sy_e ρ ix).toNat) (Int32.ofInt (sy_e ρ e)) := by
  unfold sy_sm4 at h
  simp only [Bool.and_eq_true, decide_eq_true_eq] at h
  obtain ⟨h1, h2, h3, h4, h5⟩ := h
  subst h2
  obtain ⟨m1, m2, m3, m4, m5, m6⟩ := hm
  have hj : sy_jp 4 w := m6.2 4 (by simpa using h1)
  obtain ⟨f, hf, f1⟩ := List.any_eq_true.mp h4
  obtain ⟨g, hg, g1⟩ := List.any_eq_true.mp h5
  simp only [Bool.and_eq_true, decide_eq_true_eq] at f1 g1
  obtain ⟨f2, f3, f4⟩ := f1
  obtain ⟨g2, g3, g4⟩ := g1
  obtain ⟨a1, a2⟩ := m4 f hf
  obtain ⟨b1, b2⟩ := m4 g hg
  rw [f2, f3, sy_c_e] at a2
  have hk : sy_get w 151 2 = some (.int 1) := by
    unfold sy_isK at f4
    split at f4
    · rename_i z hz
      have := sy_b_e m2 (of_decide_eq_true f4)
      rw [hz] at a2
      have a3 : sy_get w 151 2 = some (.int (Int32.ofInt (sy_e ρ z))) := a2
      rw [a3, show sy_e ρ z = 1 by dsimp only at this; omega]
      rfl
    · cases f4
  have hix := sy_eq_e m2 g4
  rw [g2, g3, hix] at b2
  rw [hix] at b1
  have hlt : (sy_e ρ ix).toNat < 1580 := by
    unfold sy_ub at h3
    split at h3
    · rename_i b hb
      have := sy_b_e m2 hb
      have := of_decide_eq_true h3
      omega
    · cases h3
  obtain ⟨x0, x1, x2⟩ := (hj hk).1 _ hlt
  rw [x1] at b2
  have b3 : Value.int x0 = Value.int (Int32.ofInt (sy_e ρ e)) := Option.some.inj b2
  have b4 : x0 = Int32.ofInt (sy_e ρ e) := by injection b3
  rw [← b4]
  exact x2
def sy_uW (cl : List vw_C) (A : List sy_Ce) (Wr : sy_Wr) (M : px_M) (i : Instr) (len : Nat) (S : sy_S) : Option (List sy_S) := match i, S.2.1.2.2.2 with
  | .iastore, .inl e :: .inl ix :: .inr (.inl a) :: r => if len = 1 ∧ 64 ≤ a then (match A[a - 64]?, sy_b S.1.1 ix with
    | some (.inl (n, sg)), some b => if n ≤ 2147483647 ∧ 0 ≤ b.1 ∧ b.2 < (n : Int) ∧ (sy_wr S.1.1 sg ix (sy_vb S.1.1 e) || (sy_same A S.1.1 S.1.2.2.2 sg ix e || sy_sm4 Wr S.1.1 S.1.2.2.2 sg ix e)) = true ∧ sy_mayI Wr (a - 64) b = true ∧ sy_jw Wr (a - 64) b.1 b.2 = true then some [sy_at S (S.1.1, S.1.2.1, S.1.2.2.1, (a - 64, sy_nm S.1.1 ix, .inl e) :: sy_drop S.1.1 S.1.2.2.1 (a - 64) ix S.1.2.2.2) (S.2.1.2.1 + 1) S.2.1.2.2.1 r] else none
    | _, _ => none) else none
  | .putfield idx, .inl e :: .inr (.inl a) :: r => if len = 3 ∧ 64 ≤ a then (match A[a - 64]?, px_look M.2.2.1 idx with
    | some (.inr (.inr (ci, sl))), some (cj, s0) => if ci = cj then (match cl[ci]?, sl[s0]? with
      | some k, some (.inl rg) => if sy_ft (px_ty k.2.1 s0) (sy_vb S.1.1 e) = true ∧ (k.2.1 s0).2.2.2 = false ∧ rg.1 ≤ (sy_vb S.1.1 e).1 ∧ (sy_vb S.1.1 e).2 ≤ rg.2 ∧ sy_may Wr (a - 64) s0 = true ∧ sy_jw Wr (a - 64) s0 s0 = true then some [sy_at S (S.1.1, S.1.2.1, S.1.2.2.1, (a - 64, sy_c s0, .inl e) :: sy_drop S.1.1 S.1.2.2.1 (a - 64) (sy_c s0) S.1.2.2.2) (S.2.1.2.1 + 3) S.2.1.2.2.1 r] else none
      | _, _ => none) else none
    | _, _ => none) else none
  | _, _ => none
theorem sy_uW_ok (hM : q.1[S.2.1.1]? = some M) (hq : px_look M.2.1 S.2.1.2.1 = some (i, len)) (h : sy_uW x.1 q.2.1 q.2.2.1 M i len S = some l) : sy_S1 x q S l := by
  intro hG
  unfold sy_uW at h
  split at h
  · rename_i e ix a r hst
    split at h
    · rename_i hc
      obtain ⟨h1, ha⟩ := hc
      subst h1
      split at h
      · rename_i n sg b hA hb
        split at h
        · rename_i hc
          cases h
          refine sy_goIast hM hq hst ha hA hc.1 hb hc.2.1 hc.2.2.1 (fun ρ τ w hm => ?_) hc.2.2.2.2.1 hc.2.2.2.2.2 (hG _ List.mem_cons_self)
          rcases Bool.or_eq_true _ _ ▸ hc.2.2.2.1 with h1 | h1
          · exact sy_wr_ok hm.2.1 h1 (sy_vb_ok hm.2.1 e)
          · rcases Bool.or_eq_true _ _ ▸ h1 with h1 | h1
            · exact sy_same_ok h1 ρ τ w hm
            · exact sy_sm4_ok h1 ρ τ w hm
        · cases h
      · cases h
    · cases h
  · rename_i idx e a r hst
    split at h
    · rename_i hc
      obtain ⟨h1, ha⟩ := hc
      subst h1
      split at h
      · rename_i ci sl cj s0 hA hL
        split at h
        · rename_i hcc
          subst hcc
          split at h
          · rename_i k rg hk hr
            split at h
            · rename_i hc
              cases h
              exact sy_goPut hM hq hst ha hA hL hk hc.1 hc.2.1 hr hc.2.2.1 hc.2.2.2.1 hc.2.2.2.2.1 hc.2.2.2.2.2 (hG _ List.mem_cons_self)
            · cases h
          · cases h
        · cases h
      · cases h
    · cases h
  · cases h
/-- returns to a caller -/
def sy_uV (M : px_M) (i : Instr) (len : Nat) (S : sy_S) : Option (List sy_S) := match S.2.2 with
  | f :: fs => (sy_rt S.1.1 i len M.1.2.2.2.1 S.2.1.2.2.2).map (fun v => [(S.1, (f.1, f.2.1, f.2.2.1, v.toList ++ f.2.2.2), fs)])
  | [] => none
theorem sy_uV_ok (hM : q.1[S.2.1.1]? = some M) (hq : px_look M.2.1 S.2.1.2.1 = some (i, len)) (h : sy_uV M i len S = some l) : sy_S1 x q S l := by
  intro hG
  unfold sy_uV at h
  split at h
  · rename_i f fs hfs
    obtain ⟨v, hv, rfl⟩ := Option.map_eq_some_iff.mp h
    exact sy_goBack hM hq hv hfs (hG _ List.mem_cons_self)
  · cases h
/-- calls in place -/
def sy_uC (cl : List vw_C) (P : List px_M) (A : List sy_Ce) (D : Nat) (M : px_M) (i : Instr) (len : Nat) (S : sy_S) : Option (List sy_S) := (sy_cl cl A P i len M.2.2 S.2.1.2.2.2).bind (fun z => (P[z.1]?).bind (fun M' => if sy_len z.2.1 ≤ M'.1.2.2.1 ∧ S.2.2.length + 1 ≤ D then some [(S.1, (z.1, 0, sy_args 0 z.2.1, []), (S.2.1.1, S.2.1.2.1 + 3, S.2.1.2.2.1, z.2.2) :: S.2.2)] else none))
theorem sy_uC_ok {D : Nat} (hD : D ≤ x.2.2.2.2.2.2) (hP : q.1 = x.2.2.1) (hM : q.1[S.2.1.1]? = some M) (hq : px_look M.2.1 S.2.1.2.1 = some (i, len)) (h : sy_uC x.1 x.2.2.1 q.2.1 D M i len S = some l) : sy_S1 x q S l := by
  intro hG
  obtain ⟨z, hz, h1⟩ := Option.bind_eq_some_iff.mp h
  obtain ⟨M', hM', h2⟩ := Option.bind_eq_some_iff.mp h1
  split at h2
  · rename_i hc
    cases h2
    exact sy_goCall hM hq hz hM' (by rw [hP]; exact hM') hc.1 (by omega) (hG _ List.mem_cons_self)
  · cases h2
end SU

end
