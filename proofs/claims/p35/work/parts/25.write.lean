noncomputable section
/-! WRITING CELLS -/
theorem sy_get_set {w : px_W} {k : Nat} {c c' : px_E} (hk : w[k]? = some c) (k' : Nat) (i' : Nat) : sy_get (w.set k c') k' i' = if k' = k then sy_get [c'] 0 i' else sy_get w k' i' := by
  have hl := (List.getElem?_eq_some_iff.mp hk).1
  unfold sy_get
  by_cases h : k' = k
  · subst h
    rw [List.getElem?_set_self hl, if_pos rfl]
    match c' with
    | .inl _ => rfl
    | .inr (.inl _) => rfl
    | .inr (.inr _) => rfl
  · rw [List.getElem?_set_ne (Ne.symm h), if_neg h]
theorem sy_get_same {w : px_W} {k : Nat} {c : px_E} (hk : w[k]? = some c) (i : Nat) : sy_get [c] 0 i = sy_get w k i := by
  unfold sy_get
  rw [hk]
  match c with
  | .inl _ => rfl
  | .inr (.inl _) => rfl
  | .inr (.inr _) => rfl
theorem sy_W_set {A : List sy_Ce} {w : px_W} {k : Nat} {a : sy_Ce} {c' : px_E} (hW : sy_W A w) (hA : A[k]? = some a) (hc : sy_ce a c') : sy_W A (w.set k c') := by
  obtain ⟨c, hk, -⟩ := hW.2 k a hA
  have hl := (List.getElem?_eq_some_iff.mp hk).1
  refine ⟨by rw [List.length_set]; exact hW.1, fun j b hb => ?_⟩
  by_cases h : k = j
  · subst h
    rw [hA] at hb
    cases hb
    exact ⟨c', List.getElem?_set_self hl, hc⟩
  · rw [List.getElem?_set_ne h]
    exact hW.2 j b hb
/-- what stays known behind a write -/
def sy_spf (k : Nat) : Bool := cond (Nat.ble k 49) (Nat.ble 47 k) (cond (Nat.beq k 139) true (cond (Nat.beq k 152) true (Nat.beq k 153)))
/-- surely another place -/
def qy_ap (R : sy_T) (cs : List sy_L) (k : Nat) (a b : sy_L) : Bool := cond (sy_hng R (sy_sub a b)) true (cond (sy_hng R (sy_sub b a)) true (cond (sy_spf k) (cond cs.isEmpty false (cond (sy_pos R cs (sy_add (sy_sub a b) (sy_c (-1)))) true (sy_pos R cs (sy_add (sy_sub b a) (sy_c (-1)))))) false))
theorem qy_ap_ok {ρ : Nat → Int} {R : sy_T} (h : sy_ok ρ R) {cs : List sy_L} (hc : sy_cok ρ cs) {k : Nat} {a b : sy_L} (ha : qy_ap R cs k a b = true) : sy_e ρ a ≠ sy_e ρ b := by
  unfold qy_ap at ha
  rcases qx_or ha with h1 | ha
  · have := sy_hng_e h h1
    rw [sy_sub_e] at this
    omega
  rcases qx_or ha with h1 | ha
  · have := sy_hng_e h h1
    rw [sy_sub_e] at this
    omega
  rcases qx_or (qx_nand (qx_and ha).2).2 with h1 | h1
  · have := sy_pos_e h hc h1
    rw [sy_add_e, sy_sub_e, sy_c_e] at this
    omega
  · have := sy_pos_e h hc h1
    rw [sy_add_e, sy_sub_e, sy_c_e] at this
    omega
def sy_drop (R : sy_T) (cs : List sy_L) (k : Nat) (ix : sy_L) (F : List sy_Fa) : List sy_Fa := qx_filter F (fun f => cond (Nat.beq f.1 k) (qy_ap R cs k f.2.1 ix) true)
theorem sy_drop_ok {ρ : Nat → Int} {τ : Nat → Int64} {R : sy_T} (h : sy_ok ρ R) {cs : List sy_L} (hc : sy_cok ρ cs) {k : Nat} {ix : sy_L} {F : List sy_Fa} {w w' : px_W} (hF : sy_fok ρ τ w F) (h0 : 0 ≤ sy_e ρ ix) (hg : ∀ k' i' : Nat, ¬ (k' = k ∧ i' = (sy_e ρ ix).toNat) → sy_get w' k' i' = sy_get w k' i') : sy_fok ρ τ w' (sy_drop R cs k ix F) := by
  intro f hf
  unfold sy_drop at hf
  rw [qx_filter_e] at hf
  obtain ⟨h1, h2⟩ := List.mem_filter.mp hf
  obtain ⟨h3, h4⟩ := hF f h1
  refine ⟨h3, ?_⟩
  rw [hg, h4]
  rintro ⟨e1, e2⟩
  have h5 : cond (Nat.beq f.1 k) (qy_ap R cs k f.2.1 ix) true = true := h2
  rw [e1, Nat.beq_refl] at h5
  have h6 := qy_ap_ok h hc (k := k) h5
  omega
def sy_vb (R : sy_T) (e : sy_L) : Int × Int := match sy_b R e with
  | some p => if sy_fit p = true then p else sy_full
  | none => sy_full
theorem sy_vb_ok {ρ : Nat → Int} {R : sy_T} (h : sy_ok ρ R) (e : sy_L) : (sy_vb R e).1 ≤ (Int32.ofInt (sy_e ρ e)).toInt ∧ (Int32.ofInt (sy_e ρ e)).toInt ≤ (sy_vb R e).2 := by
  unfold sy_vb
  split
  · rename_i p hp
    obtain ⟨h1, h2⟩ := sy_b_e h hp
    split
    · rename_i hf
      rw [sy_fit_e hf h1 h2]
      exact ⟨h1, h2⟩
    · exact sy_full_in _
  · exact sy_full_in _
def sy_al (sg : sy_Sg) (v : Int × Int) (s c : Int) : Nat → Bool
  | 0 => decide ((sy_seg sg s.toNat).1 ≤ v.1) && decide (v.2 ≤ (sy_seg sg s.toNat).2)
  | n + 1 => (decide ((sy_seg sg (s + c * ((n + 1 : Nat) : Int)).toNat).1 ≤ v.1) && decide (v.2 ≤ (sy_seg sg (s + c * ((n + 1 : Nat) : Int)).toNat).2)) && sy_al sg v s c n
theorem sy_al_ok {sg : sy_Sg} {v : Int × Int} {s c : Int} : ∀ n : Nat, sy_al sg v s c n = true → ∀ k : Nat, k ≤ n → (sy_seg sg (s + c * (k : Int)).toNat).1 ≤ v.1 ∧ v.2 ≤ (sy_seg sg (s + c * (k : Int)).toNat).2
  | 0, h, k, hk => by
    have hk0 : k = 0 := by omega
    subst hk0
    simp only [sy_al, Bool.and_eq_true, decide_eq_true_eq] at h
    rw [show s + c * ((0 : Nat) : Int) = s by simp]
    exact h
  | n + 1, h, k, hk => by
    unfold sy_al at h
    simp only [Bool.and_eq_true, decide_eq_true_eq] at h
    rcases Nat.lt_or_ge n k with h2 | h2
    · have hk1 : k = n + 1 := by omega
      subst hk1
      exact h.1
    · exact sy_al_ok n h.2 k h2
def sy_wr (R : sy_T) (sg : sy_Sg) (e : sy_L) (v : Int × Int) : Bool := match sg with
  | [] => true
  | _ => match sy_pr R e with
    | some z => cond (Nat.ble z.2.2 3000) (match qy_sg sg z.1 z.2.1 z.2.2 with
      | some r => cond (qi_le r.1 v.1) (qi_le v.2 r.2) false
      | none => sy_al sg v z.1 z.2.1 z.2.2) false
    | none => false
theorem sy_wr_ok {ρ : Nat → Int} {R : sy_T} (h : sy_ok ρ R) {sg : sy_Sg} {e : sy_L} {v : Int × Int} (hr : sy_wr R sg e v = true) {z : Int32} (hz : v.1 ≤ z.toInt ∧ z.toInt ≤ v.2) : sy_in (sy_seg sg (sy_e ρ e).toNat) z := by
  unfold sy_wr at hr
  split at hr
  · exact sy_full_in z
  · split at hr
    · rename_i p hp
      replace hr := (qx_and hr).2
      obtain ⟨k, hk, he⟩ := sy_pr_ok h hp
      split at hr
      · rename_i r hsg
        have h4 := qy_sg_ok hsg k hk
        rw [← he] at h4
        rw [h4]
        obtain ⟨h5, h6⟩ := qx_and hr
        exact ⟨Int.le_trans (qi_le_e.mp h5) hz.1, Int.le_trans hz.2 (qi_le_e.mp h6)⟩
      · have := sy_al_ok _ hr k hk
        rw [← he] at this
        exact ⟨Int.le_trans this.1 hz.1, Int.le_trans hz.2 this.2⟩
    · cases hr
def sy_mayI (Wr : sy_Wr) (k : Nat) (b : Int × Int) : Bool := qx_any Wr (fun q => cond (Nat.beq q.1 k) (cond (qi_le (Int.ofNat q.2.1) b.1) (qi_le (qi_add b.2 1) (Int.ofNat q.2.2)) false) false)
theorem sy_mayI_ok {Wr : sy_Wr} {k : Nat} {b : Int × Int} (h : sy_mayI Wr k b = true) {z : Int} (h0 : 0 ≤ z) (h1 : b.1 ≤ z) (h2 : z ≤ b.2) : sy_may Wr k z.toNat = true := by
  unfold sy_mayI at h
  rw [qx_any_e] at h
  obtain ⟨q, hq, h3⟩ := List.any_eq_true.mp h
  obtain ⟨h4, h5⟩ := qx_and h3
  obtain ⟨h6, h7⟩ := qx_and h5
  have e1 := Nat.eq_of_beq_eq_true h4
  have e2 : (q.2.1 : Int) ≤ b.1 := qi_le_e.mp h6
  have e3 : qi_add b.2 1 ≤ (q.2.2 : Int) := qi_le_e.mp h7
  rw [qi_add_e] at e3
  refine List.any_eq_true.mpr ⟨q, hq, ?_⟩
  simp only [Bool.and_eq_true, decide_eq_true_eq]
  omega
theorem sy_fr_set {Wr : sy_Wr} {w0 w w' : px_W} {k j : Nat} {a b : Int} (h : sy_fr Wr w0 w) (hm : sy_may Wr k j = true) (hw : sy_jw Wr k a b = true) (ha : a ≤ (j : Int)) (hb : (j : Int) ≤ b) (hg : ∀ k' i' : Nat, ¬ (k' = k ∧ i' = j) → sy_get w' k' i' = sy_get w k' i') : sy_fr Wr w0 w' := by
  refine ⟨fun k' i' hf => ?_, sy_jw_ok h.2 hw ha hb hg⟩
  rw [hg k' i' (fun e => by rw [e.1, e.2] at hf; rw [hf] at hm; cases hm)]
  exact h.1 k' i' hf
section WR
variable {x : sy_X} {q : sy_Q} {S : sy_S} {M : px_M}
theorem sy_goIast {a n : Nat} {sg : sy_Sg} {ix e : sy_L} {b : Int × Int} {r : List sy_A} (hM : q.1[S.2.1.1]? = some M) (hq : px_look M.2.1 S.2.1.2.1 = some (.iastore, 1)) (hst : S.2.1.2.2.2 = .inl e :: .inl ix :: .inr (.inl a) :: r) (ha : 64 ≤ a) (hA : q.2.1[a - 64]? = some (.inl (n, sg))) (hn : n ≤ 2147483647) (hb : sy_b S.1.1 ix = some b) (hb1 : 0 ≤ b.1) (hb2 : b.2 < (n : Int)) (hv : ∀ (ρ : Nat → Int) (τ : Nat → Int64) (w : px_W), sy_mem q S.1 ρ τ w → sy_in (sy_seg sg (sy_e ρ ix).toNat) (Int32.ofInt (sy_e ρ e))) (hmay : sy_mayI q.2.2.1 (a - 64) b = true) (hjw : sy_jw q.2.2.1 (a - 64) b.1 b.2 = true)
    (hG : sy_Good x q (sy_at S (S.1.1, S.1.2.1, S.1.2.2.1, (a - 64, sy_nm S.1.1 ix, .inl e) :: sy_drop S.1.1 S.1.2.2.1 (a - 64) ix S.1.2.2.2) (S.2.1.2.1 + 1) S.2.1.2.2.1 r)) : sy_Good x q S := by
  refine sy_open (fun ρ τ w lc cf d hm hl hf hd => ?_) hM
  obtain ⟨m1, m2, m3, m4, m5, m6⟩ := id hm
  obtain ⟨l, l1, l2, l3⟩ := sy_cell_i m5 hA
  obtain ⟨c1, c2⟩ := sy_b_e m2 hb
  have hz : (sy_e ρ ix).toNat < l.length := by rw [l2]; omega
  obtain ⟨x1, x2⟩ := px_ix_of (z := sy_e ρ ix) (n := l.length) (by omega) (by omega) (by omega)
  have hg : ∀ k' i' : Nat, ¬ (k' = a - 64 ∧ i' = (sy_e ρ ix).toNat) → sy_get (w.set (a - 64) (.inl (l.set (sy_e ρ ix).toNat (Int32.ofInt (sy_e ρ e))))) k' i' = sy_get w k' i' := by
    intro k' i' hne
    rw [sy_get_set l1]
    split
    · rename_i hk
      subst hk
      have hi : (sy_e ρ ix).toNat ≠ i' := fun z => hne ⟨rfl, z.symm⟩
      rw [sy_getI l1]
      show ((l.set _ _)[i']?).map Value.int = _
      rw [List.getElem?_set_ne hi]
    · rfl
  have hm' : sy_mem q (S.1.1, S.1.2.1, S.1.2.2.1, (a - 64, sy_nm S.1.1 ix, .inl e) :: sy_drop S.1.1 S.1.2.2.1 (a - 64) ix S.1.2.2.2) ρ τ (w.set (a - 64) (.inl (l.set (sy_e ρ ix).toNat (Int32.ofInt (sy_e ρ e))))) := by
    refine ⟨m1, m2, m3, fun f hf => ?_, sy_W_set m5 hA ?_, sy_fr_set m6 (sy_mayI_ok hmay (by omega) c1 c2) hjw (by omega) (by omega) hg⟩
    · rcases List.mem_cons.mp hf with rfl | hf
      · show 0 ≤ sy_e ρ (sy_nm S.1.1 ix) ∧ sy_get _ (a - 64) (sy_e ρ (sy_nm S.1.1 ix)).toNat = some (.int (Int32.ofInt (sy_e ρ e)))
        rw [sy_nm_e m2, sy_get_set l1, if_pos rfl]
        refine ⟨by omega, ?_⟩
        show ((l.set _ _)[(sy_e ρ ix).toNat]?).map Value.int = _
        rw [List.getElem?_set_self hz]
        rfl
      · exact sy_drop_ok m2 m3 m4 (by omega) hg f hf
    · refine ⟨by rw [List.length_set]; exact l2, fun i v hv2 => ?_⟩
      by_cases hi : (sy_e ρ ix).toNat = i
      · subst hi
        rw [List.getElem?_set_self hz] at hv2
        cases hv2
        exact hv ρ τ w hm
      · rw [List.getElem?_set_ne hi] at hv2
        exact l3 i v hv2
  refine (fun hs : px_s2 x.1 x.2.1 .iastore 1 (pf_scr x.2.2.2.1 cf) M.1.1.name M.1.1.cls M.2.2 (S.2.1.2.2.2.map (sy_v ρ τ)) w = some (r.map (sy_v ρ τ), w.set (a - 64) (.inl (l.set (sy_e ρ ix).toNat (Int32.ofInt (sy_e ρ e)))), 0, 0) => pf_next (px_step_2 hq rfl hs) (sy_use hG hM hm' hl hf hd)) ?_
  rw [hst]
  show (if 1 = 1 ∧ 64 ≤ a then (match w[a - 64]? with
      | some (.inl l) => if px_ix (Int32.ofInt (sy_e ρ ix)) l.length = true then some (r.map (sy_v ρ τ), w.set (a - 64) (.inl (l.set (Int32.ofInt (sy_e ρ ix)).toNatClampNeg (Int32.ofInt (sy_e ρ e)))), 0, 0) else none
      | _ => none) else none) = _
  rw [if_pos ⟨rfl, ha⟩, l1]
  show (if px_ix (Int32.ofInt (sy_e ρ ix)) l.length = true then _ else none) = _
  rw [if_pos x1, x2]
/-- may an int of this range stand in a field of this type -/
def sy_ft (t : FieldType) (v : Int × Int) : Bool := match t with
  | .int => true
  | .boolean => decide (0 ≤ v.1) && decide (v.2 ≤ 1)
  | _ => false
theorem sy_ft_ok {t : FieldType} {v : Int × Int} (h : sy_ft t v = true) {z : Int32} (hz : v.1 ≤ z.toInt ∧ z.toInt ≤ v.2) : px_fit t (.int z) = true := by
  unfold sy_ft at h
  split at h
  · show (decide (narrow .int (.int z) = .int z) && fits .int (.int z)) = true
    rw [Bool.and_eq_true]
    exact ⟨decide_eq_true rfl, rfl⟩
  · simp only [Bool.and_eq_true, decide_eq_true_eq] at h
    have h2 : z = 0 ∨ z = 1 := by
      rcases (show z.toInt = 0 ∨ z.toInt = 1 by omega) with h3 | h3
      · exact Or.inl (Int32.toInt_inj.mp h3)
      · exact Or.inr (Int32.toInt_inj.mp h3)
    rcases h2 with rfl | rfl <;> decide
  · cases h
theorem sy_goPut {a idx ci sl0 : Nat} {sl : List ((Int × Int) ⊕ Nat)} {rg : Int × Int} {e : sy_L} {k : vw_C} {r : List sy_A} (hM : q.1[S.2.1.1]? = some M) (hq : px_look M.2.1 S.2.1.2.1 = some (.putfield idx, 3)) (hst : S.2.1.2.2.2 = .inl e :: .inr (.inl a) :: r) (ha : 64 ≤ a) (hA : q.2.1[a - 64]? = some (.inr (.inr (ci, sl)))) (hL : px_look M.2.2.1 idx = some (ci, sl0)) (hk : x.1[ci]? = some k) (hft : sy_ft (px_ty k.2.1 sl0) (sy_vb S.1.1 e) = true) (hfin : (k.2.1 sl0).2.2.2 = false) (hr : sl[sl0]? = some (.inl rg)) (hv1 : rg.1 ≤ (sy_vb S.1.1 e).1) (hv2 : (sy_vb S.1.1 e).2 ≤ rg.2) (hmay : sy_may q.2.2.1 (a - 64) sl0 = true) (hjw : sy_jw q.2.2.1 (a - 64) sl0 sl0 = true)
    (hG : sy_Good x q (sy_at S (S.1.1, S.1.2.1, S.1.2.2.1, (a - 64, sy_c sl0, .inl e) :: sy_drop S.1.1 S.1.2.2.1 (a - 64) (sy_c sl0) S.1.2.2.2) (S.2.1.2.1 + 3) S.2.1.2.2.1 r)) : sy_Good x q S := by
  refine sy_open (fun ρ τ w lc cf d hm hl hf hd => ?_) hM
  obtain ⟨m1, m2, m3, m4, m5, m6⟩ := id hm
  obtain ⟨o, l1, l2, l3, l4, l5⟩ := sy_cell_o m5 hA
  have hvb := sy_vb_ok m2 e
  have hz : sl0 < o.2.length := by
    rw [l3]
    exact (List.getElem?_eq_some_iff.mp hr).1
  have ec : (sy_e ρ (sy_c (sl0 : Int))).toNat = sl0 := by rw [sy_c_e]; omega
  have hg : ∀ k' i' : Nat, ¬ (k' = a - 64 ∧ i' = sl0) → sy_get (w.set (a - 64) (.inr (.inr (o.1, o.2.set sl0 (.int (Int32.ofInt (sy_e ρ e))))))) k' i' = sy_get w k' i' := by
    intro k' i' hne
    rw [sy_get_set l1]
    split
    · rename_i hk
      subst hk
      have hi : sl0 ≠ i' := fun z => hne ⟨rfl, z.symm⟩
      rw [sy_getO l1]
      show (o.2.set _ _)[i']? = _
      rw [List.getElem?_set_ne hi]
    · rfl
  have hm' : sy_mem q (S.1.1, S.1.2.1, S.1.2.2.1, (a - 64, sy_c sl0, .inl e) :: sy_drop S.1.1 S.1.2.2.1 (a - 64) (sy_c sl0) S.1.2.2.2) ρ τ (w.set (a - 64) (.inr (.inr (o.1, o.2.set sl0 (.int (Int32.ofInt (sy_e ρ e))))))) := by
    refine ⟨m1, m2, m3, fun f hf => ?_, sy_W_set m5 hA ?_, sy_fr_set m6 hmay hjw (Int.le_refl _) (Int.le_refl _) hg⟩
    · rcases List.mem_cons.mp hf with rfl | hf
      · show 0 ≤ sy_e ρ (sy_c (sl0 : Int)) ∧ sy_get _ (a - 64) (sy_e ρ (sy_c (sl0 : Int))).toNat = some (.int (Int32.ofInt (sy_e ρ e)))
        rw [ec, sy_get_set l1, if_pos rfl]
        refine ⟨by rw [sy_c_e]; omega, ?_⟩
        show (o.2.set _ _)[sl0]? = _
        rw [List.getElem?_set_self hz]
      · exact sy_drop_ok m2 m3 m4 (by rw [sy_c_e]; omega) (fun k' i' h => hg k' i' (fun z => h (by rw [ec]; exact z))) f hf
    · refine ⟨l2, by rw [List.length_set]; exact l3, fun i v hv => ?_, fun i v hv => ?_⟩
      · by_cases hi : sl0 = i
        · subst hi
          rw [hr] at hv
          cases hv
          exact ⟨_, List.getElem?_set_self hz, Int.le_trans hv1 hvb.1, Int.le_trans hvb.2 hv2⟩
        · rw [List.getElem?_set_ne hi]
          exact l4 i v hv
      · by_cases hi : sl0 = i
        · subst hi
          rw [hr] at hv
          cases hv
        · rw [List.getElem?_set_ne hi]
          exact l5 i v hv
  refine (fun hs : px_s2 x.1 x.2.1 (.putfield idx) 3 (pf_scr x.2.2.2.1 cf) M.1.1.name M.1.1.cls M.2.2 (S.2.1.2.2.2.map (sy_v ρ τ)) w = some (r.map (sy_v ρ τ), w.set (a - 64) (.inr (.inr (o.1, o.2.set sl0 (.int (Int32.ofInt (sy_e ρ e)))))), 0, 0) => pf_next (px_step_2 hq rfl hs) (sy_use hG hM hm' hl hf hd)) ?_
  rw [hst]
  show (if 3 = 3 ∧ 64 ≤ a then (match px_look M.2.2.1 idx, w[a - 64]? with
    | some q, some (.inr (.inr o)) => (match x.1[q.1]? with
      | some k => if q.1 = o.1 ∧ q.2 < o.2.length ∧ px_fit (px_ty k.2.1 q.2) (.int (Int32.ofInt (sy_e ρ e))) = true ∧ ((k.2.1 q.2).2.2.2 = true → M.1.1.name = "<init>" ∧ (k.2.1 q.2).1 = M.1.1.cls) then some (r.map (sy_v ρ τ), w.set (a - 64) (.inr (.inr (o.1, o.2.set q.2 (.int (Int32.ofInt (sy_e ρ e)))))), 0, 0) else none
      | none => none)
    | _, _ => none) else none) = _
  rw [if_pos ⟨rfl, ha⟩, hL, l1]
  show (match x.1[ci]? with
      | some k => if ci = o.1 ∧ sl0 < o.2.length ∧ px_fit (px_ty k.2.1 sl0) (.int (Int32.ofInt (sy_e ρ e))) = true ∧ ((k.2.1 sl0).2.2.2 = true → M.1.1.name = "<init>" ∧ (k.2.1 sl0).1 = M.1.1.cls) then some (r.map (sy_v ρ τ), w.set (a - 64) (.inr (.inr (o.1, o.2.set sl0 (.int (Int32.ofInt (sy_e ρ e)))))), 0, 0) else none
      | none => none) = _
  rw [hk]
  show (if ci = o.1 ∧ sl0 < o.2.length ∧ px_fit (px_ty k.2.1 sl0) (.int (Int32.ofInt (sy_e ρ e))) = true ∧ ((k.2.1 sl0).2.2.2 = true → M.1.1.name = "<init>" ∧ (k.2.1 sl0).1 = M.1.1.cls) then _ else none) = _
  rw [if_pos ⟨l2.symm, hz, sy_ft_ok hft hvb, fun z => by rw [hfin] at z; cases z⟩]
end WR

end
