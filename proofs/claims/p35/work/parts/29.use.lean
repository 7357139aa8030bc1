noncomputable section
/-! A CALL BY CONTRACT -/
theorem sy_sbs_w {σ : List sy_L} : ∀ (l : List (Nat × Int)) (z : sy_L), sy_sbs σ l = some z → l.all (fun t => decide (t.1 < σ.length)) = true
  | [], _, _ => rfl
  | t :: r, z, h => by
    have h0 : Option.rec (motive := fun _ => Option sy_L) none (fun e => Option.rec (motive := fun _ => Option sy_L) none (fun z => some (sy_add (sy_scl t.2 e) z)) (sy_sbs σ r)) (qx_nth σ t.1) = some z := h
    cases he : qx_nth σ t.1 with
    | none =>
      rw [he] at h0
      cases h0
    | some e =>
      rw [he] at h0
      cases hy : sy_sbs σ r with
      | none =>
        rw [hy] at h0
        cases h0
      | some y =>
        rw [qx_nth_ok] at he
        rw [List.all_cons, Bool.and_eq_true]
        exact ⟨decide_eq_true (List.getElem?_eq_some_iff.mp he).1, sy_sbs_w r y hy⟩
theorem sy_sb_to {ρ ρ' : Nat → Int} {σ : List sy_L} (hag : ∀ i, i < σ.length → ρ' i = sy_ρ ρ σ i) {e z : sy_L} (h : sy_sb σ e = some z) : sy_e ρ z = sy_e ρ' e := by
  rw [sy_sb_e h]
  unfold sy_sb at h
  cases hy : sy_sbs σ e.2 with
  | none =>
    rw [hy] at h
    cases h
  | some y => exact (sy_ext_l hag (e := e) (sy_sbs_w e.2 y hy)).symm
theorem sy_sbA_to {ρ ρ' : Nat → Int} {τ τ' : Nat → Int64} {σ : List sy_L} {σL : List Nat} (hag : ∀ i, i < σ.length → ρ' i = sy_ρ ρ σ i) (hal : ∀ i, i < σL.length → τ' i = sy_τ τ σL i) {a z : sy_A} (h : sy_sbA σ σL a = some z) : sy_v ρ τ z = sy_v ρ' τ' a := by
  match a, h with
  | .inl e, h =>
    obtain ⟨y, hy, rfl⟩ := Option.map_eq_some_iff.mp h
    show Value.int _ = Value.int _
    rw [sy_sb_to hag hy]
  | .inr (.inl k), h => cases h; rfl
  | .inr (.inr s), h =>
    obtain ⟨y, hy, rfl⟩ := Option.map_eq_some_iff.mp h
    show Value.long (τ y) = Value.long (τ' s)
    rw [hal s (List.getElem?_eq_some_iff.mp hy).1]
    unfold sy_τ
    rw [hy]
def sy_eqs (R : sy_T) (σ : List sy_L) (σL : List Nat) : List sy_A → List sy_A → Bool
  | [], [] => true
  | a :: r, p :: s => (match sy_sbA σ σL p with
    | some b => sy_eqA R a b
    | none => false) && sy_eqs R σ σL r s
  | _, _ => false
theorem sy_eqs_ok {ρ : Nat → Int} {τ : Nat → Int64} {R : sy_T} (h : sy_ok ρ R) {σ : List sy_L} {σL : List Nat} : ∀ (as ps : List sy_A), sy_eqs R σ σL as ps = true → as.map (sy_v ρ τ) = ps.map (sy_v (sy_ρ ρ σ) (sy_τ τ σL))
  | [], [], _ => rfl
  | [], _ :: _, h2 => by simp [sy_eqs] at h2
  | _ :: _, [], h2 => by simp [sy_eqs] at h2
  | a :: r, p :: s, h2 => by
    unfold sy_eqs at h2
    rw [Bool.and_eq_true] at h2
    obtain ⟨h3, h4⟩ := h2
    split at h3
    · rename_i b hb
      rw [List.map_cons, List.map_cons, sy_eqs_ok h r s h4, sy_eqA_e (τ := τ) h h3, sy_sbA_e hb]
    · cases h3
def sy_wsub (W1 W2 : sy_Wr) : Bool := qx_all W1 (fun p => qx_any W2 (fun q => cond (Nat.beq q.1 p.1) (cond (Nat.ble q.2.1 p.2.1) (Nat.ble p.2.2 q.2.2) false) false))
theorem sy_wsub_ok {W1 W2 : sy_Wr} (h : sy_wsub W1 W2 = true) {k i : Nat} (hm : sy_may W2 k i = false) : sy_may W1 k i = false := by
  cases h1 : sy_may W1 k i with
  | false => rfl
  | true =>
    obtain ⟨p, hp, h2⟩ := List.any_eq_true.mp h1
    unfold sy_wsub at h
    rw [qx_all_e] at h
    have h0 := List.all_eq_true.mp h p hp
    rw [qx_any_e] at h0
    obtain ⟨q, hq, h3b⟩ := List.any_eq_true.mp h0
    simp only [Bool.and_eq_true, decide_eq_true_eq] at h2
    have h3 := And.intro (Nat.eq_of_beq_eq_true (qx_and h3b).1) (And.intro (Nat.le_of_ble_eq_true (qx_and (qx_and h3b).2).1) (Nat.le_of_ble_eq_true (qx_and (qx_and h3b).2).2))
    have : sy_may W2 k i = true := List.any_eq_true.mpr ⟨q, hq, by
      simp only [Bool.and_eq_true, decide_eq_true_eq]
      omega⟩
    rw [this] at hm
    cases hm
/-- a fact that a contract does not touch -/
def sy_unt (Wr : sy_Wr) (R : sy_T) (f : sy_Fa) : Bool := qx_all Wr (fun p => cond (Nat.beq p.1 f.1) (match sy_b R f.2.1 with
  | some b => cond (qi_le (qi_add b.2 1) (Int.ofNat p.2.1)) true (qi_le (Int.ofNat p.2.2) b.1)
  | none => false) true)
theorem sy_unt_ok {Wr : sy_Wr} {R : sy_T} {f : sy_Fa} {ρ : Nat → Int} (h : sy_ok ρ R) (hu : sy_unt Wr R f = true) (h0 : 0 ≤ sy_e ρ f.2.1) : sy_may Wr f.1 (sy_e ρ f.2.1).toNat = false := by
  cases h1 : sy_may Wr f.1 (sy_e ρ f.2.1).toNat with
  | false => rfl
  | true =>
    obtain ⟨p, hp, h2⟩ := List.any_eq_true.mp h1
    unfold sy_unt at hu
    rw [qx_all_e] at hu
    have h3 := List.all_eq_true.mp hu p hp
    simp only [Bool.and_eq_true, decide_eq_true_eq] at h2
    rw [h2.1, Nat.beq_refl] at h3
    have h4 : (match sy_b R f.2.1 with
      | some b => cond (qi_le (qi_add b.2 1) (Int.ofNat p.2.1)) true (qi_le (Int.ofNat p.2.2) b.1)
      | none => false) = true := h3
    split at h4
    · rename_i b hb
      have := sy_b_e h hb
      rcases qx_or h4 with h5 | h5
      · have h6 : qi_add b.2 1 ≤ (p.2.1 : Int) := qi_le_e.mp h5
        rw [qi_add_e] at h6
        omega
      · have h6 : (p.2.2 : Int) ≤ b.1 := qi_le_e.mp h5
        omega
    · cases h4
/-- the state behind a contract's end -/
def sy_σ2 (S : sy_S) (C : sy_Co) (σ : List sy_L) (p : sy_Po) : List sy_L := σ ++ (List.range (p.1.1.length - C.2.1.1.length)).map (fun i => sy_x (S.1.1.length + i))
def sy_σL2 (S : sy_S) (p : sy_Po) : List Nat := (List.range p.1.2.1).map (fun i => S.1.2.1 + i)
def sy_sbF (σ : List sy_L) (σL : List Nat) (f : sy_Fa) : Option sy_Fa := match sy_sb σ f.2.1, sy_sbA σ σL f.2.2 with
  | some a, some b => some (f.1, a, b)
  | _, _ => none
def sy_ag (S : sy_S) (C : sy_Co) (σ : List sy_L) (p : sy_Po) : sy_G := (S.1.1 ++ p.1.1.drop C.2.1.1.length, S.1.2.1 + p.1.2.1, S.1.2.2.1 ++ p.1.2.2.1.filterMap (sy_sb (sy_σ2 S C σ p)), p.1.2.2.2.filterMap (sy_sbF (sy_σ2 S C σ p) (sy_σL2 S p)) ++ S.1.2.2.2.filter (sy_unt C.2.2.2.1 S.1.1))
def sy_aft (S : sy_S) (C : sy_Co) (σ : List sy_L) (rest : List sy_A) (p : sy_Po) : Option sy_S :=
  match p.2 with
  | none => some (sy_at S (sy_ag S C σ p) (S.2.1.2.1 + 3) S.2.1.2.2.1 rest)
  | some a => (sy_sbA (sy_σ2 S C σ p) (sy_σL2 S p) a).map (fun v => sy_at S (sy_ag S C σ p) (S.2.1.2.1 + 3) S.2.1.2.2.1 (v :: rest))
section US
variable {x : sy_X} {q : sy_Q} {S : sy_S} {M M' : px_M}
theorem sy_goMet {i : Instr} {len : Nat} {z : Nat × List sy_A × List sy_A} {C : sy_Co} {σ : List sy_L} {σL : List Nat} (hC : sy_Met x.1 x.2.1 x.2.2.1 q.2.1 x.2.2.2.2.1 C) (hw : sy_wS S = true) (hM : q.1[S.2.1.1]? = some M) (hq : px_look M.2.1 S.2.1.2.1 = some (i, len)) (hz : sy_cl x.1 q.2.1 x.2.2.1 i len M.2.2 S.2.1.2.2.2 = some z) (hj : z.1 = C.1) (hM' : x.2.2.1[z.1]? = some M') (hlen : sy_len z.2.1 ≤ M'.1.2.2.1) (hdep : S.2.2.length + 1 + C.2.2.2.2.1 ≤ x.2.2.2.2.2.2)
    (hfit : sy_fitG S.1 σ σL C.2.1 = true) (hσ : σ.length = C.2.1.1.length) (hσw : σ.all (sy_wl S.1.1.length) = true) (has : sy_eqs S.1.1 σ σL z.2.1 C.2.2.1 = true) (hWr : sy_wsub C.2.2.2.1 q.2.2.1 = true) (hjc : sy_jc C.2.2.2.1 q.2.2.1 = true) (hrw : z.2.2.all (sy_wa S.1.1.length S.1.2.1) = true)
    (hG : ∀ p ∈ C.2.2.2.2.2, C.2.1.1.length ≤ p.1.1.length ∧ ∃ S', sy_aft S C σ z.2.2 p = some S' ∧ sy_Good x q S') : sy_Good x q S := by
  refine sy_open (fun ρ τ w lc cf d hm hl hf hd => ?_) hM
  have hcf : S.2.2.length = cf.length := by
    have key : ∀ (fs : List sy_Fr) (cs : List pf_F), sy_frs ρ τ q.1 fs cs → fs.length = cs.length := by
      intro fs
      induction fs with
      | nil =>
        intro cs h
        cases cs with
        | nil => rfl
        | cons => exact h.elim
      | cons f fs ih =>
        intro cs h
        cases cs with
        | nil => exact h.elim
        | cons c cs => rw [List.length_cons, List.length_cons, ih cs h.2]
    exact key _ _ hf
  obtain ⟨⟨m1, m1'⟩, m2, m3, m4, m5, m6⟩ := id hm
  obtain ⟨c0, c3, c6, c4⟩ := sy_cl_ok (ρ := ρ) (τ := τ) (d := d) m5 hz
  obtain ⟨g1, g2, g3⟩ := sy_fitG_ok m2 m3 m4 hfit
  have hargs := sy_eqs_ok (τ := τ) m2 _ _ has
  cases d with
  | zero => omega
  | succ d =>
    obtain ⟨n, v, w', hx, k1, k2, p, hp, ρ', τ', r1, r2, r3, r4, r5⟩ := hC M' (by rw [← hj]; exact hM') (sy_ρ ρ σ) (sy_τ τ σL) w d g1 g2 g3 m5 (sy_jc_pre hjc m6.2) (by omega)
    obtain ⟨n1, S', hS', hGood⟩ := hG p hp
    have hstep := px_step_4 (cl := x.1) (lt := x.2.1) (P := x.2.2.1) (d := d + 1) (scr := pf_scr x.2.2.2.1 cf) (lv := lc) hq c0 c3 c6 c4
    rw [← hargs] at hx
    refine pf_met hstep hM' (by rw [sy_len_ok]; exact hlen) hx ?_
    -- the new symbols
    let ρS : Nat → Int := fun i => if i < S.1.1.length then ρ i else ρ' (C.2.1.1.length + (i - S.1.1.length))
    let τS : Nat → Int64 := fun i => if i < S.1.2.1 then τ i else τ' (i - S.1.2.1)
    have hag : ∀ i, i < S.1.1.length → ρS i = ρ i := fun i hi => if_pos hi
    have hal : ∀ i, i < S.1.2.1 → τS i = τ i := fun i hi => if_pos hi
    have hlen2 : (sy_σ2 S C σ p).length = p.1.1.length := by
      unfold sy_σ2
      rw [List.length_append, List.length_map, List.length_range, hσ]
      omega
    have hal2 : ∀ i, i < (sy_σL2 S p).length → τ' i = sy_τ τS (sy_σL2 S p) i := by
      intro i hi
      unfold sy_σL2 at hi
      rw [List.length_map, List.length_range] at hi
      unfold sy_τ sy_σL2
      rw [List.getElem?_map, List.getElem?_range hi]
      show τ' i = if S.1.2.1 + i < S.1.2.1 then _ else τ' (S.1.2.1 + i - S.1.2.1)
      rw [if_neg (by omega), Nat.add_sub_cancel_left]
    have hag2 : ∀ i, i < (sy_σ2 S C σ p).length → ρ' i = sy_ρ ρS (sy_σ2 S C σ p) i := by
      intro i hi
      rw [hlen2] at hi
      unfold sy_ρ sy_σ2
      by_cases hi0 : i < C.2.1.1.length
      · rw [List.getElem?_append_left (by omega), r1 i hi0]
        unfold sy_ρ
        cases hs : σ[i]? with
        | none => rfl
        | some f =>
          show sy_e ρ f = sy_e ρS f
          exact (sy_ext_l hag (List.all_eq_true.mp hσw f (List.mem_of_getElem? hs))).symm
      · rw [List.getElem?_append_right (by omega), hσ, List.getElem?_map, List.getElem?_range (by omega)]
        show ρ' i = sy_e ρS (sy_x (S.1.1.length + (i - C.2.1.1.length)))
        rw [sy_x_e]
        show ρ' i = if S.1.1.length + (i - C.2.1.1.length) < S.1.1.length then _ else ρ' (C.2.1.1.length + (S.1.1.length + (i - C.2.1.1.length) - S.1.1.length))
        rw [if_neg (by omega), show C.2.1.1.length + (S.1.1.length + (i - C.2.1.1.length) - S.1.1.length) = i by omega]
    rw [sy_wS_eq] at hw
    unfold sy_wS0 sy_wg at hw
    simp only [Bool.and_eq_true] at hw
    obtain ⟨⟨hw1, hw2⟩, hw3, hw4⟩ := hw
    have hmem : sy_mem q (sy_ag S C σ p) ρS τS w' := by
      refine ⟨⟨?_, fun i hi => ?_⟩, fun i pr hpr => ?_, fun e he => ?_, fun f hf2 => ?_, k1, fun k i hk => (k2.1 k i (sy_wsub_ok hWr hk)).trans (m6.1 k i hk), sy_jc_ok hjc m6.2 k2⟩
      · show _ ≤ (S.1.1 ++ p.1.1.drop C.2.1.1.length).length
        rw [List.length_append]
        omega
      · rw [hag i (by omega)]
        exact m1' i hi
      · have hp' : (S.1.1 ++ p.1.1.drop C.2.1.1.length)[i]? = some pr := hpr
        by_cases hi : i < S.1.1.length
        · rw [List.getElem?_append_left hi] at hp'
          rw [hag i hi]
          exact m2 i pr hp'
        · rw [List.getElem?_append_right (by omega), List.getElem?_drop] at hp'
          have e : ρS i = ρ' (C.2.1.1.length + (i - S.1.1.length)) := if_neg hi
          rw [e]
          exact r2 _ pr hp'
      · rcases List.mem_append.mp he with h1 | h1
        · rw [sy_ext_l hag (List.all_eq_true.mp hw1 e h1)]
          exact m3 e h1
        · obtain ⟨c, hc, hce⟩ := List.mem_filterMap.mp h1
          rw [sy_sb_to hag2 hce]
          exact r3 c hc
      · rcases List.mem_append.mp hf2 with h1 | h1
        · obtain ⟨f0, hf0, hfe⟩ := List.mem_filterMap.mp h1
          unfold sy_sbF at hfe
          split at hfe
          · rename_i a b ha hb
            cases hfe
            show 0 ≤ sy_e ρS a ∧ sy_get w' f0.1 (sy_e ρS a).toNat = some (sy_v ρS τS b)
            rw [sy_sb_to hag2 ha, sy_sbA_to hag2 hal2 hb]
            exact r4 f0 hf0
          · cases hfe
        · obtain ⟨h2, hu⟩ := List.mem_filter.mp h1
          have hf3 := List.all_eq_true.mp hw2 f h2
          rw [Bool.and_eq_true] at hf3
          have h4 := m4 f h2
          rw [sy_ext_l hag hf3.1, sy_ext_a hag hal hf3.2, k2.1 f.1 _ (sy_unt_ok m2 hu h4.1)]
          exact h4
    have hlS : sy_lvok ρS τS S.2.1.2.2.1 lc := by
      unfold sy_wf at hw3
      simp only [Bool.and_eq_true, List.all_eq_true] at hw3
      intro y hy
      rw [sy_ext_a hag hal (hw3.1 y hy)]
      exact hl y hy
    have hfS := sy_ext_fs hag hal hw4 hf
    have hrest : z.2.2.map (sy_v ρ τ) = z.2.2.map (sy_v ρS τS) := List.map_congr_left (fun a ha => (sy_ext_a hag hal (List.all_eq_true.mp hrw a ha)).symm)
    unfold sy_aft at hS'
    rw [r5]
    show pf_Fin _ _ _ _ _ _ cf (d + 1) M (S.2.1.2.1 + 3) lc ((p.2.map (sy_v ρ' τ')).toList ++ z.2.2.map (sy_v ρ τ)) w'
    rw [hrest]
    split at hS'
    · rename_i hp2
      cases hS'
      rw [hp2]
      exact sy_use hGood hM hmem hlS hfS hd
    · rename_i a hp2
      obtain ⟨b, hb, he⟩ := Option.map_eq_some_iff.mp hS'
      cases he
      rw [hp2]
      have hv : sy_v ρS τS b = sy_v ρ' τ' a := sy_sbA_to hag2 hal2 hb
      have h9 := sy_use hGood hM hmem hlS hfS hd
      rw [List.map_cons, hv] at h9
      exact h9
end US

end
