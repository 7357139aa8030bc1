noncomputable section
/-! THE REFERENCE'S KEEP AND AGAIN, WITH CHOSEN PLACES FOLLOWED -/
theorem hb_k292 {M : px_M} (hM : hb_P[292]? = some M) {w : px_W} {d : Nat} (h4 : sy_W hb_A w) (j2 : sy_jp 2 w) : ∃ (n : Nat) (v : Option Value) (w' : px_W), px_exec hb_cl hb_lt hb_P n d none M 0 (lv_args 0 [.ref 215]) [] w (0, 0) = some (v, w', (0, 0)) ∧ sy_W hb_A w' ∧ (∀ k i : Nat, sy_may [(151, 2, 3), (153, 0, 1580)] k i = false → sy_get w' k i = sy_get w k i) ∧ v = some (.int (Int32.ofInt 1)) ∧ (∀ k, k < 1580 → sy_get w' 153 k = sy_get w 152 k) ∧ sy_get w' 151 2 = some (.int 1) ∧ sy_jp 2 w' ∧ sy_jp 4 w' := by
  have hok : ∀ k : Nat, k < 1580 → sy_ok ((fun k : Nat => sy_lst [(k : Int), sy_at0 w 152 k]) k) (hb_G292 : sy_Co).2.1.1 ∧ sy_cok ((fun k : Nat => sy_lst [(k : Int), sy_at0 w 152 k]) k) (hb_G292 : sy_Co).2.1.2.2.1 ∧ sy_fok ((fun k : Nat => sy_lst [(k : Int), sy_at0 w 152 k]) k) (fun _ => 0) w (hb_G292 : sy_Co).2.1.2.2.2 ∧ (hb_G292 : sy_Co).2.2.1.map (sy_v ((fun k : Nat => sy_lst [(k : Int), sy_at0 w 152 k]) k) (fun _ => 0)) = [.ref 215] := by
    intro k hk
    refine ⟨sy_r2 rfl (by omega) (sy_at0_b _ _ _), fun c hc => absurd hc List.not_mem_nil, fun f hf => ?_, rfl⟩
    · have e0 : sy_e (sy_lst [(k : Int), sy_at0 w 152 k]) (0, [(0, 1)]) = (k : Int) := sy_x_e _ 0
      have e1 : sy_e (sy_lst [(k : Int), sy_at0 w 152 k]) (0, [(1, 1)]) = sy_at0 w 152 k := sy_x_e _ 1
      have kn : ((k : Int)).toNat = k := by omega
      simp only [hb_G292, List.mem_cons, List.not_mem_nil, or_false] at hf
      subst hf
      simp only [sy_v_i, e0, e1, kn]
      exact ⟨by omega, (sy_at0_ok h4 hb_A152 hk).1⟩
  obtain ⟨n, v, w', hx, hK⟩ := sy_fam hb_G292_ok hM (d := d) (Nat.zero_le _) h4 (by intro j hj; rw [show sy_js hb_G292.2.2.2.1 = [] by decide +kernel] at hj; cases hj) 1580 (by omega) (fun k : Nat => sy_lst [(k : Int), sy_at0 w 152 k]) (fun _ => 0) [.ref 215] hok
  obtain ⟨k1, k2, p0, hp0, ρ0, τ0, -, -, -, hF0, hv⟩ := hK 0 (by omega)
  have hv1 : v = some (.int (Int32.ofInt 1)) := by
    rw [List.mem_singleton.mp hp0] at hv
    rw [hv]
    show some (Value.int (Int32.ofInt (sy_e ρ0 (1, [])))) = _
    rw [show sy_e ρ0 (1, []) = 1 from sy_c_e ρ0 1]
  have hk1 : sy_get w' 151 2 = some (.int 1) := by
    rw [List.mem_singleton.mp hp0] at hF0
    have f2 := (hF0 (151, (2, []), .inl (1, [])) (List.mem_cons_of_mem _ List.mem_cons_self)).2
    have e2 : sy_e ρ0 (2, []) = 2 := sy_c_e ρ0 2
    have e1 : sy_e ρ0 (1, []) = 1 := sy_c_e ρ0 1
    simp only [sy_v_i, e1, e2] at f2
    exact f2
  have key : ∀ k, k < 1580 → sy_get w' 153 k = sy_get w 152 k := by
    intro k hk
    obtain ⟨-, -, p, hp, ρ', τ', r1, r2, r3, r4, -⟩ := hK k hk
    rw [List.mem_singleton.mp hp] at r4
    have q0 : ρ' 0 = (k : Int) := r1 0 (by decide)
    have q1 : ρ' 1 = sy_at0 w 152 k := r1 1 (by decide)
    have ex : ∀ i : Nat, sy_e ρ' (0, [(i, 1)]) = ρ' i := fun i => sy_x_e ρ' i
    have kn : ((k : Int)).toNat = k := by omega
    have f1 := (r4 (153, (0, [(0, 1)]), .inl (0, [(1, 1)])) List.mem_cons_self).2
    simp only [sy_v_i, ex, q0, q1, kn] at f1
    rw [f1]
    exact (sy_at0_ok h4 hb_A152 hk).1.symm
  refine ⟨n, v, w', hx, k1, k2.1, hv1, key, hk1, ?_, ?_⟩
  · refine sy_jp_fr (fun p hp i _ _ => k2.1 p.1 i ?_) j2
    simp only [sy_jd, List.mem_cons, List.not_mem_nil, or_false] at hp
    rcases hp with rfl | rfl <;> exact sy_mayN (by decide +kernel)
  · intro _
    refine ⟨fun k hk => ?_, fun s hs m h6 h7 => ?_⟩
    · rw [key k hk]
      exact sy_at0_i h4 hb_A152 hk
    · rw [key 6 (by omega)] at h6
      rw [key (250 + 6 * s) (by omega)]
      exact j2 s hs m h6 h7
theorem hb_k293 {M : px_M} (hM : hb_P[293]? = some M) {w : px_W} {d : Nat} (h4 : sy_W hb_A w) (j4 : sy_jp 4 w) : ∃ (n : Nat) (v : Option Value) (w' : px_W), px_exec hb_cl hb_lt hb_P n d none M 0 (lv_args 0 [.ref 215]) [] w (0, 0) = some (v, w', (0, 0)) ∧ sy_W hb_A w' ∧ (∀ k i : Nat, sy_may hb_G293.2.2.2.1 k i = false → sy_get w' k i = sy_get w k i) ∧ ∀ k, k < 1580 → (v = some (.int (Int32.ofInt (-3))) ∧ sy_get w' 152 k = sy_get w 152 k ∧ sy_get w 151 2 = some (.int 0)) ∨ (v = some (.int (Int32.ofInt 1)) ∧ sy_get w' 152 k = sy_get w 153 k ∧ sy_get w 151 2 = some (.int 1)) := by
  have hok : ∀ k : Nat, k < 1580 → sy_ok ((fun k : Nat => sy_lst [(k : Int), sy_at0 w 153 k, sy_at0 w 152 k]) k) (hb_G293 : sy_Co).2.1.1 ∧ sy_cok ((fun k : Nat => sy_lst [(k : Int), sy_at0 w 153 k, sy_at0 w 152 k]) k) (hb_G293 : sy_Co).2.1.2.2.1 ∧ sy_fok ((fun k : Nat => sy_lst [(k : Int), sy_at0 w 153 k, sy_at0 w 152 k]) k) (fun _ => 0) w (hb_G293 : sy_Co).2.1.2.2.2 ∧ (hb_G293 : sy_Co).2.2.1.map (sy_v ((fun k : Nat => sy_lst [(k : Int), sy_at0 w 153 k, sy_at0 w 152 k]) k) (fun _ => 0)) = [.ref 215] := by
    intro k hk
    refine ⟨sy_r3 rfl (by omega) (sy_at0_b _ _ _) (sy_at0_b _ _ _), fun c hc => absurd hc List.not_mem_nil, fun f hf => ?_, rfl⟩
    · have e0 : sy_e (sy_lst [(k : Int), sy_at0 w 153 k, sy_at0 w 152 k]) (0, [(0, 1)]) = (k : Int) := sy_x_e _ 0
      have e1 : sy_e (sy_lst [(k : Int), sy_at0 w 153 k, sy_at0 w 152 k]) (0, [(1, 1)]) = sy_at0 w 153 k := sy_x_e _ 1
      have e2 : sy_e (sy_lst [(k : Int), sy_at0 w 153 k, sy_at0 w 152 k]) (0, [(2, 1)]) = sy_at0 w 152 k := sy_x_e _ 2
      have kn : ((k : Int)).toNat = k := by omega
      simp only [hb_G293, List.mem_cons, List.not_mem_nil, or_false] at hf
      rcases hf with rfl | rfl
      · simp only [sy_v_i, e0, e1, kn]
        exact ⟨by omega, (sy_at0_ok h4 hb_A153 hk).1⟩
      · simp only [sy_v_i, e0, e2, kn]
        exact ⟨by omega, (sy_at0_ok h4 hb_A152 hk).1⟩
  obtain ⟨n, v, w', hx, hK⟩ := sy_fam hb_G293_ok hM (d := d) (Nat.zero_le _) h4 (by intro j hj; rw [show sy_js hb_G293.2.2.2.1 = [4] by decide +kernel] at hj; rw [List.mem_singleton.mp hj]; exact j4) 1580 (by omega) (fun k : Nat => sy_lst [(k : Int), sy_at0 w 153 k, sy_at0 w 152 k]) (fun _ => 0) [.ref 215] hok
  obtain ⟨k1, k2, -⟩ := hK 0 (by omega)
  refine ⟨n, v, w', hx, k1, k2.1, ?_⟩
  intro k hk
  obtain ⟨-, -, p, hp, ρ', τ', r1, r2, r3, r4, hv⟩ := hK k hk
  have q0 : ρ' 0 = (k : Int) := r1 0 (by decide)
  have q1 : ρ' 1 = sy_at0 w 153 k := r1 1 (by decide)
  have q2 : ρ' 2 = sy_at0 w 152 k := r1 2 (by decide)
  have ex : ∀ i : Nat, sy_e ρ' (0, [(i, 1)]) = ρ' i := fun i => sy_x_e ρ' i
  have kn : ((k : Int)).toNat = k := by omega
  simp only [hb_G293, List.mem_cons, List.not_mem_nil, or_false] at hp
  rcases hp with rfl | rfl
  · refine .inl ⟨?_, ?_, ?_⟩
    · rw [hv]
      show some (Value.int (Int32.ofInt (sy_e ρ' (-3, [])))) = _
      rw [show sy_e ρ' (-3, []) = -3 from sy_c_e ρ' (-3)]
    · have f1 := (r4 (152, (0, [(0, 1)]), .inl (0, [(2, 1)])) List.mem_cons_self).2
      simp only [sy_v_i, ex, q0, q2, kn] at f1
      rw [f1]
      exact (sy_at0_ok h4 hb_A152 hk).1.symm
    · have f2 := (r4 (151, (2, []), .inl (0, [])) (List.mem_cons_of_mem _ List.mem_cons_self)).2
      have e2 : sy_e ρ' (2, []) = 2 := sy_c_e ρ' 2
      have e1 : sy_e ρ' (0, []) = 0 := sy_c_e ρ' 0
      simp only [sy_v_i, e1, e2] at f2
      rw [← k2.1 151 2 (sy_mayN (by decide +kernel))]
      exact f2
  · refine .inr ⟨?_, ?_, ?_⟩
    · rw [hv]
      show some (Value.int (Int32.ofInt (sy_e ρ' (1, [])))) = _
      rw [show sy_e ρ' (1, []) = 1 from sy_c_e ρ' 1]
    · have f1 := (r4 (152, (0, [(0, 1)]), .inl (0, [(1, 1)])) List.mem_cons_self).2
      simp only [sy_v_i, ex, q0, q1, kn] at f1
      rw [f1]
      exact (sy_at0_ok h4 hb_A153 hk).1.symm
    · have f2 := (r4 (151, (2, []), .inl (1, [])) (List.mem_cons_of_mem _ List.mem_cons_self)).2
      have e2 : sy_e ρ' (2, []) = 2 := sy_c_e ρ' 2
      have e1 : sy_e ρ' (1, []) = 1 := sy_c_e ρ' 1
      simp only [sy_v_i, e1, e2] at f2
      rw [← k2.1 151 2 (sy_mayN (by decide +kernel))]
      exact f2
theorem hb_may293 {k i : Nat} (h : sy_may [(152, 0, 1580)] k i = false) : sy_may hb_G293.2.2.2.1 k i = false := by
  show sy_may ((1099511627780, 0, 0) :: [(152, 0, 1580)]) k i = false
  unfold sy_may at h ⊢
  rw [List.any_cons, h]
  simp
theorem hb_01 {w : px_W} (h : sy_get w 151 2 = some (.int 0)) (h' : sy_get w 151 2 = some (.int 1)) : False := by
  rw [h] at h'
  have h3 := Option.some.inj h'
  injection h3 with h4
  exact absurd h4 (by decide)
/-- chosen places of a cell, a symbol each -/
def hb_fx (c : Nat) (ps : List Nat) : List sy_Fa := (List.range ps.length).map (fun i => (c, sy_c ((ps.getD i 0 : Nat) : Int), .inl (sy_x i)))
theorem hb_fx_ok {ρ : Nat → Int} {τ : Nat → Int64} {w w' : px_W} {c c' : Nat} {ps : List Nat} (h : sy_fok ρ τ w (hb_fx c ps)) (hk : ∀ p ∈ ps, sy_get w' c' p = sy_get w c p) : sy_fok ρ τ w' (hb_fx c' ps) := by
  intro f hf
  obtain ⟨i, hi, rfl⟩ := List.mem_map.mp hf
  have hi2 : i < ps.length := List.mem_range.mp hi
  have h1 := h (c, sy_c ((ps.getD i 0 : Nat) : Int), .inl (sy_x i)) (List.mem_map.mpr ⟨i, hi, rfl⟩)
  have hp : ps.getD i 0 ∈ ps := by
    rw [List.getD_eq_getElem?_getD, List.getElem?_eq_getElem hi2]
    exact List.getElem_mem hi2
  have e : sy_e ρ (sy_c ((ps.getD i 0 : Nat) : Int)) = ((ps.getD i 0 : Nat) : Int) := sy_c_e _ _
  have kn : (((ps.getD i 0 : Nat) : Int)).toNat = ps.getD i 0 := by omega
  dsimp only at h1 ⊢
  rw [e, kn] at h1 ⊢
  refine ⟨by omega, ?_⟩
  rw [hk _ hp]
  exact h1.2
def hb_N292 (ps : List Nat) : sy_Co := (292, (ps.map (fun _ => sy_full), 0, [], hb_fx 152 ps), [.inr (.inl 215)], [(1099511627778, 0, 0), (1099511627780, 0, 0), (151, 2, 3), (153, 0, 1580)], 0, [((ps.map (fun _ => sy_full), 0, [], (151, sy_c 2, .inl (sy_c 1)) :: hb_fx 153 ps), some (.inl (sy_c 1)))])
def hb_N293 (ps : List Nat) : sy_Co := (293, (ps.map (fun _ => sy_full), 0, [], (151, sy_c 2, .inl (sy_c 1)) :: hb_fx 153 ps), [.inr (.inl 215)], [(1099511627778, 0, 0), (1099511627780, 0, 0), (152, 0, 1580)], 0, [((ps.map (fun _ => sy_full), 0, [], hb_fx 152 ps), some (.inl (sy_c 1)))])
def hb_O293 : sy_Co := (293, ([], 0, [], [(151, sy_c 2, .inl (sy_c 0))]), [.inr (.inl 215)], [(1099511627780, 0, 0)], 0, [(([], 0, [], []), some (.inl (sy_c (-3))))])
theorem hb_N292_ok (ps : List Nat) (hps : ps.all (fun p => decide (p < 1580)) = true) : sy_Met hb_cl hb_lt hb_P hb_A (0, 0) (hb_N292 ps) := by
  intro M hM ρ τ w d h1 _ h3 h4 hJ h5
  obtain ⟨n, v, w', hx, k1, k2, k3, k4, k5, k6, k7⟩ := hb_k292 (d := d) hM h4 (hJ 2 (by show 2 ∈ [2, 4]; decide))
  refine ⟨n, v, w', hx, k1, ⟨fun k i h => k2 k i (sy_may_cons (sy_may_cons h)), fun j hj => ?_⟩, _, List.mem_cons_self, ρ, τ, fun _ _ => rfl, h1, fun c hc => absurd hc List.not_mem_nil, fun f hf => ?_, ?_⟩
  · have hj : j ∈ [2, 4] := hj
    simp only [List.mem_cons, List.not_mem_nil, or_false] at hj
    rcases hj with rfl | rfl
    · exact k6
    · exact k7
  · rcases List.mem_cons.mp hf with rfl | hf
    · have e2 : sy_e ρ (sy_c 2) = 2 := sy_c_e ρ 2
      have e1 : sy_e ρ (sy_c 1) = 1 := sy_c_e ρ 1
      simp only [sy_v_i, e1, e2]
      exact ⟨by decide, k5⟩
    · exact hb_fx_ok h3 (fun p hp => k4 p (of_decide_eq_true (List.all_eq_true.mp hps p hp))) f hf
  · rw [k3]
    show _ = some (Value.int (Int32.ofInt (sy_e ρ (sy_c 1))))
    rw [sy_c_e]
theorem hb_N293_ok (ps : List Nat) (hps : ps.all (fun p => decide (p < 1580)) = true) : sy_Met hb_cl hb_lt hb_P hb_A (0, 0) (hb_N293 ps) := by
  intro M hM ρ τ w d h1 _ h3 h4 hJ h5
  have j2 : sy_jp 2 w := hJ 2 (by show 2 ∈ [2, 4]; decide)
  have j4 : sy_jp 4 w := hJ 4 (by show 4 ∈ [2, 4]; decide)
  have hkept : sy_get w 151 2 = some (.int 1) := by
    have f2 := (h3 (151, sy_c 2, .inl (sy_c 1)) List.mem_cons_self).2
    have e2 : sy_e ρ (sy_c 2) = 2 := sy_c_e ρ 2
    have e1 : sy_e ρ (sy_c 1) = 1 := sy_c_e ρ 1
    simp only [sy_v_i, e1, e2] at f2
    exact f2
  obtain ⟨n, v, w', hx, k1, k2, ends⟩ := hb_k293 (d := d) hM h4 j4
  have hrun : v = some (.int (Int32.ofInt 1)) := by
    rcases ends 0 (by omega) with ⟨-, -, h⟩ | ⟨h, -⟩
    · exact (hb_01 h hkept).elim
    · exact h
  have key : ∀ k, k < 1580 → sy_get w' 152 k = sy_get w 153 k := by
    intro k hk
    rcases ends k hk with ⟨-, -, h⟩ | ⟨-, h, -⟩
    · exact (hb_01 h hkept).elim
    · exact h
  refine ⟨n, v, w', hx, k1, ⟨fun k i h => k2 k i ?_, fun j hj => ?_⟩, _, List.mem_cons_self, ρ, τ, fun _ _ => rfl, h1, fun c hc => absurd hc List.not_mem_nil, fun f hf => ?_, ?_⟩
  · have h8 : sy_may [(152, 0, 1580)] k i = false := sy_may_cons (sy_may_cons h)
    exact hb_may293 h8
  · have hj : j ∈ [2, 4] := hj
    simp only [List.mem_cons, List.not_mem_nil, or_false] at hj
    rcases hj with rfl | rfl
    · intro s hs m h6 h7
      rw [key 6 (by omega)] at h6
      rw [key (250 + 6 * s) (by omega)]
      exact (j4 hkept).2 s hs m h6 h7
    · refine sy_jp_fr (fun p hp i _ _ => k2 p.1 i ?_) j4
      simp only [sy_jd, List.mem_cons, List.not_mem_nil, or_false] at hp
      rcases hp with rfl | rfl <;> exact sy_mayN (by decide +kernel)
  · exact hb_fx_ok (fun g hg => h3 g (List.mem_cons_of_mem _ hg)) (fun p hp => key p (of_decide_eq_true (List.all_eq_true.mp hps p hp))) f hf
  · rw [hrun]
    show _ = some (Value.int (Int32.ofInt (sy_e ρ (sy_c 1))))
    rw [sy_c_e]
theorem hb_O293_ok : sy_Met hb_cl hb_lt hb_P hb_A (0, 0) hb_O293 := by
  intro M hM ρ τ w d h1 _ h3 h4 hJ h5
  have j4 : sy_jp 4 w := hJ 4 (by show 4 ∈ [4]; decide)
  have hno : sy_get w 151 2 = some (.int 0) := by
    have f2 := (h3 (151, sy_c 2, .inl (sy_c 0)) List.mem_cons_self).2
    have e2 : sy_e ρ (sy_c 2) = 2 := sy_c_e ρ 2
    have e1 : sy_e ρ (sy_c 0) = 0 := sy_c_e ρ 0
    simp only [sy_v_i, e1, e2] at f2
    exact f2
  obtain ⟨n, v, w', hx, k1, k2, ends⟩ := hb_k293 (d := d) hM h4 j4
  have key : ∀ k, k < 1580 → sy_get w' 152 k = sy_get w 152 k := by
    intro k hk
    rcases ends k hk with ⟨-, h, -⟩ | ⟨-, -, h⟩
    · exact h
    · exact (hb_01 hno h).elim
  have hv : v = some (.int (Int32.ofInt (-3))) := by
    rcases ends 0 (by omega) with ⟨h, -⟩ | ⟨-, -, h⟩
    · exact h
    · exact (hb_01 hno h).elim
  have hall : ∀ k i : Nat, sy_get w' k i = sy_get w k i := by
    intro k i
    cases hm : sy_may [(152, 0, 1580)] k i with
    | false => exact k2 k i (hb_may293 hm)
    | true =>
      obtain ⟨q, hq, h9⟩ := List.any_eq_true.mp hm
      rw [List.mem_singleton.mp hq] at h9
      simp only [Bool.and_eq_true, decide_eq_true_eq] at h9
      rw [← h9.1]
      exact key i h9.2.2
  refine ⟨n, v, w', hx, k1, ⟨fun k i _ => hall k i, fun j hj => ?_⟩, _, List.mem_cons_self, ρ, τ, fun _ _ => rfl, h1, fun c hc => absurd hc List.not_mem_nil, fun f hf => absurd hf List.not_mem_nil, ?_⟩
  · have hj : j ∈ [4] := hj
    rw [List.mem_singleton.mp hj]
    exact sy_jp_fr (fun p hp i _ _ => hall p.1 i) j4
  · rw [hv]
    show _ = some (Value.int (Int32.ofInt (sy_e ρ (sy_c (-3)))))
    rw [sy_c_e]

end
