noncomputable section
/-! CONTRACTS THAT KEEP LASTING WORDS, OUT OF ONE PLACE FOLLOWED -/
theorem px_det {cl : List vw_C} {lt : List (List Int32)} {P : List px_M} {n k d : Nat} {scr : Option (List Int32)} {M : px_M} {pc : Nat} {lv : List (Nat × Value)} {st : List Value} {w : px_W} {b : Nat × Nat} {r r' : Option Value × px_W × (Nat × Nat)} (h : px_exec cl lt P n d scr M pc lv st w b = some r) (h' : px_exec cl lt P k d scr M pc lv st w b = some r') : r = r' := by
  rcases Nat.le_total n k with q | q
  · have := px_more h q
    rw [this] at h'
    exact Option.some.inj h'
  · have := px_more h' q
    rw [this] at h
    exact (Option.some.inj h).symm
theorem sy_fam {cl : List vw_C} {lt : List (List Int32)} {P : List px_M} {A : List sy_Ce} {b : Nat × Nat} {G : sy_Co} (hG : sy_Met cl lt P A b G) {M : px_M} (hM : P[G.1]? = some M) {d : Nat} (hd : G.2.2.2.2.1 ≤ d) {w : px_W} (hW : sy_W A w) (hJ : sy_fj G.2.2.2.1 w) (N : Nat) (hN : 0 < N) (ρs : Nat → Nat → Int) (τ : Nat → Int64) (args : List Value) (hok : ∀ k, k < N → sy_ok (ρs k) G.2.1.1 ∧ sy_cok (ρs k) G.2.1.2.2.1 ∧ sy_fok (ρs k) τ w G.2.1.2.2.2 ∧ G.2.2.1.map (sy_v (ρs k) τ) = args) :
    ∃ (n : Nat) (v : Option Value) (w' : px_W), px_exec cl lt P n d none M 0 (lv_args 0 args) [] w b = some (v, w', b) ∧ ∀ k, k < N → sy_K A G w (ρs k) v w' := by
  obtain ⟨a1, a2, a3, a4⟩ := hok 0 hN
  obtain ⟨n, v, w', hx, -⟩ := hG M hM (ρs 0) τ w d a1 a2 a3 hW hJ hd
  rw [a4] at hx
  refine ⟨n, v, w', hx, fun k hk => ?_⟩
  obtain ⟨b1, b2, b3, b4⟩ := hok k hk
  obtain ⟨n2, v2, w2, hx2, hK⟩ := hG M hM (ρs k) τ w d b1 b2 b3 hW hJ hd
  rw [b4] at hx2
  have := px_det hx hx2
  cases this
  exact hK
/-- the int that stands at a place -/
def sy_at0 (w : px_W) (c k : Nat) : Int := match sy_get w c k with
  | some (.int x) => x.toInt
  | _ => 0
theorem sy_at0_ok {A : List sy_Ce} {w : px_W} (hW : sy_W A w) {c k n : Nat} {sg : sy_Sg} (hA : A[c]? = some (.inl (n, sg))) (hk : k < n) : sy_get w c k = some (.int (Int32.ofInt (sy_at0 w c k))) ∧ (sy_seg sg k).1 ≤ sy_at0 w c k ∧ sy_at0 w c k ≤ (sy_seg sg k).2 := by
  obtain ⟨l, h1, h2, h3⟩ := sy_cell_i (q := ([], A, [], [], fun _ => 0, 0)) hW hA
  have hg : l[k]? = some l[k] := List.getElem?_eq_getElem (by omega)
  have e : sy_get w c k = some (.int l[k]) := by
    rw [sy_getI h1, hg]
    rfl
  have e2 : sy_at0 w c k = l[k].toInt := by
    unfold sy_at0
    rw [e]
  rw [e2, Int32.ofInt_toInt]
  exact ⟨e, h3 _ _ hg⟩
theorem sy_at0_b (w : px_W) (c k : Nat) : sy_full.1 ≤ sy_at0 w c k ∧ sy_at0 w c k ≤ sy_full.2 := by
  unfold sy_at0
  split
  · exact sy_int_bounds _
  · decide
/-- symbols by a list -/
def sy_lst (l : List Int) (i : Nat) : Int := l.getD i 0
theorem sy_lst_ok {l : List Int} {R : sy_T} (h : ∀ i : Nat, i < R.length → (R.getD i (0, 0)).1 ≤ l.getD i 0 ∧ l.getD i 0 ≤ (R.getD i (0, 0)).2) : sy_ok (sy_lst l) R := by
  intro i p hp
  have hi := (List.getElem?_eq_some_iff.mp hp).1
  have := h i hi
  rw [List.getD_eq_getElem?_getD, hp] at this
  exact this
theorem sy_may_cons {p : Nat × Nat × Nat} {r : sy_Wr} {k i : Nat} (h : sy_may (p :: r) k i = false) : sy_may r k i = false := by
  unfold sy_may at h ⊢
  rw [List.any_cons, Bool.or_eq_false_iff] at h
  exact h.2
theorem sy_mayN {Wr : sy_Wr} {k i : Nat} (h : Wr.all (fun q => !(q.1 == k)) = true) : sy_may Wr k i = false := by
  cases hm : sy_may Wr k i with
  | false => rfl
  | true =>
    obtain ⟨q, hq, h6⟩ := List.any_eq_true.mp hm
    simp only [Bool.and_eq_true, decide_eq_true_eq] at h6
    have := List.all_eq_true.mp h q hq
    rw [h6.1] at this
    simp at this
theorem sy_at0_i {A : List sy_Ce} {w : px_W} (hW : sy_W A w) {c k n : Nat} {sg : sy_Sg} (hA : A[c]? = some (.inl (n, sg))) (hk : k < n) : sy_ji (sy_get w c k) (sy_seg sg k) := by
  obtain ⟨h1, h2, h3⟩ := sy_at0_ok hW hA hk
  have hb := sy_at0_b w c k
  unfold sy_full at hb
  refine ⟨_, h1, ?_⟩
  unfold sy_in
  rw [Int32.toInt_ofInt_of_le hb.1 (by have := hb.2; dsimp only at this; omega)]
  exact ⟨h2, h3⟩
theorem sy_val2 {x : Int32} : (Value.int x = Value.int 2) → x = 2 := fun h => by injection h
set_option maxRecDepth 100000 in
theorem hb_A47 : hb_A[47]? = some (.inl (56, [])) := rfl
set_option maxRecDepth 100000 in
theorem hb_A48 : hb_A[48]? = some (.inl (56, [])) := rfl
set_option maxRecDepth 100000 in
theorem hb_A49 : hb_A[49]? = some (.inl (56, [])) := rfl
set_option maxRecDepth 100000 in
theorem hb_A105 : hb_A[105]? = some (.inl (56, [])) := rfl
set_option maxRecDepth 100000 in
theorem hb_A106 : hb_A[106]? = some (.inl (56, [])) := rfl
set_option maxRecDepth 100000 in
theorem hb_A107 : hb_A[107]? = some (.inl (56, [])) := rfl
set_option maxRecDepth 100000 in
theorem hb_A152 : hb_A[152]? = some (.inl (1580, sy_D)) := rfl
set_option maxRecDepth 100000 in
theorem hb_A153 : hb_A[153]? = some (.inl (1580, [])) := rfl
theorem sy_r7 {a b c d e f g : Int} {R : sy_T} (hR : R = [sy_full, sy_full, sy_full, (0, 55), sy_full, sy_full, sy_full]) (ha : sy_full.1 ≤ a ∧ a ≤ sy_full.2) (hb : sy_full.1 ≤ b ∧ b ≤ sy_full.2) (hc : sy_full.1 ≤ c ∧ c ≤ sy_full.2) (hd : 0 ≤ d ∧ d ≤ 55) (he : sy_full.1 ≤ e ∧ e ≤ sy_full.2) (hf : sy_full.1 ≤ f ∧ f ≤ sy_full.2) (hg : sy_full.1 ≤ g ∧ g ≤ sy_full.2) : sy_ok (sy_lst [a, b, c, d, e, f, g]) R := by
  subst hR
  refine sy_lst_ok (fun i hi => ?_)
  match i, hi with
  | 0, _ => exact ha
  | 1, _ => exact hb
  | 2, _ => exact hc
  | 3, _ => exact hd
  | 4, _ => exact he
  | 5, _ => exact hf
  | 6, _ => exact hg
/-- addLine keeps the word of the rules, if what is written keeps it -/
theorem hb_77 {M : px_M} (hM : hb_P[77]? = some M) {w : px_W} {d : Nat} (hW : sy_W hb_A w) (hJ : sy_jp 0 w) (a b c : Int) (ha : sy_full.1 ≤ a ∧ a ≤ sy_full.2) (hb : sy_full.1 ≤ b ∧ b ≤ sy_full.2) (hc : sy_full.1 ≤ c ∧ c ≤ sy_full.2) (h2 : a = 2 → (0 ≤ b ∧ b ≤ 64) ∧ (0 ≤ c ∧ c ≤ 64)) :
    ∃ (n : Nat) (w' : px_W), px_exec hb_cl hb_lt hb_P n d none M 0 (lv_args 0 [.ref 108, .int (Int32.ofInt a), .int (Int32.ofInt b), .int (Int32.ofInt c)]) [] w (0, 0) = some (none, w', (0, 0)) ∧ sy_W hb_A w' ∧ (∀ k i : Nat, sy_may hb_G77.2.2.2.1 k i = false → sy_get w' k i = sy_get w k i) ∧ sy_jp 0 w' := by
  have hok : ∀ k : Nat, k < 56 → sy_ok ((fun k : Nat => sy_lst [a, b, c, (k : Int), sy_at0 w 47 k, sy_at0 w 48 k, sy_at0 w 49 k]) k) (hb_G77 : sy_Co).2.1.1 ∧ sy_cok ((fun k : Nat => sy_lst [a, b, c, (k : Int), sy_at0 w 47 k, sy_at0 w 48 k, sy_at0 w 49 k]) k) (hb_G77 : sy_Co).2.1.2.2.1 ∧ sy_fok ((fun k : Nat => sy_lst [a, b, c, (k : Int), sy_at0 w 47 k, sy_at0 w 48 k, sy_at0 w 49 k]) k) (fun _ => 0) w (hb_G77 : sy_Co).2.1.2.2.2 ∧ (hb_G77 : sy_Co).2.2.1.map (sy_v ((fun k : Nat => sy_lst [a, b, c, (k : Int), sy_at0 w 47 k, sy_at0 w 48 k, sy_at0 w 49 k]) k) (fun _ => 0)) = [.ref 108, .int (Int32.ofInt a), .int (Int32.ofInt b), .int (Int32.ofInt c)] := by
    intro k hk
    refine ⟨sy_r7 rfl ha hb hc (by omega) (sy_at0_b _ _ _) (sy_at0_b _ _ _) (sy_at0_b _ _ _), fun c hc => absurd hc List.not_mem_nil, fun f hf => ?_, ?_⟩
    · have e3 : sy_e (sy_lst [a, b, c, (k : Int), sy_at0 w 47 k, sy_at0 w 48 k, sy_at0 w 49 k]) (0, [(3, 1)]) = (k : Int) := sy_x_e _ 3
      have e4 : sy_e (sy_lst [a, b, c, (k : Int), sy_at0 w 47 k, sy_at0 w 48 k, sy_at0 w 49 k]) (0, [(4, 1)]) = sy_at0 w 47 k := sy_x_e _ 4
      have e5 : sy_e (sy_lst [a, b, c, (k : Int), sy_at0 w 47 k, sy_at0 w 48 k, sy_at0 w 49 k]) (0, [(5, 1)]) = sy_at0 w 48 k := sy_x_e _ 5
      have e6 : sy_e (sy_lst [a, b, c, (k : Int), sy_at0 w 47 k, sy_at0 w 48 k, sy_at0 w 49 k]) (0, [(6, 1)]) = sy_at0 w 49 k := sy_x_e _ 6
      have kn : ((k : Int)).toNat = k := by omega
      simp only [hb_G77, List.mem_cons, List.not_mem_nil, or_false] at hf
      rcases hf with rfl | rfl | rfl
      · simp only [sy_v_i, e3, e4, kn]
        exact ⟨by omega, (sy_at0_ok hW hb_A47 hk).1⟩
      · simp only [sy_v_i, e3, e5, kn]
        exact ⟨by omega, (sy_at0_ok hW hb_A48 hk).1⟩
      · simp only [sy_v_i, e3, e6, kn]
        exact ⟨by omega, (sy_at0_ok hW hb_A49 hk).1⟩
    · show [Value.ref 108, .int (Int32.ofInt (sy_e _ (0, [(0, 1)]))), .int (Int32.ofInt (sy_e _ (0, [(1, 1)]))), .int (Int32.ofInt (sy_e _ (0, [(2, 1)])))] = _
      rw [show ∀ ρ : Nat → Int, sy_e ρ (0, [(0, 1)]) = ρ 0 from fun ρ => sy_x_e ρ 0, show ∀ ρ : Nat → Int, sy_e ρ (0, [(1, 1)]) = ρ 1 from fun ρ => sy_x_e ρ 1, show ∀ ρ : Nat → Int, sy_e ρ (0, [(2, 1)]) = ρ 2 from fun ρ => sy_x_e ρ 2]
      rfl
  obtain ⟨n, v, w', hx, hK⟩ := sy_fam hb_G77_ok hM (d := d) (Nat.zero_le _) hW (by intro j hj; rw [show sy_js hb_G77.2.2.2.1 = [] by decide +kernel] at hj; cases hj) 56 (by omega) (fun k : Nat => sy_lst [a, b, c, (k : Int), sy_at0 w 47 k, sy_at0 w 48 k, sy_at0 w 49 k]) (fun _ => 0) [.ref 108, .int (Int32.ofInt a), .int (Int32.ofInt b), .int (Int32.ofInt c)] hok
  obtain ⟨k1, k2, p, hp, ρ', τ', -, -, -, -, hv⟩ := hK 0 (by omega)
  have hvn : v = none := by
    have hp' : p.2 = none := by
      simp only [hb_G77, List.mem_cons, List.not_mem_nil, or_false] at hp
      rcases hp with rfl | rfl <;> rfl
    rw [hv, hp']
    rfl
  subst hvn
  refine ⟨n, w', hx, k1, k2.1, fun k hk hs => ?_⟩
  obtain ⟨-, -, p, hp, ρ', τ', r1, r2, r3, r4, -⟩ := hK k hk
  have q0 : ρ' 0 = a := r1 0 (by decide)
  have q1 : ρ' 1 = b := r1 1 (by decide)
  have q2 : ρ' 2 = c := r1 2 (by decide)
  have q3 : ρ' 3 = (k : Int) := r1 3 (by decide)
  have q4 : ρ' 4 = sy_at0 w 47 k := r1 4 (by decide)
  have q5 : ρ' 5 = sy_at0 w 48 k := r1 5 (by decide)
  have q6 : ρ' 6 = sy_at0 w 49 k := r1 6 (by decide)
  have ex : ∀ i : Nat, sy_e ρ' (0, [(i, 1)]) = ρ' i := fun i => sy_x_e ρ' i
  have kn : ((k : Int)).toNat = k := by omega
  simp only [hb_G77, List.mem_cons, List.not_mem_nil, or_false] at hp
  rcases hp with rfl | rfl
  · have f1 := (r4 (47, (0, [(3, 1)]), .inl (0, [(4, 1)])) List.mem_cons_self).2
    have f2 := (r4 (48, (0, [(3, 1)]), .inl (0, [(5, 1)])) (List.mem_cons_of_mem _ List.mem_cons_self)).2
    have f3 := (r4 (49, (0, [(3, 1)]), .inl (0, [(6, 1)])) (List.mem_cons_of_mem _ (List.mem_cons_of_mem _ List.mem_cons_self))).2
    simp only [sy_v_i, ex, q3, q4, q5, q6, kn] at f1 f2 f3
    rw [f1] at hs
    rw [f2, f3, ← (sy_at0_ok hW hb_A48 hk).1, ← (sy_at0_ok hW hb_A49 hk).1]
    refine hJ k hk ?_
    rw [(sy_at0_ok hW hb_A47 hk).1]
    exact hs
  · have f1 := (r4 (47, (0, [(3, 1)]), .inl (0, [(0, 1)])) List.mem_cons_self).2
    have f2 := (r4 (48, (0, [(3, 1)]), .inl (0, [(1, 1)])) (List.mem_cons_of_mem _ List.mem_cons_self)).2
    have f3 := (r4 (49, (0, [(3, 1)]), .inl (0, [(2, 1)])) (List.mem_cons_of_mem _ (List.mem_cons_of_mem _ List.mem_cons_self))).2
    simp only [sy_v_i, ex, q3, q0, q1, q2, kn] at f1 f2 f3
    rw [f1] at hs
    have ha2 : a = 2 := by
      have h3 : Int32.ofInt a = 2 := sy_val2 (Option.some.inj hs)
      have h4 : (Int32.ofInt a).toInt = a := Int32.toInt_ofInt_of_le ha.1 (by have := ha.2; unfold sy_full at this; omega)
      rw [h3] at h4
      have : (2 : Int32).toInt = 2 := rfl
      omega
    obtain ⟨⟨b1, b2⟩, c1, c2⟩ := h2 ha2
    rw [f2, f3]
    have hbI : (Int32.ofInt b).toInt = b := Int32.toInt_ofInt_of_le (by omega) (by omega)
    have hcI : (Int32.ofInt c).toInt = c := Int32.toInt_ofInt_of_le (by omega) (by omega)
    exact ⟨⟨_, rfl, by unfold sy_in; rw [hbI]; exact ⟨b1, b2⟩⟩, ⟨_, rfl, by unfold sy_in; rw [hcI]; exact ⟨c1, c2⟩⟩⟩
theorem hb_L77a_ok : sy_Met hb_cl hb_lt hb_P hb_A (0, 0) hb_L77a := by
  intro M hM ρ τ w d h1 _ _ h4 hJ _
  have r0 := h1 0 (0, 1) rfl
  have r1 := h1 1 sy_full rfl
  have r2 := h1 2 sy_full rfl
  dsimp only at r0
  obtain ⟨n, w', hx, a1, a2, a3⟩ := hb_77 hM (d := d) h4 (hJ 0 (by decide +kernel)) (ρ 0) (ρ 1) (ρ 2) (by unfold sy_full; omega) r1 r2 (by omega)
  refine ⟨n, none, w', ?_, a1, ⟨fun k i h => a2 k i (sy_may_cons h), fun j hj => ?_⟩, _, List.mem_cons_self, ρ, τ, fun _ _ => rfl, h1, fun c hc => absurd hc List.not_mem_nil, fun f hf => absurd hf List.not_mem_nil, rfl⟩
  · rw [← hx]
    show px_exec _ _ _ _ _ _ _ _ (lv_args 0 [.ref 108, .int (Int32.ofInt (sy_e ρ (0, [(0, 1)]))), .int (Int32.ofInt (sy_e ρ (0, [(1, 1)]))), .int (Int32.ofInt (sy_e ρ (0, [(2, 1)])))]) _ _ _ = _
    rw [show sy_e ρ (0, [(0, 1)]) = ρ 0 from sy_x_e ρ 0, show sy_e ρ (0, [(1, 1)]) = ρ 1 from sy_x_e ρ 1, show sy_e ρ (0, [(2, 1)]) = ρ 2 from sy_x_e ρ 2]
  · have : j = 0 := by simpa [hb_L77a, sy_js] using hj
    subst this
    exact a3
theorem hb_L77b_ok : sy_Met hb_cl hb_lt hb_P hb_A (0, 0) hb_L77b := by
  intro M hM ρ τ w d h1 _ _ h4 hJ _
  have r0 := h1 0 (0, 64) rfl
  have r1 := h1 1 (0, 64) rfl
  dsimp only at r0 r1
  obtain ⟨n, w', hx, a1, a2, a3⟩ := hb_77 hM (d := d) h4 (hJ 0 (by decide +kernel)) 2 (ρ 0) (ρ 1) (by unfold sy_full; omega) (by unfold sy_full; omega) (by unfold sy_full; omega) (by omega)
  refine ⟨n, none, w', ?_, a1, ⟨fun k i h => a2 k i (sy_may_cons h), fun j hj => ?_⟩, _, List.mem_cons_self, ρ, τ, fun _ _ => rfl, h1, fun c hc => absurd hc List.not_mem_nil, fun f hf => absurd hf List.not_mem_nil, rfl⟩
  · rw [← hx]
    show px_exec _ _ _ _ _ _ _ _ (lv_args 0 [.ref 108, .int (Int32.ofInt (sy_e ρ (2, []))), .int (Int32.ofInt (sy_e ρ (0, [(0, 1)]))), .int (Int32.ofInt (sy_e ρ (0, [(1, 1)])))]) _ _ _ = _
    rw [show sy_e ρ (0, [(0, 1)]) = ρ 0 from sy_x_e ρ 0, show sy_e ρ (0, [(1, 1)]) = ρ 1 from sy_x_e ρ 1, show sy_e ρ (2, []) = 2 from sy_c_e ρ 2]
  · have : j = 0 := by simpa [hb_L77b, sy_js] using hj
    subst this
    exact a3
theorem sy_r4 {a b c d : Int} {R : sy_T} (hR : R = [(0, 55), sy_full, sy_full, sy_full]) (ha : 0 ≤ a ∧ a ≤ 55) (hb : sy_full.1 ≤ b ∧ b ≤ sy_full.2) (hc : sy_full.1 ≤ c ∧ c ≤ sy_full.2) (hd : sy_full.1 ≤ d ∧ d ≤ sy_full.2) : sy_ok (sy_lst [a, b, c, d]) R := by
  subst hR
  refine sy_lst_ok (fun i hi => ?_)
  match i, hi with
  | 0, _ => exact ha
  | 1, _ => exact hb
  | 2, _ => exact hc
  | 3, _ => exact hd
/-- the rules are copied: what stands at a place goes with them -/
theorem hb_73 {G : sy_Co} {x y : Nat} {Wr : sy_Wr} {as : List sy_A} {args : List Value} {D : Nat} (hG : sy_Met hb_cl hb_lt hb_P hb_A (0, 0) G) (hGd : G = (73, ([(0, 55), sy_full, sy_full, sy_full], 0, [], [(x, (0, [(0, 1)]), .inl (0, [(1, 1)])), (x + 1, (0, [(0, 1)]), .inl (0, [(2, 1)])), (x + 2, (0, [(0, 1)]), .inl (0, [(3, 1)]))]), as, Wr, D, [(([(0, 55), sy_full, sy_full, sy_full], 0, [], [(y, (0, [(0, 1)]), .inl (0, [(1, 1)])), (y + 1, (0, [(0, 1)]), .inl (0, [(2, 1)])), (y + 2, (0, [(0, 1)]), .inl (0, [(3, 1)]))]), none)])) (has : ∀ ρ τ, as.map (sy_v ρ τ) = args) (hjs : sy_js Wr = []) (hA0 : hb_A[x]? = some (.inl (56, []))) (hA1 : hb_A[x + 1]? = some (.inl (56, []))) (hA2 : hb_A[x + 2]? = some (.inl (56, []))) {M : px_M} (hM : hb_P[73]? = some M) {w : px_W} {d : Nat} (hd : D ≤ d) (hW : sy_W hb_A w) :
    ∃ (n : Nat) (w' : px_W), px_exec hb_cl hb_lt hb_P n d none M 0 (lv_args 0 args) [] w (0, 0) = some (none, w', (0, 0)) ∧ sy_W hb_A w' ∧ (∀ k i : Nat, sy_may Wr k i = false → sy_get w' k i = sy_get w k i) ∧ ∀ k, k < 56 → sy_get w' y k = sy_get w x k ∧ sy_get w' (y + 1) k = sy_get w (x + 1) k ∧ sy_get w' (y + 2) k = sy_get w (x + 2) k := by
  subst hGd
  have hok : ∀ k : Nat, k < 56 → sy_ok ((fun k : Nat => sy_lst [(k : Int), sy_at0 w x k, sy_at0 w (x + 1) k, sy_at0 w (x + 2) k]) k) ((73, ([(0, 55), sy_full, sy_full, sy_full], 0, [], [(x, (0, [(0, 1)]), .inl (0, [(1, 1)])), (x + 1, (0, [(0, 1)]), .inl (0, [(2, 1)])), (x + 2, (0, [(0, 1)]), .inl (0, [(3, 1)]))]), as, Wr, D, [(([(0, 55), sy_full, sy_full, sy_full], 0, [], [(y, (0, [(0, 1)]), .inl (0, [(1, 1)])), (y + 1, (0, [(0, 1)]), .inl (0, [(2, 1)])), (y + 2, (0, [(0, 1)]), .inl (0, [(3, 1)]))]), none)]) : sy_Co).2.1.1 ∧ sy_cok ((fun k : Nat => sy_lst [(k : Int), sy_at0 w x k, sy_at0 w (x + 1) k, sy_at0 w (x + 2) k]) k) ((73, ([(0, 55), sy_full, sy_full, sy_full], 0, [], [(x, (0, [(0, 1)]), .inl (0, [(1, 1)])), (x + 1, (0, [(0, 1)]), .inl (0, [(2, 1)])), (x + 2, (0, [(0, 1)]), .inl (0, [(3, 1)]))]), as, Wr, D, [(([(0, 55), sy_full, sy_full, sy_full], 0, [], [(y, (0, [(0, 1)]), .inl (0, [(1, 1)])), (y + 1, (0, [(0, 1)]), .inl (0, [(2, 1)])), (y + 2, (0, [(0, 1)]), .inl (0, [(3, 1)]))]), none)]) : sy_Co).2.1.2.2.1 ∧ sy_fok ((fun k : Nat => sy_lst [(k : Int), sy_at0 w x k, sy_at0 w (x + 1) k, sy_at0 w (x + 2) k]) k) (fun _ => 0) w ((73, ([(0, 55), sy_full, sy_full, sy_full], 0, [], [(x, (0, [(0, 1)]), .inl (0, [(1, 1)])), (x + 1, (0, [(0, 1)]), .inl (0, [(2, 1)])), (x + 2, (0, [(0, 1)]), .inl (0, [(3, 1)]))]), as, Wr, D, [(([(0, 55), sy_full, sy_full, sy_full], 0, [], [(y, (0, [(0, 1)]), .inl (0, [(1, 1)])), (y + 1, (0, [(0, 1)]), .inl (0, [(2, 1)])), (y + 2, (0, [(0, 1)]), .inl (0, [(3, 1)]))]), none)]) : sy_Co).2.1.2.2.2 ∧ ((73, ([(0, 55), sy_full, sy_full, sy_full], 0, [], [(x, (0, [(0, 1)]), .inl (0, [(1, 1)])), (x + 1, (0, [(0, 1)]), .inl (0, [(2, 1)])), (x + 2, (0, [(0, 1)]), .inl (0, [(3, 1)]))]), as, Wr, D, [(([(0, 55), sy_full, sy_full, sy_full], 0, [], [(y, (0, [(0, 1)]), .inl (0, [(1, 1)])), (y + 1, (0, [(0, 1)]), .inl (0, [(2, 1)])), (y + 2, (0, [(0, 1)]), .inl (0, [(3, 1)]))]), none)]) : sy_Co).2.2.1.map (sy_v ((fun k : Nat => sy_lst [(k : Int), sy_at0 w x k, sy_at0 w (x + 1) k, sy_at0 w (x + 2) k]) k) (fun _ => 0)) = args := by
    intro k hk
    refine ⟨sy_r4 rfl (by omega) (sy_at0_b _ _ _) (sy_at0_b _ _ _) (sy_at0_b _ _ _), fun c hc => absurd hc List.not_mem_nil, fun f hf => ?_, has _ _⟩
    · have e0 : sy_e (sy_lst [(k : Int), sy_at0 w x k, sy_at0 w (x + 1) k, sy_at0 w (x + 2) k]) (0, [(0, 1)]) = (k : Int) := sy_x_e _ 0
      have e1 : sy_e (sy_lst [(k : Int), sy_at0 w x k, sy_at0 w (x + 1) k, sy_at0 w (x + 2) k]) (0, [(1, 1)]) = sy_at0 w x k := sy_x_e _ 1
      have e2 : sy_e (sy_lst [(k : Int), sy_at0 w x k, sy_at0 w (x + 1) k, sy_at0 w (x + 2) k]) (0, [(2, 1)]) = sy_at0 w (x + 1) k := sy_x_e _ 2
      have e3 : sy_e (sy_lst [(k : Int), sy_at0 w x k, sy_at0 w (x + 1) k, sy_at0 w (x + 2) k]) (0, [(3, 1)]) = sy_at0 w (x + 2) k := sy_x_e _ 3
      have kn : ((k : Int)).toNat = k := by omega
      simp only [List.mem_cons, List.not_mem_nil, or_false] at hf
      rcases hf with rfl | rfl | rfl
      · simp only [sy_v_i, e0, e1, kn]
        exact ⟨by omega, (sy_at0_ok hW hA0 hk).1⟩
      · simp only [sy_v_i, e0, e2, kn]
        exact ⟨by omega, (sy_at0_ok hW hA1 hk).1⟩
      · simp only [sy_v_i, e0, e3, kn]
        exact ⟨by omega, (sy_at0_ok hW hA2 hk).1⟩
  obtain ⟨n, v, w', hx, hK⟩ := sy_fam hG hM (d := d) hd hW (by intro j hj; rw [hjs] at hj; cases hj) 56 (by omega) (fun k : Nat => sy_lst [(k : Int), sy_at0 w x k, sy_at0 w (x + 1) k, sy_at0 w (x + 2) k]) (fun _ => 0) args hok
  obtain ⟨k1, k2, p, hp, ρ', τ', -, -, -, -, hv⟩ := hK 0 (by omega)
  have hvn : v = none := by
    rw [List.mem_singleton.mp hp] at hv
    exact hv
  subst hvn
  refine ⟨n, w', hx, k1, k2.1, fun k hk => ?_⟩
  obtain ⟨-, -, p, hp, ρ', τ', r1, r2, r3, r4, -⟩ := hK k hk
  rw [List.mem_singleton.mp hp] at r4
  have q0 : ρ' 0 = (k : Int) := r1 0 (by show 0 < 4; omega)
  have q1 : ρ' 1 = sy_at0 w x k := r1 1 (by show 1 < 4; omega)
  have q2 : ρ' 2 = sy_at0 w (x + 1) k := r1 2 (by show 2 < 4; omega)
  have q3 : ρ' 3 = sy_at0 w (x + 2) k := r1 3 (by show 3 < 4; omega)
  have ex : ∀ i : Nat, sy_e ρ' (0, [(i, 1)]) = ρ' i := fun i => sy_x_e ρ' i
  have kn : ((k : Int)).toNat = k := by omega
  have f1 := (r4 (y, (0, [(0, 1)]), .inl (0, [(1, 1)])) List.mem_cons_self).2
  have f2 := (r4 (y + 1, (0, [(0, 1)]), .inl (0, [(2, 1)])) (List.mem_cons_of_mem _ List.mem_cons_self)).2
  have f3 := (r4 (y + 2, (0, [(0, 1)]), .inl (0, [(3, 1)])) (List.mem_cons_of_mem _ (List.mem_cons_of_mem _ List.mem_cons_self))).2
  simp only [sy_v_i, ex, q0, q1, q2, q3, kn] at f1 f2 f3
  rw [f1, f2, f3]
  exact ⟨(sy_at0_ok hW hA0 hk).1.symm, (sy_at0_ok hW hA1 hk).1.symm, (sy_at0_ok hW hA2 hk).1.symm⟩
theorem hb_L73a_ok : sy_Met hb_cl hb_lt hb_P hb_A (0, 0) hb_L73a := by
  intro M hM ρ τ w d h1 _ _ h4 hJ h5
  have j0 : sy_jp 0 w := hJ 0 (by decide +kernel)
  obtain ⟨n, w', hx, a1, a2, a3⟩ := hb_73 (x := 47) (y := 105) (args := [.ref 166, .ref 108]) hb_G73a_ok rfl (fun _ _ => rfl) (by decide +kernel) hb_A47 hb_A48 hb_A49 hM (d := d) h5 h4
  refine ⟨n, none, w', hx, a1, ⟨fun k i h => a2 k i (sy_may_cons (sy_may_cons h)), fun j hj => ?_⟩, _, List.mem_cons_self, ρ, τ, fun _ _ => rfl, h1, fun c hc => absurd hc List.not_mem_nil, fun f hf => absurd hf List.not_mem_nil, rfl⟩
  rw [show sy_js hb_L73a.2.2.2.1 = [0, 1] by decide +kernel] at hj
  simp only [List.mem_cons, List.not_mem_nil, or_false] at hj
  rcases hj with rfl | rfl
  · refine sy_jp_fr (fun p hp i _ _ => a2 p.1 i ?_) j0
    simp only [sy_jd, List.mem_cons, List.not_mem_nil, or_false] at hp
    rcases hp with rfl | rfl | rfl <;> exact sy_mayN (by decide +kernel)
  · intro k hk hs
    obtain ⟨b1, b2, b3⟩ := a3 k hk
    rw [b1] at hs
    show sy_ji (sy_get w' (105 + 1) k) (0, 64) ∧ sy_ji (sy_get w' (105 + 2) k) (0, 64)
    rw [b2, b3]
    exact j0 k hk hs
theorem hb_L73b_ok : sy_Met hb_cl hb_lt hb_P hb_A (0, 0) hb_L73b := by
  intro M hM ρ τ w d h1 _ _ h4 hJ h5
  have j1 : sy_jp 1 w := hJ 1 (by decide +kernel)
  obtain ⟨n, w', hx, a1, a2, a3⟩ := hb_73 (x := 105) (y := 47) (args := [.ref 108, .ref 166]) hb_G73b_ok rfl (fun _ _ => rfl) (by decide +kernel) hb_A105 hb_A106 hb_A107 hM (d := d) h5 h4
  refine ⟨n, none, w', hx, a1, ⟨fun k i h => a2 k i (sy_may_cons (sy_may_cons h)), fun j hj => ?_⟩, _, List.mem_cons_self, ρ, τ, fun _ _ => rfl, h1, fun c hc => absurd hc List.not_mem_nil, fun f hf => absurd hf List.not_mem_nil, rfl⟩
  rw [show sy_js hb_L73b.2.2.2.1 = [0, 1] by decide +kernel] at hj
  simp only [List.mem_cons, List.not_mem_nil, or_false] at hj
  rcases hj with rfl | rfl
  · intro k hk hs
    obtain ⟨b1, b2, b3⟩ := a3 k hk
    rw [b1] at hs
    show sy_ji (sy_get w' (47 + 1) k) (0, 64) ∧ sy_ji (sy_get w' (47 + 2) k) (0, 64)
    rw [b2, b3]
    exact j1 k hk hs
  · refine sy_jp_fr (fun p hp i _ _ => a2 p.1 i ?_) j1
    simp only [sy_jd, List.mem_cons, List.not_mem_nil, or_false] at hp
    rcases hp with rfl | rfl | rfl <;> exact sy_mayN (by decide +kernel)
theorem sy_r2 {a b : Int} {R : sy_T} (hR : R = [(0, 1579), sy_full]) (ha : 0 ≤ a ∧ a ≤ 1579) (hb : sy_full.1 ≤ b ∧ b ≤ sy_full.2) : sy_ok (sy_lst [a, b]) R := by
  subst hR
  refine sy_lst_ok (fun i hi => ?_)
  match i, hi with
  | 0, _ => exact ha
  | 1, _ => exact hb
theorem sy_r3 {a b c : Int} {R : sy_T} (hR : R = [(0, 1579), sy_full, sy_full]) (ha : 0 ≤ a ∧ a ≤ 1579) (hb : sy_full.1 ≤ b ∧ b ≤ sy_full.2) (hc : sy_full.1 ≤ c ∧ c ≤ sy_full.2) : sy_ok (sy_lst [a, b, c]) R := by
  subst hR
  refine sy_lst_ok (fun i hi => ?_)
  match i, hi with
  | 0, _ => exact ha
  | 1, _ => exact hb
  | 2, _ => exact hc
theorem hb_L292_ok : sy_Met hb_cl hb_lt hb_P hb_A (0, 0) hb_L292 := by
  intro M hM ρ τ w d h1 _ _ h4 hJ h5
  have j2 : sy_jp 2 w := hJ 2 (by decide +kernel)
  have hok : ∀ k : Nat, k < 1580 → sy_ok ((fun k : Nat => sy_lst [(k : Int), sy_at0 w 152 k]) k) (hb_G292 : sy_Co).2.1.1 ∧ sy_cok ((fun k : Nat => sy_lst [(k : Int), sy_at0 w 152 k]) k) (hb_G292 : sy_Co).2.1.2.2.1 ∧ sy_fok ((fun k : Nat => sy_lst [(k : Int), sy_at0 w 152 k]) k) (fun _ => 0) w (hb_G292 : sy_Co).2.1.2.2.2 ∧ (hb_G292 : sy_Co).2.2.1.map (sy_v ((fun k : Nat => sy_lst [(k : Int), sy_at0 w 152 k]) k) (fun _ => 0)) = [.ref 215] := by
    intro k hk
    refine ⟨sy_r2 rfl (by omega) (sy_at0_b _ _ _), fun c hc => absurd hc List.not_mem_nil, fun f hf => ?_, rfl⟩
    · have e0 : sy_e (sy_lst [(k : Int), sy_at0 w 152 k]) (0, [(0, 1)]) = (k : Int) := sy_x_e _ 0
      have e1 : sy_e (sy_lst [(k : Int), sy_at0 w 152 k]) (0, [(1, 1)]) = sy_at0 w 152 k := sy_x_e _ 1
      have kn : ((k : Int)).toNat = k := by omega
      simp only [hb_G292, List.mem_cons, List.not_mem_nil, or_false] at hf
      subst hf
      simp only [sy_v_i, e0, e1, kn]
      exact ⟨by omega, (sy_at0_ok h4 hb_A152 hk).1⟩
  obtain ⟨n, v, w', hx, hK⟩ := sy_fam hb_G292_ok hM (d := d) h5 h4 (by intro j hj; rw [show sy_js hb_G292.2.2.2.1 = [] by decide +kernel] at hj; cases hj) 1580 (by omega) (fun k : Nat => sy_lst [(k : Int), sy_at0 w 152 k]) (fun _ => 0) [.ref 215] hok
  obtain ⟨k1, k2, p0, hp0, ρ0, τ0, -, -, -, -, hv⟩ := hK 0 (by omega)
  have hv1 : v = some (.int (Int32.ofInt 1)) := by
    rw [List.mem_singleton.mp hp0] at hv
    rw [hv]
    show some (Value.int (Int32.ofInt (sy_e ρ0 (1, [])))) = _
    rw [show sy_e ρ0 (1, []) = 1 from sy_c_e ρ0 1]
  have key : ∀ k, k < 1580 → sy_get w' 153 k = sy_get w 152 k := by
    intro k hk
    obtain ⟨-, -, p, hp, ρ', τ', r1, r2, r3, r4, -⟩ := hK k hk
    rw [List.mem_singleton.mp hp] at r4
    have q0 : ρ' 0 = (k : Int) := r1 0 (by decide)
    have q1 : ρ' 1 = sy_at0 w 152 k := r1 1 (by decide)
    have ex : ∀ i : Nat, sy_e ρ' (0, [(i, 1)]) = ρ' i := fun i => sy_x_e ρ' i
    have kn : ((k : Int)).toNat = k := by omega
    have f1 := (r4 (153, (0, [(0, 1)]), .inl (0, [(1, 1)])) List.mem_cons_self).2
    simp only [sy_v_i, ex, q0, q1, kn] at f1
    rw [f1]
    exact (sy_at0_ok h4 hb_A152 hk).1.symm
  refine ⟨n, v, w', hx, k1, ⟨fun k i h => k2.1 k i (sy_may_cons (sy_may_cons h)), fun j hj => ?_⟩, _, List.mem_cons_self, ρ, τ, fun _ _ => rfl, h1, fun c hc => absurd hc List.not_mem_nil, fun f hf => absurd hf List.not_mem_nil, ?_⟩
  · rw [show sy_js hb_L292.2.2.2.1 = [2, 4] by decide +kernel] at hj
    simp only [List.mem_cons, List.not_mem_nil, or_false] at hj
    rcases hj with rfl | rfl
    · refine sy_jp_fr (fun p hp i _ _ => k2.1 p.1 i ?_) j2
      simp only [sy_jd, List.mem_cons, List.not_mem_nil, or_false] at hp
      rcases hp with rfl | rfl <;> exact sy_mayN (by decide +kernel)
    · intro _
      refine ⟨fun k hk => ?_, fun s hs m h6 h7 => ?_⟩
      · rw [key k hk]
        exact sy_at0_i h4 hb_A152 hk
      · rw [key 6 (by omega)] at h6
        rw [key (250 + 6 * s) (by omega)]
        exact j2 s hs m h6 h7
  · rw [hv1]
    show _ = some (Value.int (Int32.ofInt (sy_e ρ (1, []))))
    rw [show sy_e ρ (1, []) = 1 from sy_c_e ρ 1]
theorem hb_L293_ok : sy_Met hb_cl hb_lt hb_P hb_A (0, 0) hb_L293 := by
  intro M hM ρ τ w d h1 _ _ h4 hJ h5
  have j2 : sy_jp 2 w := hJ 2 (by decide +kernel)
  have j4 : sy_jp 4 w := hJ 4 (by decide +kernel)
  have hok : ∀ k : Nat, k < 1580 → sy_ok ((fun k : Nat => sy_lst [(k : Int), sy_at0 w 153 k, sy_at0 w 152 k]) k) (hb_G293 : sy_Co).2.1.1 ∧ sy_cok ((fun k : Nat => sy_lst [(k : Int), sy_at0 w 153 k, sy_at0 w 152 k]) k) (hb_G293 : sy_Co).2.1.2.2.1 ∧ sy_fok ((fun k : Nat => sy_lst [(k : Int), sy_at0 w 153 k, sy_at0 w 152 k]) k) (fun _ => 0) w (hb_G293 : sy_Co).2.1.2.2.2 ∧ (hb_G293 : sy_Co).2.2.1.map (sy_v ((fun k : Nat => sy_lst [(k : Int), sy_at0 w 153 k, sy_at0 w 152 k]) k) (fun _ => 0)) = [.ref 215] := by
    intro k hk
    refine ⟨sy_r3 rfl (by omega) (sy_at0_b _ _ _) (sy_at0_b _ _ _), fun c hc => absurd hc List.not_mem_nil, fun f hf => ?_, rfl⟩
    · have e0 : sy_e (sy_lst [(k : Int), sy_at0 w 153 k, sy_at0 w 152 k]) (0, [(0, 1)]) = (k : Int) := sy_x_e _ 0
      have e1 : sy_e (sy_lst [(k : Int), sy_at0 w 153 k, sy_at0 w 152 k]) (0, [(1, 1)]) = sy_at0 w 153 k := sy_x_e _ 1
      have e2 : sy_e (sy_lst [(k : Int), sy_at0 w 153 k, sy_at0 w 152 k]) (0, [(2, 1)]) = sy_at0 w 152 k := sy_x_e _ 2
      have kn : ((k : Int)).toNat = k := by omega
      simp only [hb_G293, List.mem_cons, List.not_mem_nil, or_false] at hf
      rcases hf with rfl | rfl
      · simp only [sy_v_i, e0, e1, kn]
        exact ⟨by omega, (sy_at0_ok h4 hb_A153 hk).1⟩
      · simp only [sy_v_i, e0, e2, kn]
        exact ⟨by omega, (sy_at0_ok h4 hb_A152 hk).1⟩
  obtain ⟨n, v, w', hx, hK⟩ := sy_fam hb_G293_ok hM (d := d) h5 h4 (by intro j hj; rw [show sy_js hb_G293.2.2.2.1 = [4] by decide +kernel] at hj; rw [List.mem_singleton.mp hj]; exact j4) 1580 (by omega) (fun k : Nat => sy_lst [(k : Int), sy_at0 w 153 k, sy_at0 w 152 k]) (fun _ => 0) [.ref 215] hok
  obtain ⟨k1, k2, -⟩ := hK 0 (by omega)
  have ends : ∀ k, k < 1580 → (v = some (.int (Int32.ofInt (-3))) ∧ sy_get w' 152 k = sy_get w 152 k) ∨ (v = some (.int (Int32.ofInt 1)) ∧ sy_get w' 152 k = sy_get w 153 k ∧ sy_get w' 151 2 = some (.int 1)) := by
    intro k hk
    obtain ⟨-, -, p, hp, ρ', τ', r1, r2, r3, r4, hv⟩ := hK k hk
    have q0 : ρ' 0 = (k : Int) := r1 0 (by decide)
    have q1 : ρ' 1 = sy_at0 w 153 k := r1 1 (by decide)
    have q2 : ρ' 2 = sy_at0 w 152 k := r1 2 (by decide)
    have ex : ∀ i : Nat, sy_e ρ' (0, [(i, 1)]) = ρ' i := fun i => sy_x_e ρ' i
    have kn : ((k : Int)).toNat = k := by omega
    simp only [hb_G293, List.mem_cons, List.not_mem_nil, or_false] at hp
    rcases hp with rfl | rfl
    · refine .inl ⟨?_, ?_⟩
      · rw [hv]
        show some (Value.int (Int32.ofInt (sy_e ρ' (-3, [])))) = _
        rw [show sy_e ρ' (-3, []) = -3 from sy_c_e ρ' (-3)]
      · have f1 := (r4 (152, (0, [(0, 1)]), .inl (0, [(2, 1)])) List.mem_cons_self).2
        simp only [sy_v_i, ex, q0, q2, kn] at f1
        rw [f1]
        exact (sy_at0_ok h4 hb_A152 hk).1.symm
    · refine .inr ⟨?_, ?_, ?_⟩
      · rw [hv]
        show some (Value.int (Int32.ofInt (sy_e ρ' (1, [])))) = _
        rw [show sy_e ρ' (1, []) = 1 from sy_c_e ρ' 1]
      · have f1 := (r4 (152, (0, [(0, 1)]), .inl (0, [(1, 1)])) List.mem_cons_self).2
        simp only [sy_v_i, ex, q0, q1, kn] at f1
        rw [f1]
        exact (sy_at0_ok h4 hb_A153 hk).1.symm
      · have f2 := (r4 (151, (2, []), .inl (1, [])) (List.mem_cons_of_mem _ List.mem_cons_self)).2
        have e2 : sy_e ρ' (2, []) = 2 := sy_c_e ρ' 2
        have e1 : sy_e ρ' (1, []) = 1 := sy_c_e ρ' 1
        simp only [sy_v_i, e1, e2] at f2
        exact f2
  have hne : (some (Value.int (Int32.ofInt (-3))) : Option Value) ≠ some (.int (Int32.ofInt 1)) := by
    intro h
    have h2 : Int32.ofInt (-3) = Int32.ofInt 1 := by
      have h3 := Option.some.inj h
      injection h3
    exact absurd h2 (by decide)
  have hJ2 : sy_jp 2 w' ∧ ∃ z : Int32, v = some (.int z) := by
    rcases ends 0 (by omega) with ⟨v1, -⟩ | ⟨v1, -, hk⟩
    · have key : ∀ k, k < 1580 → sy_get w' 152 k = sy_get w 152 k := by
        intro k hk
        rcases ends k hk with ⟨-, h⟩ | ⟨h, -⟩
        · exact h
        · rw [v1] at h
          exact absurd h hne
      refine ⟨sy_jp_fr (fun p hp i h6 h7 => ?_) j2, _, v1⟩
      simp only [sy_jd, List.mem_cons, List.not_mem_nil, or_false] at hp
      rcases hp with rfl | rfl
      · exact key i (by dsimp only at h7; omega)
      · exact key i (by dsimp only at h7; omega)
    · have key : ∀ k, k < 1580 → sy_get w' 152 k = sy_get w 153 k := by
        intro k hk
        rcases ends k hk with ⟨h, -⟩ | ⟨-, h, -⟩
        · rw [v1] at h
          exact absurd h.symm hne
        · exact h
      have hkept : sy_get w 151 2 = some (.int 1) := by
        rw [← k2.1 151 2 (sy_mayN (by decide +kernel))]
        exact hk
      refine ⟨fun s hs m h6 h7 => ?_, _, v1⟩
      rw [key 6 (by omega)] at h6
      rw [key (250 + 6 * s) (by omega)]
      exact (j4 hkept).2 s hs m h6 h7
  obtain ⟨hJ2, z, hz⟩ := hJ2
  refine ⟨n, v, w', hx, k1, ⟨fun k i h => k2.1 k i ?_, fun j hj => ?_⟩, _, List.mem_cons_self, fun _ => z.toInt, τ, fun i hi => absurd hi (Nat.not_lt_zero _), fun i p hp => ?_, fun c hc => absurd hc List.not_mem_nil, fun f hf => absurd hf List.not_mem_nil, ?_⟩
  · have h8 := sy_may_cons (sy_may_cons h)
    cases hm : sy_may hb_G293.2.2.2.1 k i with
    | false => rfl
    | true =>
      obtain ⟨q, hq, h9⟩ := List.any_eq_true.mp hm
      have : sy_may (hb_L293.2.2.2.1.drop 2) k i = true := by
        refine List.any_eq_true.mpr ⟨q, ?_, h9⟩
        simp only [hb_G293, List.mem_cons, List.not_mem_nil, or_false] at hq
        rcases hq with rfl | rfl
        · simp only [Bool.and_eq_true, decide_eq_true_eq] at h9
          omega
        · exact List.mem_cons_self
      have h10 : sy_may (hb_L293.2.2.2.1.drop 2) k i = false := h8
      rw [h10] at this
      cases this
  · rw [show sy_js hb_L293.2.2.2.1 = [2, 4] by decide +kernel] at hj
    simp only [List.mem_cons, List.not_mem_nil, or_false] at hj
    rcases hj with rfl | rfl
    · exact hJ2
    · refine sy_jp_fr (fun p hp i _ _ => k2.1 p.1 i ?_) j4
      simp only [sy_jd, List.mem_cons, List.not_mem_nil, or_false] at hp
      rcases hp with rfl | rfl <;> exact sy_mayN (by decide +kernel)
  · have hi := (List.getElem?_eq_some_iff.mp hp).1
    have : i = 0 := by
      have : i < 1 := hi
      omega
    subst this
    cases hp
    exact sy_int_bounds z
  · rw [hz]
    show _ = some (Value.int (Int32.ofInt (sy_e (fun _ => z.toInt) (0, [(0, 1)]))))
    rw [show sy_e (fun _ => z.toInt) (0, [(0, 1)]) = z.toInt from sy_x_e _ 0, Int32.ofInt_toInt]

end
