noncomputable section
/-! SYMBOLIC STATES -/
abbrev sy_Sg : Type := List (Nat × Nat × List (Int × Int))
/-- what a cell is: ints (length, ranges by stretches: from, to, by turns), longs (length), an object (kind, a range or a reference for each field) -/
abbrev sy_Ce : Type := (Nat × sy_Sg) ⊕ (Nat ⊕ (Nat × List ((Int × Int) ⊕ Nat)))
def sy_full : Int × Int := (-2147483648, 2147483647)
def sy_seg : sy_Sg → Nat → Int × Int
  | [], _ => sy_full
  | g :: r, i => if g.1 ≤ i ∧ i < g.2.1 then g.2.2.getD ((i - g.1) % g.2.2.length) sy_full else sy_seg r i
def sy_in (q : Int × Int) (x : Int32) : Prop := q.1 ≤ x.toInt ∧ x.toInt ≤ q.2
def sy_ce (a : sy_Ce) (c : px_E) : Prop := match a, c with
  | .inl (n, sg), .inl l => l.length = n ∧ ∀ (i : Nat) (x : Int32), l[i]? = some x → sy_in (sy_seg sg i) x
  | .inr (.inl n), .inr (.inl l) => l.length = n
  | .inr (.inr (k, sl)), .inr (.inr o) => o.1 = k ∧ o.2.length = sl.length ∧ (∀ (i : Nat) (r : Int × Int), sl[i]? = some (.inl r) → ∃ x, o.2[i]? = some (.int x) ∧ sy_in r x) ∧ ∀ (i a : Nat), sl[i]? = some (.inr a) → o.2[i]? = some (.ref a)
  | _, _ => False
def sy_W (A : List sy_Ce) (w : px_W) : Prop := w.length = A.length ∧ ∀ (k : Nat) (a : sy_Ce), A[k]? = some a → ∃ c, w[k]? = some c ∧ sy_ce a c
/-- tables that stand in no cell: what an instruction gives of a number and a constant -/
def sy_px (k i : Nat) : Option Value := match k / 8589934592 with
  | 1 => (px_bin .ishr (Int32.ofInt ((i : Int) - 2147483648)) (Int32.ofInt ((k % 8589934592 : Nat) - 2147483648))).map Value.int
  | 2 => (px_bin .iand (Int32.ofInt ((i : Int) - 2147483648)) (Int32.ofInt ((k % 8589934592 : Nat) - 2147483648))).map Value.int
  | 3 => (px_bin .iushr (Int32.ofInt ((i : Int) - 2147483648)) (Int32.ofInt ((k % 8589934592 : Nat) - 2147483648))).map Value.int
  | 4 => some (.int (Int32.ofInt ((i : Int) - 1099511627776)))
  | 5 => (px_bin .idiv (Int32.ofInt ((i : Int) - 2147483648)) (Int32.ofInt ((k % 8589934592 : Nat) - 2147483648))).map Value.int
  | 6 => (px_bin .irem (Int32.ofInt ((i : Int) - 2147483648)) (Int32.ofInt ((k % 8589934592 : Nat) - 2147483648))).map Value.int
  | _ => none
def sy_get (w : px_W) (k i : Nat) : Option Value := match w[k]? with
  | some (.inl l) => (l[i]?).map Value.int
  | some (.inr (.inl l)) => (l[i]?).map Value.long
  | some (.inr (.inr o)) => o.2[i]?
  | none => sy_px k i
abbrev sy_Fa : Type := Nat × sy_L × sy_A
def sy_fok (ρ : Nat → Int) (τ : Nat → Int64) (w : px_W) (F : List sy_Fa) : Prop := ∀ f ∈ F, 0 ≤ sy_e ρ f.2.1 ∧ sy_get w f.1 (sy_e ρ f.2.1).toNat = some (sy_v ρ τ f.2.2)
/-- places that may be written: cell, from, to -/
abbrev sy_Wr : Type := List (Nat × Nat × Nat)
def sy_may (Wr : sy_Wr) (k i : Nat) : Bool := Wr.any (fun q => decide (q.1 = k) && (decide (q.2.1 ≤ i) && decide (i < q.2.2)))
/-! words of cells that last: a contract names those that it wants and keeps ahead of what it may write, as (1099511627776 + j, 0, 0) -/
def sy_jd (j : Nat) : List (Nat × Nat × Nat) := match j with
  | 0 => [(47, 0, 56), (48, 0, 56), (49, 0, 56)]
  | 1 => [(105, 0, 56), (106, 0, 56), (107, 0, 56)]
  | 2 => [(152, 6, 7), (152, 248, 284)]
  | 3 => [(176, 0, 4), (177, 0, 4)]
  | 4 => [(151, 2, 3), (153, 0, 1580)]
  | _ => []
def sy_ji (v : Option Value) (q : Int × Int) : Prop := ∃ x : Int32, v = some (.int x) ∧ sy_in q x
/-- the ranges of the reference's row -/
def sy_D : sy_Sg := [(2, 12, [(0, 16), (0, 12), (0, 10), (0, 8), (0, 6), (0, 10), (0, 8), (0, 12), (0, 6), (0, 7)]), (16, 24, [(10, 999)]), (24, 32, [(0, 999)]), (64, 128, [(0, 7), sy_full, sy_full, sy_full]), (128, 176, [(0, 7), (0, 7), sy_full, sy_full]), (176, 216, [(0, 50), sy_full, (0, 7), sy_full]), (216, 248, [(0, 65), (0, 7), sy_full, sy_full]), (248, 284, [sy_full, sy_full, (0, 40), sy_full, sy_full, sy_full]), (284, 294, [(0, 999)]), (294, 318, [(0, 999), sy_full, sy_full]), (318, 354, [sy_full, (0, 2147483647), sy_full]), (374, 380, [(0, 200)])]
def sy_jp (j : Nat) (w : px_W) : Prop := match j with
  | 0 => ∀ k, k < 56 → sy_get w 47 k = some (.int 2) → sy_ji (sy_get w 48 k) (0, 64) ∧ sy_ji (sy_get w 49 k) (0, 64)
  | 1 => ∀ k, k < 56 → sy_get w 105 k = some (.int 2) → sy_ji (sy_get w 106 k) (0, 64) ∧ sy_ji (sy_get w 107 k) (0, 64)
  | 2 => ∀ s : Nat, s < 6 → ∀ n : Int32, sy_get w 152 6 = some (.int n) → (s : Int) < n.toInt → sy_ji (sy_get w 152 (250 + 6 * s)) (1, 40)
  | 3 => ∀ h, h < 4 → sy_get w 176 h = some (.int 6) → sy_ji (sy_get w 177 h) (0, 7)
  | 4 => sy_get w 151 2 = some (.int 1) → (∀ k, k < 1580 → sy_ji (sy_get w 153 k) (sy_seg sy_D k)) ∧ ∀ s : Nat, s < 6 → ∀ n : Int32, sy_get w 153 6 = some (.int n) → (s : Int) < n.toInt → sy_ji (sy_get w 153 (250 + 6 * s)) (1, 40)
  | _ => True
theorem sy_jp_fr {j : Nat} {w w' : px_W} (h : ∀ p ∈ sy_jd j, ∀ i, p.2.1 ≤ i → i < p.2.2 → sy_get w' p.1 i = sy_get w p.1 i) (hj : sy_jp j w) : sy_jp j w' := by
  unfold sy_jp at hj ⊢
  split
  · intro k hk h1
    rw [h (47, 0, 56) (by decide) k (Nat.zero_le _) hk] at h1
    rw [h (48, 0, 56) (by decide) k (Nat.zero_le _) hk, h (49, 0, 56) (by decide) k (Nat.zero_le _) hk]
    exact hj k hk h1
  · intro k hk h1
    rw [h (105, 0, 56) (by decide) k (Nat.zero_le _) hk] at h1
    rw [h (106, 0, 56) (by decide) k (Nat.zero_le _) hk, h (107, 0, 56) (by decide) k (Nat.zero_le _) hk]
    exact hj k hk h1
  · intro s hs n h1 h2
    rw [h (152, 6, 7) (by decide) 6 (Nat.le_refl _) (by decide)] at h1
    rw [h (152, 248, 284) (by decide) (250 + 6 * s) (by show 248 ≤ _; omega) (by show _ < 284; omega)]
    exact hj s hs n h1 h2
  · intro k hk h1
    rw [h (176, 0, 4) (by decide) k (Nat.zero_le _) hk] at h1
    rw [h (177, 0, 4) (by decide) k (Nat.zero_le _) hk]
    exact hj k hk h1
  · intro h1
    rw [h (151, 2, 3) (by decide) 2 (Nat.le_refl _) (by decide)] at h1
    obtain ⟨h2, h3⟩ := hj h1
    refine ⟨fun k hk => ?_, fun s hs n h4 h5 => ?_⟩
    · rw [h (153, 0, 1580) (by decide) k (Nat.zero_le _) hk]
      exact h2 k hk
    · rw [h (153, 0, 1580) (by decide) 6 (Nat.zero_le _) (by decide)] at h4
      rw [h (153, 0, 1580) (by decide) (250 + 6 * s) (Nat.zero_le _) (by show _ < 1580; omega)]
      exact h3 s hs n h4 h5
  · trivial
def sy_js : sy_Wr → List Nat
  | [] => []
  | p :: r => if p.1 < 1099511627776 then [] else (p.1 - 1099511627776) :: sy_js r
def sy_fj (Wr : sy_Wr) (w : px_W) : Prop := ∀ j ∈ sy_js Wr, sy_jp j w
/-- is what is written at a to b of cell k beyond all lasting words -/
def sy_jw (Wr : sy_Wr) (k : Nat) (a b : Int) : Bool := (sy_js Wr).all (fun j => (sy_jd j).all (fun q => !(q.1 == k) || (decide (b < (q.2.1 : Int)) || decide ((q.2.2 : Int) ≤ a))))
/-- the lasting words behind a call -/
def sy_jc (C Wr : sy_Wr) : Bool := (sy_js C).all (fun j => (sy_js Wr).contains j) && (sy_js Wr).all (fun j => (sy_js C).contains j || C.all (fun p => (sy_jd j).all (fun q => !(q.1 == p.1) || (decide (p.2.2 ≤ q.2.1) || decide (q.2.2 ≤ p.2.1)))))
def sy_fr (Wr : sy_Wr) (w0 w : px_W) : Prop := (∀ k i : Nat, sy_may Wr k i = false → sy_get w k i = sy_get w0 k i) ∧ sy_fj Wr w
theorem sy_jw_ok {Wr : sy_Wr} {k i : Nat} {a b : Int} {w w' : px_W} (h : sy_fj Wr w) (hw : sy_jw Wr k a b = true) (ha : a ≤ (i : Int)) (hb : (i : Int) ≤ b) (hg : ∀ k' i' : Nat, ¬ (k' = k ∧ i' = i) → sy_get w' k' i' = sy_get w k' i') : sy_fj Wr w' := by
  intro j hj
  refine sy_jp_fr (fun p hp i' h1 h2 => hg p.1 i' ?_) (h j hj)
  rintro ⟨e1, e2⟩
  have h3 := List.all_eq_true.mp (List.all_eq_true.mp hw j hj) p hp
  rw [e1] at h3
  simp only [beq_self_eq_true, Bool.not_true, Bool.false_or, Bool.or_eq_true, decide_eq_true_eq] at h3
  omega
theorem sy_jc_ok {C Wr : sy_Wr} {w w' : px_W} (hc : sy_jc C Wr = true) (h : sy_fj Wr w) (h2 : sy_fr C w w') : sy_fj Wr w' := by
  unfold sy_jc at hc
  rw [Bool.and_eq_true] at hc
  intro j hj
  have h3 := List.all_eq_true.mp hc.2 j hj
  rw [Bool.or_eq_true] at h3
  rcases h3 with h3 | h3
  · exact h2.2 j (by simpa using h3)
  · refine sy_jp_fr (fun p hp i h4 h5 => h2.1 p.1 i ?_) (h j hj)
    cases hm : sy_may C p.1 i with
    | false => rfl
    | true =>
      obtain ⟨q, hq, h6⟩ := List.any_eq_true.mp hm
      simp only [Bool.and_eq_true, decide_eq_true_eq] at h6
      have h7 := List.all_eq_true.mp (List.all_eq_true.mp h3 q hq) p hp
      rw [h6.1] at h7
      simp only [beq_self_eq_true, Bool.not_true, Bool.false_or, Bool.or_eq_true, decide_eq_true_eq] at h7
      omega
theorem sy_jc_pre {C Wr : sy_Wr} {w : px_W} (hc : sy_jc C Wr = true) (h : sy_fj Wr w) : sy_fj C w := by
  unfold sy_jc at hc
  rw [Bool.and_eq_true] at hc
  intro j hj
  exact h j (by simpa using List.all_eq_true.mp hc.1 j hj)
abbrev sy_G : Type := sy_T × Nat × List sy_L × List sy_Fa
abbrev sy_Fr : Type := Nat × Nat × List (Nat × sy_A) × List sy_A
abbrev sy_S : Type := sy_G × sy_Fr × List sy_Fr
def sy_lvok (ρ : Nat → Int) (τ : Nat → Int64) (lv : List (Nat × sy_A)) (lc : List (Nat × Value)) : Prop := ∀ q ∈ lv, px_look lc q.1 = some (sy_v ρ τ q.2)
def sy_frok (ρ : Nat → Int) (τ : Nat → Int64) (PM : List px_M) (f : sy_Fr) (c : pf_F) : Prop := PM[f.1]? = some c.1 ∧ c.2.1 = f.2.1 ∧ sy_lvok ρ τ f.2.2.1 c.2.2.1 ∧ c.2.2.2 = f.2.2.2.map (sy_v ρ τ)
def sy_frs (ρ : Nat → Int) (τ : Nat → Int64) (PM : List px_M) : List sy_Fr → List pf_F → Prop
  | [], [] => True
  | f :: fs, c :: cs => sy_frok ρ τ PM f c ∧ sy_frs ρ τ PM fs cs
  | _, _ => False
/-- what does not change in the check of one contract: methods, shape, what may be written, the first cells, the first symbols -/
abbrev sy_Q : Type := List px_M × List sy_Ce × sy_Wr × px_W × (Nat → Int) × Nat
def sy_mem (q : sy_Q) (g : sy_G) (ρ : Nat → Int) (τ : Nat → Int64) (w : px_W) : Prop := (q.2.2.2.2.2 ≤ g.1.length ∧ ∀ i, i < q.2.2.2.2.2 → ρ i = q.2.2.2.2.1 i) ∧ sy_ok ρ g.1 ∧ sy_cok ρ g.2.2.1 ∧ sy_fok ρ τ w g.2.2.2 ∧ sy_W q.2.1 w ∧ sy_fr q.2.2.1 q.2.2.2.1 w
def sy_Rel (q : sy_Q) (S : sy_S) (ρ : Nat → Int) (τ : Nat → Int64) (w : px_W) (c : pf_F) (cf : List pf_F) : Prop := sy_mem q S.1 ρ τ w ∧ sy_frok ρ τ q.1 S.2.1 c ∧ sy_frs ρ τ q.1 S.2.2 cf
/-- what does not change in the runs -/
abbrev sy_X : Type := List vw_C × List (List Int32) × List px_M × Option (List Int32) × (Nat × Nat) × (Option Value → px_W → Prop) × Nat
def sy_Good (x : sy_X) (q : sy_Q) (S : sy_S) : Prop := ∀ (ρ : Nat → Int) (τ : Nat → Int64) (w : px_W) (c : pf_F) (cf : List pf_F) (d : Nat), sy_Rel q S ρ τ w c cf → d + cf.length = x.2.2.2.2.2.2 → pf_Fin x.1 x.2.1 x.2.2.1 x.2.2.2.1 x.2.2.2.2.1 x.2.2.2.2.2.1 cf d c.1 c.2.1 c.2.2.1 c.2.2.2 w
/-! symbols that a state holds -/
def sy_wl (N : Nat) (e : sy_L) : Bool := e.2.all (fun t => decide (t.1 < N))
def sy_wa (N n : Nat) (a : sy_A) : Bool := match a with
  | .inl e => sy_wl N e
  | .inr (.inl _) => true
  | .inr (.inr s) => decide (s < n)
def sy_wf (N n : Nat) (f : sy_Fr) : Bool := f.2.2.1.all (fun q => sy_wa N n q.2) && f.2.2.2.all (sy_wa N n)
def sy_wg (N n : Nat) (g : sy_G) : Bool := g.2.2.1.all (sy_wl N) && g.2.2.2.all (fun f => sy_wl N f.2.1 && sy_wa N n f.2.2)
def sy_wS0 (S : sy_S) : Bool := sy_wg S.1.1.length S.1.2.1 S.1 && (sy_wf S.1.1.length S.1.2.1 S.2.1 && S.2.2.all (sy_wf S.1.1.length S.1.2.1))
theorem qx_lt (a b : Nat) : Nat.ble (Nat.succ a) b = decide (a < b) := by
  by_cases h : a < b
  · rw [decide_eq_true h]
    exact Nat.ble_eq_true_of_le h
  · rw [decide_eq_false h]
    cases hb : Nat.ble (Nat.succ a) b with
    | false => rfl
    | true => exact absurd (Nat.le_of_ble_eq_true hb) h
theorem qx_cand (a b : Bool) : cond a b false = (a && b) := by cases a <;> rfl
def qy_wl (N : Nat) (e : sy_L) : Bool := qx_all e.2 (fun t => Nat.ble (Nat.succ t.1) N)
theorem qy_wl_e (N : Nat) (e : sy_L) : qy_wl N e = sy_wl N e := by
  unfold qy_wl sy_wl
  rw [qx_all_e]
  congr 1
  funext t
  exact qx_lt _ _
def qy_wa (N n : Nat) (a : sy_A) : Bool := match a with
  | .inl e => qy_wl N e
  | .inr (.inl _) => true
  | .inr (.inr s) => Nat.ble (Nat.succ s) n
theorem qy_wa_e (N n : Nat) (a : sy_A) : qy_wa N n a = sy_wa N n a := by
  match a with
  | .inl e => exact qy_wl_e N e
  | .inr (.inl _) => rfl
  | .inr (.inr s) => exact qx_lt _ _
def qy_wf (N n : Nat) (f : sy_Fr) : Bool := cond (qx_all f.2.2.1 (fun q => qy_wa N n q.2)) (qx_all f.2.2.2 (qy_wa N n)) false
theorem qy_wf_e (N n : Nat) (f : sy_Fr) : qy_wf N n f = sy_wf N n f := by
  unfold qy_wf sy_wf
  rw [qx_all_e, qx_all_e, qx_cand]
  congr 2
  · funext t
    exact qy_wa_e N n t.2
  · funext t
    exact qy_wa_e N n t
def qy_wg (N n : Nat) (g : sy_G) : Bool := cond (qx_all g.2.2.1 (qy_wl N)) (qx_all g.2.2.2 (fun f => cond (qy_wl N f.2.1) (qy_wa N n f.2.2) false)) false
theorem qy_wg_e (N n : Nat) (g : sy_G) : qy_wg N n g = sy_wg N n g := by
  unfold qy_wg sy_wg
  rw [qx_all_e, qx_all_e, qx_cand]
  congr 2
  · funext t
    exact qy_wl_e N t
  · funext t
    rw [qx_cand, qy_wl_e, qy_wa_e]
def sy_wS (S : sy_S) : Bool := cond (qy_wg (qx_len S.1.1) S.1.2.1 S.1) (cond (qy_wf (qx_len S.1.1) S.1.2.1 S.2.1) (qx_all S.2.2 (qy_wf (qx_len S.1.1) S.1.2.1)) false) false
theorem sy_wS_eq (S : sy_S) : sy_wS S = sy_wS0 S := by
  unfold sy_wS sy_wS0
  rw [qx_cand, qx_cand, qx_all_e, qy_wg_e, qy_wf_e, qx_len_e]
  congr 3
  funext t
  exact qy_wf_e _ _ t
section SY1
variable {ρ ρ' : Nat → Int} {τ τ' : Nat → Int64} {N n : Nat}
theorem sy_ext_l (h : ∀ i, i < N → ρ' i = ρ i) {e : sy_L} (hw : sy_wl N e = true) : sy_e ρ' e = sy_e ρ e := by
  have key : ∀ l : List (Nat × Int), l.all (fun t => decide (t.1 < N)) = true → sy_s ρ' l = sy_s ρ l := by
    intro l
    induction l with
    | nil => intro _; rfl
    | cons t r ih =>
      intro hl
      simp only [List.all_cons, Bool.and_eq_true, decide_eq_true_eq] at hl
      show t.2 * ρ' t.1 + sy_s ρ' r = t.2 * ρ t.1 + sy_s ρ r
      rw [h _ hl.1, ih hl.2]
  unfold sy_e
  rw [key _ hw]
theorem sy_ext_a (h : ∀ i, i < N → ρ' i = ρ i) (ht : ∀ i, i < n → τ' i = τ i) {a : sy_A} (hw : sy_wa N n a = true) : sy_v ρ' τ' a = sy_v ρ τ a := by
  match a, hw with
  | .inl e, hw =>
    show Value.int _ = Value.int _
    rw [sy_ext_l h hw]
  | .inr (.inl k), _ => rfl
  | .inr (.inr s), hw =>
    show Value.long _ = Value.long _
    rw [ht s (of_decide_eq_true hw)]
theorem sy_ext_f (h : ∀ i, i < N → ρ' i = ρ i) (ht : ∀ i, i < n → τ' i = τ i) {PM : List px_M} {f : sy_Fr} {c : pf_F} (hw : sy_wf N n f = true) (hr : sy_frok ρ τ PM f c) : sy_frok ρ' τ' PM f c := by
  unfold sy_wf at hw
  simp only [Bool.and_eq_true, List.all_eq_true] at hw
  obtain ⟨h1, h2, h3, h4⟩ := hr
  refine ⟨h1, h2, fun q hq => ?_, ?_⟩
  · rw [sy_ext_a h ht (hw.1 q hq)]
    exact h3 q hq
  · rw [h4]
    exact List.map_congr_left (fun a ha => (sy_ext_a h ht (hw.2 a ha)).symm)
theorem sy_ext_fs (h : ∀ i, i < N → ρ' i = ρ i) (ht : ∀ i, i < n → τ' i = τ i) {PM : List px_M} : ∀ {fs : List sy_Fr} {cf : List pf_F}, fs.all (sy_wf N n) = true → sy_frs ρ τ PM fs cf → sy_frs ρ' τ' PM fs cf
  | [], [], _, _ => trivial
  | f :: fs, c :: cf, hw, hr => by
    simp only [List.all_cons, Bool.and_eq_true] at hw
    exact ⟨sy_ext_f h ht hw.1 hr.1, sy_ext_fs h ht hw.2 hr.2⟩
  | [], _ :: _, _, hr => hr.elim
  | _ :: _, [], _, hr => hr.elim
end SY1
/-- a new symbol -/
def sy_new (g : sy_G) (r : Int × Int) : sy_G := (g.1 ++ [r], g.2)
theorem sy_fresh {q : sy_Q} {S : sy_S} {ρ : Nat → Int} {τ : Nat → Int64} {w : px_W} {c : pf_F} {cf : List pf_F} (hw : sy_wS S = true) (h : sy_Rel q S ρ τ w c cf) {v : Int} {r : Int × Int} (h1 : r.1 ≤ v) (h2 : v ≤ r.2) :
    ∃ ρ' : Nat → Int, (∀ i, i < S.1.1.length → ρ' i = ρ i) ∧ ρ' S.1.1.length = v ∧ sy_Rel q (sy_new S.1 r, S.2) ρ' τ w c cf := by
  rw [sy_wS_eq] at hw
  unfold sy_wS0 sy_wg at hw
  simp only [Bool.and_eq_true] at hw
  obtain ⟨⟨hw1, hw2⟩, hw3, hw4⟩ := hw
  obtain ⟨⟨⟨m1, m1'⟩, m2, m3, m4, m5, m6⟩, f1, f2⟩ := h
  have hag : ∀ i, i < S.1.1.length → (fun i => if i = S.1.1.length then v else ρ i) i = ρ i := fun i hi => if_neg (by omega)
  refine ⟨fun i => if i = S.1.1.length then v else ρ i, hag, if_pos rfl, ⟨⟨?_, fun i hi => ?_⟩, fun i p hp => ?_, fun e he => ?_, fun f hf => ?_, m5, m6⟩, sy_ext_f hag (fun _ _ => rfl) hw3 f1, sy_ext_fs hag (fun _ _ => rfl) hw4 f2⟩
  · show _ ≤ (S.1.1 ++ [r]).length
    rw [List.length_append]
    omega
  · rw [hag i (by omega)]
    exact m1' i hi
  · have hp' : (S.1.1 ++ [r])[i]? = some p := hp
    by_cases hi : i < S.1.1.length
    · rw [List.getElem?_append_left hi] at hp'
      rw [hag i hi]
      exact m2 i p hp'
    · rw [List.getElem?_append_right (by omega)] at hp'
      have hz : i - S.1.1.length < 1 := (List.getElem?_eq_some_iff.mp hp').1
      have hi0 : i = S.1.1.length := by omega
      subst hi0
      rw [Nat.sub_self] at hp'
      cases hp'
      have hv : (fun i => if i = S.1.1.length then v else ρ i) S.1.1.length = v := if_pos rfl
      rw [hv]
      exact ⟨h1, h2⟩
  · rw [sy_ext_l hag (List.all_eq_true.mp hw1 e he)]
    exact m3 e he
  · have hf2 := List.all_eq_true.mp hw2 f hf
    rw [Bool.and_eq_true] at hf2
    rw [sy_ext_l hag hf2.1, sy_ext_a hag (fun _ _ => rfl) hf2.2]
    exact m4 f hf
/-- a new long -/
theorem sy_freshL {q : sy_Q} {S : sy_S} {ρ : Nat → Int} {τ : Nat → Int64} {w : px_W} {c : pf_F} {cf : List pf_F} (hw : sy_wS S = true) (h : sy_Rel q S ρ τ w c cf) (v : Int64) :
    ∃ τ' : Nat → Int64, τ' S.1.2.1 = v ∧ (∀ a : sy_A, sy_wa S.1.1.length S.1.2.1 a = true → sy_v ρ τ' a = sy_v ρ τ a) ∧ sy_Rel q ((S.1.1, S.1.2.1 + 1, S.1.2.2), S.2) ρ τ' w c cf := by
  rw [sy_wS_eq] at hw
  unfold sy_wS0 sy_wg at hw
  simp only [Bool.and_eq_true] at hw
  obtain ⟨⟨hw1, hw2⟩, hw3, hw4⟩ := hw
  obtain ⟨⟨m1, m2, m3, m4, m5, m6⟩, f1, f2⟩ := h
  have hag : ∀ i, i < S.1.2.1 → (fun i => if i = S.1.2.1 then v else τ i) i = τ i := fun i hi => if_neg (by omega)
  refine ⟨fun i => if i = S.1.2.1 then v else τ i, if_pos rfl, fun a ha => sy_ext_a (fun _ _ => rfl) hag ha, ⟨m1, m2, m3, fun f hf => ?_, m5, m6⟩, sy_ext_f (fun _ _ => rfl) hag hw3 f1, sy_ext_fs (fun _ _ => rfl) hag hw4 f2⟩
  have hf2 := List.all_eq_true.mp hw2 f hf
  rw [Bool.and_eq_true] at hf2
  rw [sy_ext_a (fun _ _ => rfl) hag hf2.2]
  exact m4 f hf
/-- a range is made smaller -/
def sy_rng (g : sy_G) (i : Nat) (r : Int × Int) : sy_G := (qx_set g.1 i r, g.2)

end
