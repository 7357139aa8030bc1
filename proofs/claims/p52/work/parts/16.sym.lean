/-! SYMBOLIC STATES -/
abbrev sy_Sg : Type := List (Nat × Nat × List (Int × Int))
/-- what a cell is: ints (length, ranges by stretches: from, to, by turns), longs (length), an object (kind, a range or a reference for each field) -/
abbrev sy_Ce : Type := (Nat × sy_Sg) ⊕ (Nat ⊕ (Nat × List ((Int × Int) ⊕ Nat)))
def sy_full : Int × Int := (-2147483648, 2147483647)
def sy_seg : sy_Sg → Nat → Int × Int
  | [], _ => sy_full
  | g :: r, i => if g.1 ≤ i ∧ i < g.2.1 then g.2.2.getD ((i - g.1) % g.2.2.length) sy_full else sy_seg r i
def sy_in (q : Int × Int) (x : Int32) : Prop := q.1 ≤ x.toInt ∧ x.toInt ≤ q.2
def sy_ce (a : sy_Ce) (c : px_E) : Prop := match a, c with
  | .inl (n, sg), .inl l => l.length = n ∧ ∀ (i : Nat) (x : Int32), l[i]? = some x → sy_in (sy_seg sg i) x
  | .inr (.inl n), .inr (.inl l) => l.length = n
  | .inr (.inr (k, sl)), .inr (.inr o) => o.1 = k ∧ o.2.length = sl.length ∧ (∀ (i : Nat) (r : Int × Int), sl[i]? = some (.inl r) → ∃ x, o.2[i]? = some (.int x) ∧ sy_in r x) ∧ ∀ (i a : Nat), sl[i]? = some (.inr a) → o.2[i]? = some (.ref a)
  | _, _ => False
def sy_W (A : List sy_Ce) (w : px_W) : Prop := w.length = A.length ∧ ∀ (k : Nat) (a : sy_Ce), A[k]? = some a → ∃ c, w[k]? = some c ∧ sy_ce a c
/-- tables that stand in no cell: what an instruction gives of a number and a constant -/
def sy_px (k i : Nat) : Option Value := match k / 8589934592 with
  | 1 => (px_bin .ishr (Int32.ofInt ((i : Int) - 2147483648)) (Int32.ofInt ((k % 8589934592 : Nat) - 2147483648))).map Value.int
  | 2 => (px_bin .iand (Int32.ofInt ((i : Int) - 2147483648)) (Int32.ofInt ((k % 8589934592 : Nat) - 2147483648))).map Value.int
  | 3 => (px_bin .iushr (Int32.ofInt ((i : Int) - 2147483648)) (Int32.ofInt ((k % 8589934592 : Nat) - 2147483648))).map Value.int
  | 4 => some (.int (Int32.ofInt ((i : Int) - 1099511627776)))
  | _ => none
def sy_get (w : px_W) (k i : Nat) : Option Value := match w[k]? with
  | some (.inl l) => (l[i]?).map Value.int
  | some (.inr (.inl l)) => (l[i]?).map Value.long
  | some (.inr (.inr o)) => o.2[i]?
  | none => sy_px k i
abbrev sy_Fa : Type := Nat × sy_L × sy_A
def sy_fok (ρ : Nat → Int) (τ : Nat → Int64) (w : px_W) (F : List sy_Fa) : Prop := ∀ f ∈ F, 0 ≤ sy_e ρ f.2.1 ∧ sy_get w f.1 (sy_e ρ f.2.1).toNat = some (sy_v ρ τ f.2.2)
/-- places that may be written: cell, from, to -/
abbrev sy_Wr : Type := List (Nat × Nat × Nat)
def sy_may (Wr : sy_Wr) (k i : Nat) : Bool := Wr.any (fun q => decide (q.1 = k) && (decide (q.2.1 ≤ i) && decide (i < q.2.2)))
def sy_fr (Wr : sy_Wr) (w0 w : px_W) : Prop := ∀ k i : Nat, sy_may Wr k i = false → sy_get w k i = sy_get w0 k i
abbrev sy_G : Type := sy_T × Nat × List sy_L × List sy_Fa
abbrev sy_Fr : Type := Nat × Nat × List (Nat × sy_A) × List sy_A
abbrev sy_S : Type := sy_G × sy_Fr × List sy_Fr
def sy_lvok (ρ : Nat → Int) (τ : Nat → Int64) (lv : List (Nat × sy_A)) (lc : List (Nat × Value)) : Prop := ∀ q ∈ lv, px_look lc q.1 = some (sy_v ρ τ q.2)
def sy_frok (ρ : Nat → Int) (τ : Nat → Int64) (PM : List px_M) (f : sy_Fr) (c : pf_F) : Prop := PM[f.1]? = some c.1 ∧ c.2.1 = f.2.1 ∧ sy_lvok ρ τ f.2.2.1 c.2.2.1 ∧ c.2.2.2 = f.2.2.2.map (sy_v ρ τ)
def sy_frs (ρ : Nat → Int) (τ : Nat → Int64) (PM : List px_M) : List sy_Fr → List pf_F → Prop
  | [], [] => True
  | f :: fs, c :: cs => sy_frok ρ τ PM f c ∧ sy_frs ρ τ PM fs cs
  | _, _ => False
/-- what does not change in the check of one contract: methods, shape, what may be written, the first cells, the first symbols -/
abbrev sy_Q : Type := List px_M × List sy_Ce × sy_Wr × px_W × (Nat → Int) × Nat
def sy_mem (q : sy_Q) (g : sy_G) (ρ : Nat → Int) (τ : Nat → Int64) (w : px_W) : Prop := (q.2.2.2.2.2 ≤ g.1.length ∧ ∀ i, i < q.2.2.2.2.2 → ρ i = q.2.2.2.2.1 i) ∧ sy_ok ρ g.1 ∧ sy_cok ρ g.2.2.1 ∧ sy_fok ρ τ w g.2.2.2 ∧ sy_W q.2.1 w ∧ sy_fr q.2.2.1 q.2.2.2.1 w
def sy_Rel (q : sy_Q) (S : sy_S) (ρ : Nat → Int) (τ : Nat → Int64) (w : px_W) (c : pf_F) (cf : List pf_F) : Prop := sy_mem q S.1 ρ τ w ∧ sy_frok ρ τ q.1 S.2.1 c ∧ sy_frs ρ τ q.1 S.2.2 cf
/-- what does not change in the runs -/
abbrev sy_X : Type := List vw_C × List (List Int32) × List px_M × Option (List Int32) × (Nat × Nat) × (Option Value → px_W → Prop) × Nat
def sy_Good (x : sy_X) (q : sy_Q) (S : sy_S) : Prop := ∀ (ρ : Nat → Int) (τ : Nat → Int64) (w : px_W) (c : pf_F) (cf : List pf_F) (d : Nat), sy_Rel q S ρ τ w c cf → d + cf.length = x.2.2.2.2.2.2 → pf_Fin x.1 x.2.1 x.2.2.1 x.2.2.2.1 x.2.2.2.2.1 x.2.2.2.2.2.1 cf d c.1 c.2.1 c.2.2.1 c.2.2.2 w
/-! symbols that a state holds -/
def sy_wl (N : Nat) (e : sy_L) : Bool := e.2.all (fun t => decide (t.1 < N))
def sy_wa (N n : Nat) (a : sy_A) : Bool := match a with
  | .inl e => sy_wl N e
  | .inr (.inl _) => true
  | .inr (.inr s) => decide (s < n)
def sy_wf (N n : Nat) (f : sy_Fr) : Bool := f.2.2.1.all (fun q => sy_wa N n q.2) && f.2.2.2.all (sy_wa N n)
def sy_wg (N n : Nat) (g : sy_G) : Bool := g.2.2.1.all (sy_wl N) && g.2.2.2.all (fun f => sy_wl N f.2.1 && sy_wa N n f.2.2)
def sy_wS (S : sy_S) : Bool := sy_wg S.1.1.length S.1.2.1 S.1 && (sy_wf S.1.1.length S.1.2.1 S.2.1 && S.2.2.all (sy_wf S.1.1.length S.1.2.1))
section SY1
variable {ρ ρ' : Nat → Int} {τ τ' : Nat → Int64} {N n : Nat}
theorem sy_ext_l (h : ∀ i, i < N → ρ' i = ρ i) {e : sy_L} (hw : sy_wl N e = true) : sy_e ρ' e = sy_e ρ e := by
  have key : ∀ l : List (Nat × Int), l.all (fun t => decide (t.1 < N)) = true → sy_s ρ' l = sy_s ρ l := by
    intro l
    induction l with
    | nil => intro _; rfl
    | cons t r ih =>
      intro hl
      simp only [List.all_cons, Bool.and_eq_true, decide_eq_true_eq] at hl
      show t.2 * ρ' t.1 + sy_s ρ' r = t.2 * ρ t.1 + sy_s ρ r
      rw [h _ hl.1, ih hl.2]
  unfold sy_e
  rw [key _ hw]
theorem sy_ext_a (h : ∀ i, i < N → ρ' i = ρ i) (ht : ∀ i, i < n → τ' i = τ i) {a : sy_A} (hw : sy_wa N n a = true) : sy_v ρ' τ' a = sy_v ρ τ a := by
  match a, hw with
  | .inl e, hw =>
    show Value.int _ = Value.int _
    rw [sy_ext_l h hw]
  | .inr (.inl k), _ => rfl
  | .inr (.inr s), hw =>
    show Value.long _ = Value.long _
    rw [ht s (of_decide_eq_true hw)]
theorem sy_ext_f (h : ∀ i, i < N → ρ' i = ρ i) (ht : ∀ i, i < n → τ' i = τ i) {PM : List px_M} {f : sy_Fr} {c : pf_F} (hw : sy_wf N n f = true) (hr : sy_frok ρ τ PM f c) : sy_frok ρ' τ' PM f c := by
  unfold sy_wf at hw
  simp only [Bool.and_eq_true, List.all_eq_true] at hw
  obtain ⟨h1, h2, h3, h4⟩ := hr
  refine ⟨h1, h2, fun q hq => ?_, ?_⟩
  · rw [sy_ext_a h ht (hw.1 q hq)]
    exact h3 q hq
  · rw [h4]
    exact List.map_congr_left (fun a ha => (sy_ext_a h ht (hw.2 a ha)).symm)
theorem sy_ext_fs (h : ∀ i, i < N → ρ' i = ρ i) (ht : ∀ i, i < n → τ' i = τ i) {PM : List px_M} : ∀ {fs : List sy_Fr} {cf : List pf_F}, fs.all (sy_wf N n) = true → sy_frs ρ τ PM fs cf → sy_frs ρ' τ' PM fs cf
  | [], [], _, _ => trivial
  | f :: fs, c :: cf, hw, hr => by
    simp only [List.all_cons, Bool.and_eq_true] at hw
    exact ⟨sy_ext_f h ht hw.1 hr.1, sy_ext_fs h ht hw.2 hr.2⟩
  | [], _ :: _, _, hr => hr.elim
  | _ :: _, [], _, hr => hr.elim
end SY1
/-- a new symbol -/
def sy_new (g : sy_G) (r : Int × Int) : sy_G := (g.1 ++ [r], g.2)
theorem sy_fresh {q : sy_Q} {S : sy_S} {ρ : Nat → Int} {τ : Nat → Int64} {w : px_W} {c : pf_F} {cf : List pf_F} (hw : sy_wS S = true) (h : sy_Rel q S ρ τ w c cf) {v : Int} {r : Int × Int} (h1 : r.1 ≤ v) (h2 : v ≤ r.2) :
    ∃ ρ' : Nat → Int, (∀ i, i < S.1.1.length → ρ' i = ρ i) ∧ ρ' S.1.1.length = v ∧ sy_Rel q (sy_new S.1 r, S.2) ρ' τ w c cf := by
  unfold sy_wS sy_wg at hw
  simp only [Bool.and_eq_true] at hw
  obtain ⟨⟨hw1, hw2⟩, hw3, hw4⟩ := hw
  obtain ⟨⟨⟨m1, m1'⟩, m2, m3, m4, m5, m6⟩, f1, f2⟩ := h
  have hag : ∀ i, i < S.1.1.length → (fun i => if i = S.1.1.length then v else ρ i) i = ρ i := fun i hi => if_neg (by omega)
  refine ⟨fun i => if i = S.1.1.length then v else ρ i, hag, if_pos rfl, ⟨⟨?_, fun i hi => ?_⟩, fun i p hp => ?_, fun e he => ?_, fun f hf => ?_, m5, m6⟩, sy_ext_f hag (fun _ _ => rfl) hw3 f1, sy_ext_fs hag (fun _ _ => rfl) hw4 f2⟩
  · show _ ≤ (S.1.1 ++ [r]).length
    rw [List.length_append]
    omega
  · rw [hag i (by omega)]
    exact m1' i hi
  · have hp' : (S.1.1 ++ [r])[i]? = some p := hp
    by_cases hi : i < S.1.1.length
    · rw [List.getElem?_append_left hi] at hp'
      rw [hag i hi]
      exact m2 i p hp'
    · rw [List.getElem?_append_right (by omega)] at hp'
      have hz : i - S.1.1.length < 1 := (List.getElem?_eq_some_iff.mp hp').1
      have hi0 : i = S.1.1.length := by omega
      subst hi0
      rw [Nat.sub_self] at hp'
      cases hp'
      have hv : (fun i => if i = S.1.1.length then v else ρ i) S.1.1.length = v := if_pos rfl
      rw [hv]
      exact ⟨h1, h2⟩
  · rw [sy_ext_l hag (List.all_eq_true.mp hw1 e he)]
    exact m3 e he
  · have hf2 := List.all_eq_true.mp hw2 f hf
    rw [Bool.and_eq_true] at hf2
    rw [sy_ext_l hag hf2.1, sy_ext_a hag (fun _ _ => rfl) hf2.2]
    exact m4 f hf
/-- a new long -/
theorem sy_freshL {q : sy_Q} {S : sy_S} {ρ : Nat → Int} {τ : Nat → Int64} {w : px_W} {c : pf_F} {cf : List pf_F} (hw : sy_wS S = true) (h : sy_Rel q S ρ τ w c cf) (v : Int64) :
    ∃ τ' : Nat → Int64, τ' S.1.2.1 = v ∧ (∀ a : sy_A, sy_wa S.1.1.length S.1.2.1 a = true → sy_v ρ τ' a = sy_v ρ τ a) ∧ sy_Rel q ((S.1.1, S.1.2.1 + 1, S.1.2.2), S.2) ρ τ' w c cf := by
  unfold sy_wS sy_wg at hw
  simp only [Bool.and_eq_true] at hw
  obtain ⟨⟨hw1, hw2⟩, hw3, hw4⟩ := hw
  obtain ⟨⟨m1, m2, m3, m4, m5, m6⟩, f1, f2⟩ := h
  have hag : ∀ i, i < S.1.2.1 → (fun i => if i = S.1.2.1 then v else τ i) i = τ i := fun i hi => if_neg (by omega)
  refine ⟨fun i => if i = S.1.2.1 then v else τ i, if_pos rfl, fun a ha => sy_ext_a (fun _ _ => rfl) hag ha, ⟨m1, m2, m3, fun f hf => ?_, m5, m6⟩, sy_ext_f (fun _ _ => rfl) hag hw3 f1, sy_ext_fs (fun _ _ => rfl) hag hw4 f2⟩
  have hf2 := List.all_eq_true.mp hw2 f hf
  rw [Bool.and_eq_true] at hf2
  rw [sy_ext_a (fun _ _ => rfl) hag hf2.2]
  exact m4 f hf
/-- a range is made smaller -/
def sy_rng (g : sy_G) (i : Nat) (r : Int × Int) : sy_G := (g.1.set i r, g.2)
