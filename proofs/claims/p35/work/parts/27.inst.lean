noncomputable section
/-! ONE STATE AS A CASE OF ANOTHER: symbols stand for forms -/
def sy_ρ (ρ : Nat → Int) (σ : List sy_L) : Nat → Int := fun i => match σ[i]? with
  | some f => sy_e ρ f
  | none => 0
def sy_τ (τ : Nat → Int64) (σL : List Nat) : Nat → Int64 := fun i => match σL[i]? with
  | some s => τ s
  | none => 0
def sy_sbs (σ : List sy_L) (l : List (Nat × Int)) : Option sy_L := List.rec (motive := fun _ => Option sy_L) (some (0, [])) (fun t _ ih => Option.rec (motive := fun _ => Option sy_L) none (fun e => Option.rec (motive := fun _ => Option sy_L) none (fun z => some (sy_add (sy_scl t.2 e) z)) ih) (qx_nth σ t.1)) l
theorem sy_sbs_e {ρ : Nat → Int} {σ : List sy_L} : ∀ (l : List (Nat × Int)) (z : sy_L), sy_sbs σ l = some z → sy_e ρ z = sy_s (sy_ρ ρ σ) l
  | [], z, h => by
    cases h
    simp [sy_e, sy_s]
  | t :: r, z, h => by
    have h0 : Option.rec (motive := fun _ => Option sy_L) none (fun e => Option.rec (motive := fun _ => Option sy_L) none (fun z => some (sy_add (sy_scl t.2 e) z)) (sy_sbs σ r)) (qx_nth σ t.1) = some z := h
    cases he : qx_nth σ t.1 with
    | none =>
      rw [he] at h0
      cases h0
    | some e =>
      rw [he] at h0
      cases hy : sy_sbs σ r with
      | none =>
        rw [hy] at h0
        cases h0
      | some y =>
        rw [hy] at h0
        have h1 : sy_add (sy_scl t.2 e) y = z := Option.some.inj h0
        subst h1
        rw [sy_add_e, sy_scl_e, sy_sbs_e r y hy]
        show _ = t.2 * sy_ρ ρ σ t.1 + sy_s (sy_ρ ρ σ) r
        rw [qx_nth_ok] at he
        have : sy_ρ ρ σ t.1 = sy_e ρ e := by
          unfold sy_ρ
          rw [he]
        rw [this]
def sy_sb (σ : List sy_L) (e : sy_L) : Option sy_L := Option.rec (motive := fun _ => Option sy_L) none (fun z => some (qi_add e.1 z.1, z.2)) (sy_sbs σ e.2)
theorem sy_sb_e {ρ : Nat → Int} {σ : List sy_L} {e z : sy_L} (h : sy_sb σ e = some z) : sy_e ρ z = sy_e (sy_ρ ρ σ) e := by
  unfold sy_sb at h
  cases hy : sy_sbs σ e.2 with
  | none =>
    rw [hy] at h
    cases h
  | some y =>
    rw [hy] at h
    have h1 : (qi_add e.1 y.1, y.2) = z := Option.some.inj h
    subst h1
    have := sy_sbs_e (ρ := ρ) e.2 y hy
    unfold sy_e at this ⊢
    show qi_add e.1 y.1 + sy_s ρ y.2 = _
    rw [qi_add_e]
    omega
def sy_sbA (σ : List sy_L) (σL : List Nat) (a : sy_A) : Option sy_A := match a with
  | .inl e => (sy_sb σ e).map .inl
  | .inr (.inl k) => some (.inr (.inl k))
  | .inr (.inr s) => (σL[s]?).map (fun t => .inr (.inr t))
theorem sy_sbA_e {ρ : Nat → Int} {τ : Nat → Int64} {σ : List sy_L} {σL : List Nat} {a z : sy_A} (h : sy_sbA σ σL a = some z) : sy_v ρ τ z = sy_v (sy_ρ ρ σ) (sy_τ τ σL) a := by
  match a, h with
  | .inl e, h =>
    obtain ⟨y, hy, rfl⟩ := Option.map_eq_some_iff.mp h
    show Value.int _ = Value.int _
    rw [sy_sb_e hy]
  | .inr (.inl k), h => cases h; rfl
  | .inr (.inr s), h =>
    obtain ⟨y, hy, rfl⟩ := Option.map_eq_some_iff.mp h
    show Value.long (τ y) = Value.long (sy_τ τ σL s)
    unfold sy_τ
    rw [hy]
def sy_isz (z : sy_L) : Bool := cond (qi_z z.1) (List.rec (motive := fun _ => Bool) true (fun _ _ _ => false) z.2) false
theorem sy_isz_e {z : sy_L} (h : sy_isz z = true) : z = (0, []) := by
  obtain ⟨h1, h2⟩ := qx_and h
  obtain ⟨k, l⟩ := z
  have h3 : k = 0 := qi_z_e.mp h1
  cases l with
  | nil => rw [h3]
  | cons t r => cases h2
def sy_eq (R : sy_T) (a b : sy_L) : Bool := sy_isz (sy_nm R (sy_sub a b))
/-- forms that are written alike -/
def qy_tq (a b : List (Nat × Int)) : Bool := List.rec (motive := fun _ => List (Nat × Int) → Bool) (fun b => List.rec (motive := fun _ => Bool) true (fun _ _ _ => false) b) (fun t _ ih b => List.rec (motive := fun _ => Bool) false (fun u s _ => cond (Nat.beq t.1 u.1) (cond (qi_eq t.2 u.2) (ih s) false) false) b) a b
theorem qy_tq_e : ∀ {a b : List (Nat × Int)}, qy_tq a b = true → a = b
  | [], [], _ => rfl
  | [], _ :: _, h => by cases h
  | _ :: _, [], h => by cases h
  | t :: r, u :: s, h => by
    have h0 : cond (Nat.beq t.1 u.1) (cond (qi_eq t.2 u.2) (qy_tq r s) false) false = true := h
    obtain ⟨h1, h2⟩ := qx_and h0
    obtain ⟨h3, h4⟩ := qx_and h2
    have e1 := Nat.eq_of_beq_eq_true h1
    have e2 := qi_eq_e.mp h3
    rw [qy_tq_e h4]
    obtain ⟨t1, t2⟩ := t
    obtain ⟨u1, u2⟩ := u
    have e3 : t1 = u1 := e1
    have e4 : t2 = u2 := e2
    rw [e3, e4]
def qy_leq (a b : sy_L) : Bool := cond (qi_eq a.1 b.1) (qy_tq a.2 b.2) false
theorem qy_leq_e {a b : sy_L} (h : qy_leq a b = true) : a = b := by
  obtain ⟨h1, h2⟩ := qx_and h
  obtain ⟨a1, a2⟩ := a
  obtain ⟨b1, b2⟩ := b
  have e1 : a1 = b1 := qi_eq_e.mp h1
  have e2 : a2 = b2 := qy_tq_e h2
  rw [e1, e2]
/-- the first symbols stand for themselves -/
def qy_id (N0 : Nat) (σ : List sy_L) : Bool := qx_all (List.range N0) (fun i => Option.rec (motive := fun _ => Bool) false (fun f => qy_leq f (sy_x i)) (qx_nth σ i))
theorem qy_id_e {N0 : Nat} {σ : List sy_L} (h : qy_id N0 σ = true) : ∀ i, i < N0 → σ[i]? = some (sy_x i) := by
  intro i hi
  unfold qy_id at h
  rw [qx_all_e] at h
  have h1 := List.all_eq_true.mp h i (List.mem_range.mpr hi)
  rw [← qx_nth_ok]
  cases h2 : qx_nth σ i with
  | none =>
    rw [h2] at h1
    cases h1
  | some f =>
    rw [h2] at h1
    have h3 : qy_leq f (sy_x i) = true := h1
    rw [qy_leq_e h3]
theorem sy_eq_e {ρ : Nat → Int} {R : sy_T} (h : sy_ok ρ R) {a b : sy_L} (he : sy_eq R a b = true) : sy_e ρ a = sy_e ρ b := by
  have h1 := sy_nm_e h (sy_sub a b)
  rw [sy_isz_e he, sy_sub_e] at h1
  have : sy_e ρ ((0, []) : sy_L) = 0 := by simp [sy_e, sy_s]
  omega
/-- one place, by forms or, where places are told apart, by constraints -/
def sy_eq2 (t : Bool) (R : sy_T) (cs : List sy_L) (a b : sy_L) : Bool := cond (sy_eq R a b) true (cond t (cond (sy_pos R cs (sy_sub a b)) (sy_pos R cs (sy_sub b a)) false) false)
theorem sy_eq2_e {ρ : Nat → Int} {R : sy_T} {cs : List sy_L} (h : sy_ok ρ R) (hc : sy_cok ρ cs) {t : Bool} {a b : sy_L} (he : sy_eq2 t R cs a b = true) : sy_e ρ a = sy_e ρ b := by
  unfold sy_eq2 at he
  rcases qx_or he with he | he
  · exact sy_eq_e h he
  · obtain ⟨h1, h2⟩ := qx_and (qx_and he).2
    have h3 := sy_pos_e h hc h1
    have h4 := sy_pos_e h hc h2
    rw [sy_sub_e] at h3 h4
    omega
/-- cells told apart, where a method reads them -/
def sy_spr (m k : Nat) : Bool := cond (Nat.beq k 139) true (cond (Nat.beq m 293) (Nat.beq k 153) (cond (Nat.beq m 292) (Nat.beq k 152) false))
def sy_eqA (R : sy_T) (a b : sy_A) : Bool := match a, b with
  | .inl e, .inl f => sy_eq R e f
  | .inr (.inl k), .inr (.inl l) => Nat.beq k l
  | .inr (.inr k), .inr (.inr l) => Nat.beq k l
  | _, _ => false
theorem sy_eqA_e {ρ : Nat → Int} {τ : Nat → Int64} {R : sy_T} (h : sy_ok ρ R) {a b : sy_A} (he : sy_eqA R a b = true) : sy_v ρ τ a = sy_v ρ τ b := by
  match a, b, he with
  | .inl e, .inl f, he =>
    show Value.int _ = Value.int _
    rw [sy_eq_e h he]
  | .inr (.inl k), .inr (.inl l), he => rw [Nat.eq_of_beq_eq_true he]
  | .inr (.inr k), .inr (.inr l), he => rw [Nat.eq_of_beq_eq_true he]
/-- ranges, constraints and facts of one state hold, by a case, in another -/
def sy_fitR (R : sy_T) (cs : List sy_L) (T : sy_T) (σ : List sy_L) : Bool := List.rec (motive := fun _ => List sy_L → Bool) (fun _ => true) (fun p _ ih σ => List.rec (motive := fun _ => Bool) false (fun f s _ => cond (sy_pos R cs (sy_add f (sy_c (qi_neg p.1)))) (cond (sy_pos R cs (sy_sub (sy_c p.2) f)) (ih s) false) false) σ) T σ
theorem sy_fitR_ok {ρ : Nat → Int} {R : sy_T} {cs : List sy_L} (h : sy_ok ρ R) (hc : sy_cok ρ cs) : ∀ (T : sy_T) (σ : List sy_L), sy_fitR R cs T σ = true → ∀ (i : Nat) (p : Int × Int), T[i]? = some p → ∃ f, σ[i]? = some f ∧ p.1 ≤ sy_e ρ f ∧ sy_e ρ f ≤ p.2
  | [], _, _, i, p, hp => by simp at hp
  | _ :: _, [], hf, _, _, _ => by cases hf
  | p0 :: r, f :: σ, hf0, i, p, hp => by
    have hf1 : cond (sy_pos R cs (sy_add f (sy_c (qi_neg p0.1)))) (cond (sy_pos R cs (sy_sub (sy_c p0.2) f)) (sy_fitR R cs r σ) false) false = true := hf0
    have hf := And.intro (qx_and hf1).1 (qx_and (qx_and hf1).2)
    cases i with
    | zero =>
      rw [List.getElem?_cons_zero] at hp
      cases hp
      have h1 := sy_pos_e h hc hf.1
      have h2 := sy_pos_e h hc hf.2.1
      rw [sy_add_e, sy_c_e, qi_neg_e] at h1
      rw [sy_sub_e, sy_c_e] at h2
      exact ⟨f, rfl, by omega, by omega⟩
    | succ i =>
      rw [List.getElem?_cons_succ] at hp ⊢
      exact sy_fitR_ok h hc r σ hf.2.2 i p hp
def sy_fitF (R : sy_T) (cs : List sy_L) (F : List sy_Fa) (σ : List sy_L) (σL : List Nat) (f : sy_Fa) : Bool := match sy_sb σ f.2.1, sy_sbA σ σL f.2.2 with
  | some ix, some v => qx_any F (fun g => cond (Nat.beq g.1 f.1) (cond (sy_eq2 (sy_spf f.1) R cs g.2.1 ix) (sy_eqA R g.2.2 v) false) false)
  | _, _ => false
def sy_fitG (g : sy_G) (σ : List sy_L) (σL : List Nat) (t : sy_G) : Bool := cond (qx_all t.2.2.1 (fun c => match sy_sb σ c with
  | some e => sy_pos g.1 g.2.2.1 e
  | none => false)) (cond (sy_fitR g.1 g.2.2.1 t.1 σ) (qx_all t.2.2.2 (sy_fitF g.1 g.2.2.1 g.2.2.2 σ σL)) false) false
theorem sy_fitG_ok {ρ : Nat → Int} {τ : Nat → Int64} {w : px_W} {g t : sy_G} {σ : List sy_L} {σL : List Nat} (h : sy_ok ρ g.1) (hc : sy_cok ρ g.2.2.1) (hF : sy_fok ρ τ w g.2.2.2) (hf : sy_fitG g σ σL t = true) : sy_ok (sy_ρ ρ σ) t.1 ∧ sy_cok (sy_ρ ρ σ) t.2.2.1 ∧ sy_fok (sy_ρ ρ σ) (sy_τ τ σL) w t.2.2.2 := by
  unfold sy_fitG at hf
  obtain ⟨h2, hf2⟩ := qx_and hf
  obtain ⟨h1, h3⟩ := qx_and hf2
  rw [qx_all_e] at h2 h3
  rw [List.all_eq_true] at h2 h3
  refine ⟨fun i p hp => ?_, fun c hcc => ?_, fun f hff => ?_⟩
  · obtain ⟨f, f1, f2⟩ := sy_fitR_ok h hc _ _ h1 i p hp
    have : sy_ρ ρ σ i = sy_e ρ f := by
      unfold sy_ρ
      rw [f1]
    rw [this]
    exact f2
  · have h4 := h2 c hcc
    split at h4
    · rename_i e he
      rw [← sy_sb_e he]
      exact sy_pos_e h hc h4
    · cases h4
  · have h4 := h3 f hff
    unfold sy_fitF at h4
    split at h4
    · rename_i ix v hi hv
      rw [qx_any_e] at h4
      obtain ⟨g2, g3, g4b⟩ := List.any_eq_true.mp h4
      have g4 := And.intro (Nat.eq_of_beq_eq_true (qx_and g4b).1) (qx_and (qx_and g4b).2)
      have h5 := hF g2 g3
      have e1 := sy_eq2_e h hc g4.2.1
      have e2 := sy_eqA_e (τ := τ) h g4.2.2
      rw [sy_sb_e hi] at e1
      rw [sy_sbA_e hv] at e2
      rw [g4.1, e1, e2] at h5
      exact h5
    · cases h4
/-! CUTS: a state with a measure; whoever comes to one comes with less -/
abbrev sy_Cut : Type := Nat × sy_G × List (Nat × sy_A) × sy_L
/-- a state comes to a cut, as a case of it, with a measure below m -/
def sy_fitC (N0 : Nat) (S : sy_S) (c : sy_Cut) (σ : List sy_L) (σL : List Nat) (m : sy_L) : Bool :=
  decide (S.2.2 = []) && (decide (S.2.1.2.2.2 = []) && (decide (S.2.1.2.1 = c.1) && (decide (N0 ≤ c.2.1.1.length) && (qy_id N0 σ && (c.2.2.1.all (fun p => match px_look S.2.1.2.2.1 p.1, sy_sbA σ σL p.2 with
    | some a, some b => sy_eqA S.1.1 a b
    | _, _ => false) && (sy_fitG S.1 σ σL c.2.1 && (match sy_sb σ c.2.2.2 with
    | some e => sy_pos S.1.1 S.1.2.2.1 e && sy_pos S.1.1 S.1.2.2.1 (sy_add (sy_sub m e) (sy_c (-1)))
    | none => false)))))))
theorem sy_fitC_ok {N0 : Nat} {S : sy_S} {c : sy_Cut} {σ : List sy_L} {σL : List Nat} {m : sy_L} {ρ : Nat → Int} {τ : Nat → Int64} {w : px_W} {lc : List (Nat × Value)} (hf : sy_fitC N0 S c σ σL m = true) (h : sy_ok ρ S.1.1) (hc : sy_cok ρ S.1.2.2.1) (hF : sy_fok ρ τ w S.1.2.2.2) (hl : sy_lvok ρ τ S.2.1.2.2.1 lc) :
    (S.2.2 = [] ∧ S.2.1.2.2.2 = [] ∧ S.2.1.2.1 = c.1 ∧ N0 ≤ c.2.1.1.length) ∧ (∀ i, i < N0 → sy_ρ ρ σ i = ρ i) ∧ sy_ok (sy_ρ ρ σ) c.2.1.1 ∧ sy_cok (sy_ρ ρ σ) c.2.1.2.2.1 ∧ sy_fok (sy_ρ ρ σ) (sy_τ τ σL) w c.2.1.2.2.2 ∧ sy_lvok (sy_ρ ρ σ) (sy_τ τ σL) c.2.2.1 lc ∧ 0 ≤ sy_e (sy_ρ ρ σ) c.2.2.2 ∧ sy_e (sy_ρ ρ σ) c.2.2.2 < sy_e ρ m := by
  unfold sy_fitC at hf
  simp only [Bool.and_eq_true, decide_eq_true_eq] at hf
  obtain ⟨h1, h2, h3, h4, h5, h7, h6, h8⟩ := hf
  obtain ⟨g1, g2, g3⟩ := sy_fitG_ok h hc hF h6
  refine ⟨⟨h1, h2, h3, h4⟩, fun i hi => ?_, g1, g2, g3, fun p hp => ?_, ?_⟩
  · have := qy_id_e h5 i hi
    unfold sy_ρ
    rw [this]
    exact sy_x_e ρ i
  · have h9 := List.all_eq_true.mp h7 p hp
    split at h9
    · rename_i a b ha hb
      have e2 := sy_eqA_e (τ := τ) h h9
      rw [sy_sbA_e hb] at e2
      rw [← e2]
      exact hl _ (px_look_mem ha)
    · cases h9
  · split at h8
    · rename_i e he
      rw [Bool.and_eq_true] at h8
      have a1 := sy_pos_e h hc h8.1
      have a2 := sy_pos_e h hc h8.2
      rw [sy_add_e, sy_sub_e, sy_c_e] at a2
      rw [sy_sb_e he] at a1 a2
      exact ⟨a1, by omega⟩
    · cases h8

end
