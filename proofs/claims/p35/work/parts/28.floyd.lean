noncomputable section
/-! CONTRACTS, BY CUTS AND A MEASURE -/
abbrev sy_Po : Type := sy_G × Option sy_A
/-- a contract: method, what holds at its start, its arguments, what it may write, its depth, its ends -/
abbrev sy_Co : Type := Nat × sy_G × List sy_A × sy_Wr × Nat × List sy_Po
/-- an end of a contract -/
def sy_K (A : List sy_Ce) (C : sy_Co) (w0 : px_W) (ρ0 : Nat → Int) (v : Option Value) (w' : px_W) : Prop := sy_W A w' ∧ sy_fr C.2.2.2.1 w0 w' ∧ ∃ p ∈ C.2.2.2.2.2, ∃ (ρ' : Nat → Int) (τ' : Nat → Int64), (∀ i, i < C.2.1.1.length → ρ' i = ρ0 i) ∧ sy_ok ρ' p.1.1 ∧ sy_cok ρ' p.1.2.2.1 ∧ sy_fok ρ' τ' w' p.1.2.2.2 ∧ v = p.2.map (sy_v ρ' τ')
def sy_Met (cl : List vw_C) (lt : List (List Int32)) (P : List px_M) (A : List sy_Ce) (b : Nat × Nat) (C : sy_Co) : Prop := ∀ (M : px_M), P[C.1]? = some M → ∀ (ρ : Nat → Int) (τ : Nat → Int64) (w : px_W) (d : Nat), sy_ok ρ C.2.1.1 → sy_cok ρ C.2.1.2.2.1 → sy_fok ρ τ w C.2.1.2.2.2 → sy_W A w → sy_fj C.2.2.2.1 w → C.2.2.2.2.1 ≤ d → ∃ (n : Nat) (v : Option Value) (w' : px_W), px_exec cl lt P n d none M 0 (lv_args 0 (C.2.2.1.map (sy_v ρ τ))) [] w b = some (v, w', b) ∧ sy_K A C w ρ v w'
/-- whoever stands at a cut with a measure below m comes to an end -/
def sy_I (x : sy_X) (A : List sy_Ce) (Wr : sy_Wr) (w0 : px_W) (ρ0 : Nat → Int) (N0 : Nat) (M : px_M) (cuts : List sy_Cut) (m : Int) : Prop := ∀ c ∈ cuts, ∀ (ρ : Nat → Int) (τ : Nat → Int64) (w : px_W) (lc : List (Nat × Value)), (N0 ≤ c.2.1.1.length ∧ ∀ i, i < N0 → ρ i = ρ0 i) → sy_ok ρ c.2.1.1 → sy_cok ρ c.2.1.2.2.1 → sy_fok ρ τ w c.2.1.2.2.2 → sy_W A w → sy_fr Wr w0 w → sy_lvok ρ τ c.2.2.1 lc → 0 ≤ sy_e ρ c.2.2.2 → sy_e ρ c.2.2.2 < m → pf_Fin x.1 x.2.1 x.2.2.1 x.2.2.2.1 x.2.2.2.2.1 x.2.2.2.2.2.1 [] x.2.2.2.2.2.2 M c.1 lc [] w
def sy_cS (j : Nat) (c : sy_Cut) : sy_S := (c.2.1, (j, c.1, c.2.2.1, []), [])
theorem sy_floyd {x : sy_X} {PM : List px_M} {A : List sy_Ce} {Wr : sy_Wr} {w0 : px_W} {ρ0 : Nat → Int} {N0 j : Nat} {M : px_M} {cuts : List sy_Cut} (hM : PM[j]? = some M)
    (hc : ∀ c ∈ cuts, ∀ ρs : Nat → Int, (N0 ≤ c.2.1.1.length ∧ ∀ i, i < N0 → ρs i = ρ0 i) → sy_I x A Wr w0 ρ0 N0 M cuts (sy_e ρs c.2.2.2) → sy_Good x (PM, A, Wr, w0, ρs, c.2.1.1.length) (sy_cS j c)) : ∀ n : Nat, sy_I x A Wr w0 ρ0 N0 M cuts (n : Int) := by
  intro n
  induction n with
  | zero =>
    intro c _ ρ τ w lc _ _ _ _ _ _ _ h1 h2
    omega
  | succ n ih =>
    intro c hcc ρ τ w lc hr h1 h2 h3 h4 h5 h6 h7 h8
    have hI : sy_I x A Wr w0 ρ0 N0 M cuts (sy_e ρ c.2.2.2) := by
      intro c2 hc2 ρ2 τ2 w2 lc2 r2 a1 a2 a3 a4 a5 a6 a7 a8
      exact ih c2 hc2 ρ2 τ2 w2 lc2 r2 a1 a2 a3 a4 a5 a6 a7 (by omega)
    exact hc c hcc ρ hr hI ρ τ w (M, c.1, lc, []) [] x.2.2.2.2.2.2 ⟨⟨⟨Nat.le_refl _, fun _ _ => rfl⟩, h1, h2, h3, h4, h5⟩, ⟨hM, rfl, h6, rfl⟩, trivial⟩ (by simp)
section FL
variable {x : sy_X} {q : sy_Q} {S : sy_S} {M : px_M}
theorem sy_goCut {cuts : List sy_Cut} {ρ0 : Nat → Int} {N0 : Nat} {c : sy_Cut} {σ : List sy_L} {σL : List Nat} {m : sy_L} (hI : sy_I x q.2.1 q.2.2.1 q.2.2.2.1 ρ0 N0 M cuts (sy_e q.2.2.2.2.1 m)) (hN : N0 ≤ q.2.2.2.2.2 ∧ ∀ i, i < N0 → q.2.2.2.2.1 i = ρ0 i) (hmw : sy_wl q.2.2.2.2.2 m = true) (hM : q.1[S.2.1.1]? = some M) (hc : c ∈ cuts) (hfit : sy_fitC N0 S c σ σL m = true) : sy_Good x q S := by
  refine sy_open (fun ρ τ w lc cf d hm hl hf hd => ?_) hM
  obtain ⟨⟨m1, m1'⟩, m2, m3, m4, m5, m6⟩ := hm
  obtain ⟨⟨f1, f2, f3, f4⟩, g1, g2, g3, g4, g5, g6, g7⟩ := sy_fitC_ok hfit m2 m3 m4 hl
  rw [f1] at hf
  cases cf with
  | cons c2 cf => exact hf.elim
  | nil =>
    have em : sy_e ρ m = sy_e q.2.2.2.2.1 m := sy_ext_l m1' hmw
    rw [em] at g7
    have h0 := hI c hc (sy_ρ ρ σ) (sy_τ τ σL) w lc ⟨f4, fun i hi => by rw [g1 i hi, m1' i (by omega)]; exact hN.2 i hi⟩ g2 g3 g4 m5 m6 g5 g6 g7
    rw [f2, f3]
    have hd' : d = x.2.2.2.2.2.2 := by simpa using hd
    rw [hd']
    exact h0
/-- a return ends a contract -/
def sy_fitP (N0 : Nat) (g : sy_G) (v : Option sy_A) (σ : List sy_L) (σL : List Nat) (p : sy_Po) : Bool := qy_id N0 σ && (sy_fitG g σ σL p.1 && (match v, p.2 with
  | none, none => true
  | some a, some c => (match sy_sbA σ σL c with
    | some b => sy_eqA g.1 a b
    | none => false)
  | _, _ => false))
theorem sy_goPost {i : Instr} {len : Nat} {v : Option sy_A} {C : sy_Co} {ρ0 : Nat → Int} {σ : List sy_L} {σL : List Nat} {p : sy_Po} (hK : x.2.2.2.2.2.1 = sy_K q.2.1 C q.2.2.2.1 ρ0) (hWr : q.2.2.1 = C.2.2.2.1) (hN : C.2.1.1.length ≤ q.2.2.2.2.2 ∧ ∀ i, i < C.2.1.1.length → q.2.2.2.2.1 i = ρ0 i) (hM : q.1[S.2.1.1]? = some M) (hq : px_look M.2.1 S.2.1.2.1 = some (i, len)) (hv : sy_rt S.1.1 i len M.1.2.2.2.1 S.2.1.2.2.2 = some v) (hfs : S.2.2 = []) (hp : p ∈ C.2.2.2.2.2) (hfit : sy_fitP C.2.1.1.length S.1 v σ σL p = true) : sy_Good x q S := by
  refine sy_goEnd hM hq hv hfs (fun ρ τ w hm => ?_)
  obtain ⟨⟨m1, m1'⟩, m2, m3, m4, m5, m6⟩ := hm
  unfold sy_fitP at hfit
  simp only [Bool.and_eq_true] at hfit
  obtain ⟨h1, h2, h3⟩ := hfit
  obtain ⟨g1, g2, g3⟩ := sy_fitG_ok m2 m3 m4 h2
  rw [hK]
  refine ⟨m5, by rw [← hWr]; exact m6, p, hp, sy_ρ ρ σ, sy_τ τ σL, fun i hi => ?_, g1, g2, g3, ?_⟩
  · have := qy_id_e h1 i hi
    have e : sy_ρ ρ σ i = ρ i := by
      unfold sy_ρ
      rw [this]
      exact sy_x_e ρ i
    rw [e, m1' i (by omega)]
    exact hN.2 i hi
  · split at h3
    · rename_i hp2
      rw [hp2]
      rfl
    · rename_i a c hp2
      rw [hp2]
      split at h3
      · rename_i b hb
        show some (sy_v ρ τ a) = some (sy_v (sy_ρ ρ σ) (sy_τ τ σL) c)
        rw [sy_eqA_e (τ := τ) m2 h3, sy_sbA_e hb]
      · cases h3
    · cases h3
end FL
/-- a contract, out of its cuts: the first is its start -/
theorem sy_met {cl : List vw_C} {lt : List (List Int32)} {P PM : List px_M} {A : List sy_Ce} {b : Nat × Nat} {C : sy_Co} {cuts : List sy_Cut} {m0 : sy_L} (hPM : ∀ (j : Nat) (M : px_M), P[j]? = some M → PM[j]? = some M) (h0 : (0, C.2.1, sy_args 0 C.2.2.1, m0) ∈ cuts) (hm0 : sy_pos C.2.1.1 C.2.1.2.2.1 m0 = true)
    (hc : ∀ c ∈ cuts, ∀ (M : px_M), P[C.1]? = some M → ∀ (d : Nat) (w0 : px_W) (ρ0 ρs : Nat → Int), C.2.2.2.2.1 ≤ d → (C.2.1.1.length ≤ c.2.1.1.length ∧ ∀ i, i < C.2.1.1.length → ρs i = ρ0 i) → sy_I (cl, lt, P, none, b, sy_K A C w0 ρ0, d) A C.2.2.2.1 w0 ρ0 C.2.1.1.length M cuts (sy_e ρs c.2.2.2) → sy_Good (cl, lt, P, none, b, sy_K A C w0 ρ0, d) (PM, A, C.2.2.2.1, w0, ρs, c.2.1.1.length) (sy_cS C.1 c)) : sy_Met cl lt P A b C := by
  intro M hM ρ τ w d h1 h2 h3 h4 h4j h5
  have hfl := sy_floyd (x := (cl, lt, P, none, b, sy_K A C w ρ, d)) (A := A) (Wr := C.2.2.2.1) (w0 := w) (ρ0 := ρ) (N0 := C.2.1.1.length) (cuts := cuts) (hPM _ _ hM) (fun c hcc ρs hr hI => hc c hcc M hM d w ρ ρs h5 hr hI)
  have hpos := sy_pos_e h1 h2 hm0
  have hfin := hfl ((sy_e ρ m0).toNat + 1) _ h0 ρ τ w (lv_args 0 (C.2.2.1.map (sy_v ρ τ))) ⟨Nat.le_refl _, fun _ _ => rfl⟩ h1 h2 h3 h4 ⟨fun _ _ _ => rfl, h4j⟩ (sy_args_ok _) hpos (by show sy_e ρ m0 < _; omega)
  exact hfin

end
