noncomputable section
/-! A CHECK OF A CONTRACT, BY PROGRAM -/
/-- which symbol stands for what: a guess, that is checked afterwards -/
def sy_un1 (σ : List (Nat × sy_L)) (pat act : sy_L) : List (Nat × sy_L) :=
  let kn := pat.2.foldl (fun (acc : sy_L × List (Nat × Int)) t => match px_look σ t.1 with
    | some e => (sy_add acc.1 (sy_scl t.2 e), acc.2)
    | none => (acc.1, t :: acc.2)) ((pat.1, []), [])
  match kn.2 with
  | [(i, c)] =>
    let z := sy_sub act kn.1
    cond (qi_eq c 1) ((i, z) :: σ) (if c ≠ 0 ∧ z.1 % c = 0 ∧ z.2.all (fun t => decide (t.2 % c = 0)) = true then (i, (z.1 / c, z.2.map (fun t => (t.1, t.2 / c)))) :: σ else σ)
  | _ => σ
abbrev sy_Un : Type := List (Nat × sy_L) × List (Nat × Nat)
def sy_unA (u : sy_Un) (pat act : sy_A) : sy_Un := match pat, act with
  | .inl p, .inl a => (sy_un1 u.1 p a, u.2)
  | .inr (.inr s), .inr (.inr t) => if (px_look u.2 s).isSome = true then u else (u.1, (s, t) :: u.2)
  | _, _ => u
def sy_sbq (σ : List (Nat × sy_L)) : List (Nat × Int) → Option sy_L
  | [] => some (0, [])
  | t :: r => match px_look σ t.1, sy_sbq σ r with
    | some e, some z => some (sy_add (sy_scl t.2 e) z)
    | _, _ => none
def sy_unF (R : sy_T) (F : List sy_Fa) (u : sy_Un) (f : sy_Fa) : sy_Un := match sy_sbq u.1 f.2.1.2 with
  | some z => (match F.find? (fun g => g.1 == f.1 && sy_eq R g.2.1 (f.2.1.1 + z.1, z.2)) with
    | some g => sy_unA u f.2.2 g.2.2
    | none => u)
  | none => u
def sy_unP : sy_Un → List sy_A → List sy_A → sy_Un
  | u, p :: ps, a :: as => sy_unP (sy_unA u p a) ps as
  | u, _, _ => u
def sy_unL (lv : List (Nat × sy_A)) : sy_Un → List (Nat × sy_A) → sy_Un
  | u, [] => u
  | u, p :: ps => sy_unL lv (match px_look lv p.1 with
    | some a => sy_unA u p.2 a
    | none => u) ps
def sy_fσ (T : sy_T) (u : sy_Un) : List sy_L := (List.range T.length).map (fun i => (px_look u.1 i).getD (sy_c (T.getD i (0, 0)).1))
def sy_fσL (n : Nat) (u : sy_Un) : List Nat := (List.range n).map (fun i => (px_look u.2 i).getD 0)
def sy_mapO {α β : Type} (f : α → Option β) : List α → Option (List β)
  | [] => some []
  | a :: r => match f a, sy_mapO f r with
    | some b, some l => some (b :: l)
    | _, _ => none
theorem sy_mapO_ok {α β : Type} {f : α → Option β} : ∀ {l : List α} {m : List β}, sy_mapO f l = some m → ∀ a ∈ l, ∃ b ∈ m, f a = some b
  | [], _, _, a, ha => absurd ha List.not_mem_nil
  | a0 :: r, m, h, a, ha => by
    unfold sy_mapO at h
    split at h
    · rename_i b l hb hl
      cases h
      rcases List.mem_cons.mp ha with rfl | ha
      · exact ⟨b, List.mem_cons_self, hb⟩
      · obtain ⟨b2, h2, h3⟩ := sy_mapO_ok hl a ha
        exact ⟨b2, List.mem_cons_of_mem _ h2, h3⟩
    · cases h
section CK
variable {x : sy_X} {q : sy_Q} {S : sy_S} {M : px_M} {i : Instr} {len : Nat} {l : List sy_S}
def sy_tryC (P : List px_M) (Wr : sy_Wr) (D : Nat) (S : sy_S) (z : Nat × List sy_A × List sy_A) (σ : List sy_L) (σL : List Nat) (C : sy_Co) : Option (List sy_S) := match P[z.1]? with
  | some M' => if z.1 = C.1 ∧ sy_len z.2.1 ≤ M'.1.2.2.1 ∧ S.2.2.length + 1 + C.2.2.2.2.1 ≤ D ∧ sy_eqs S.1.1 σ σL z.2.1 C.2.2.1 = true ∧ sy_fitG S.1 σ σL C.2.1 = true ∧ sy_wS S = true ∧ σ.length = C.2.1.1.length ∧ σ.all (sy_wl S.1.1.length) = true ∧ sy_wsub C.2.2.2.1 Wr = true ∧ sy_jc C.2.2.2.1 Wr = true ∧ z.2.2.all (sy_wa S.1.1.length S.1.2.1) = true ∧ C.2.2.2.2.2.all (fun p => decide (C.2.1.1.length ≤ p.1.1.length)) = true then sy_mapO (sy_aft S C σ z.2.2) C.2.2.2.2.2 else none
  | none => none
theorem sy_tryC_ok {D : Nat} {z : Nat × List sy_A × List sy_A} {σ : List sy_L} {σL : List Nat} {C : sy_Co} (hC : sy_Met x.1 x.2.1 x.2.2.1 q.2.1 x.2.2.2.2.1 C) (hD : D ≤ x.2.2.2.2.2.2) (hM : q.1[S.2.1.1]? = some M) (hq : px_look M.2.1 S.2.1.2.1 = some (i, len)) (hz : sy_cl x.1 q.2.1 x.2.2.1 i len M.2.2 S.2.1.2.2.2 = some z) (h : sy_tryC x.2.2.1 q.2.2.1 D S z σ σL C = some l) : sy_S1 x q S l := by
  intro hG
  unfold sy_tryC at h
  split at h
  · rename_i M' hM'
    split at h
    · rename_i hc
      obtain ⟨c1, c2, c3, c4, c5, c6, c7, c8, c9, c9j, c10, c11⟩ := hc
      refine sy_goMet hC c6 hM hq hz c1 hM' c2 (by omega) c5 c7 c8 c4 c9 c9j c10 (fun p hp => ?_)
      obtain ⟨S', hS', he⟩ := sy_mapO_ok h p hp
      exact ⟨of_decide_eq_true (List.all_eq_true.mp c11 p hp), S', he, hG S' hS'⟩
    · cases h
  · cases h
def sy_uM (P : List px_M) (Wr : sy_Wr) (D : Nat) (S : sy_S) (z : Nat × List sy_A × List sy_A) : List sy_Co → Option (List sy_S)
  | [] => none
  | C :: r => px_or (if z.1 = C.1 then
      let u := C.2.1.2.2.2.foldl (sy_unF S.1.1 S.1.2.2.2) (sy_unP ([], []) C.2.2.1 z.2.1)
      sy_tryC P Wr D S z (sy_fσ C.2.1.1 u) (sy_fσL C.2.1.2.1 u) C else none) (sy_uM P Wr D S z r)
theorem sy_uM_ok {D : Nat} {z : Nat × List sy_A × List sy_A} (hD : D ≤ x.2.2.2.2.2.2) (hM : q.1[S.2.1.1]? = some M) (hq : px_look M.2.1 S.2.1.2.1 = some (i, len)) (hz : sy_cl x.1 q.2.1 x.2.2.1 i len M.2.2 S.2.1.2.2.2 = some z) : ∀ Cs : List sy_Co, (∀ C ∈ Cs, sy_Met x.1 x.2.1 x.2.2.1 q.2.1 x.2.2.2.2.1 C) → sy_uM x.2.2.1 q.2.2.1 D S z Cs = some l → sy_S1 x q S l
  | [], _, h => by cases h
  | C :: r, hC, h => by
    unfold sy_uM at h
    rcases px_or_some h with h | h
    · split at h
      · exact sy_tryC_ok (hC C List.mem_cons_self) hD hM hq hz h
      · cases h
    · exact sy_uM_ok hD hM hq hz r (fun C' h' => hC C' (List.mem_cons_of_mem _ h')) h
/-- one step of any sort -/
def sy_suc (cl : List vw_C) (lt : List (List Int32)) (P : List px_M) (A : List sy_Ce) (Wr : sy_Wr) (Cs : List sy_Co) (D : Nat) (S : sy_S) : Option (List sy_S) := match P[S.2.1.1]? with
  | none => none
  | some M => (match px_look M.2.1 S.2.1.2.1 with
    | none => none
    | some (i, len) => px_or (sy_pre A Wr M i S) (px_or (sy_uN A i len S) (px_or (sy_u1 M i len S) (px_or (sy_uB i len S) (px_or (sy_uR A M i len S) (px_or (sy_uW cl A Wr M i len S) (px_or (sy_uK lt A M i len S) (px_or (sy_uA i len S) (px_or (sy_uV M i len S) (px_or (sy_uX D M i len S) (px_or (sy_uL lt A Wr M i len S) (px_or (sy_uY A Wr D M i len S) (match sy_cl cl A P i len M.2.2 S.2.1.2.2.2 with
      | some z => if Cs.any (fun C => C.1 == z.1) = true then sy_uM P Wr D S z Cs else sy_uC cl P A D M i len S
      | none => none)))))))))))))
theorem sy_suc_ok {D : Nat} {Cs : List sy_Co} (hCs : ∀ C ∈ Cs, sy_Met x.1 x.2.1 x.2.2.1 q.2.1 x.2.2.2.2.1 C) (hD : D ≤ x.2.2.2.2.2.2) (hP : q.1 = x.2.2.1) (h : sy_suc x.1 x.2.1 x.2.2.1 q.2.1 q.2.2.1 Cs D S = some l) : sy_S1 x q S l := by
  unfold sy_suc at h
  split at h
  · cases h
  · rename_i M hM
    rw [← hP] at hM
    split at h
    · cases h
    · rename_i i len hq
      rcases px_or_some h with h | h
      · exact sy_pre_ok h
      rcases px_or_some h with h | h
      · exact sy_uN_ok hM hq h
      rcases px_or_some h with h | h
      · exact sy_u1_ok hM hq h
      rcases px_or_some h with h | h
      · exact sy_uB_ok hM hq h
      rcases px_or_some h with h | h
      · exact sy_uR_ok hM hq h
      rcases px_or_some h with h | h
      · exact sy_uW_ok hM hq h
      rcases px_or_some h with h | h
      · exact sy_uK_ok hM hq h
      rcases px_or_some h with h | h
      · exact sy_uA_ok hM hq h
      rcases px_or_some h with h | h
      · exact sy_uV_ok hM hq h
      rcases px_or_some h with h | h
      · exact sy_uX_ok hD hM hq h
      rcases px_or_some h with h | h
      · exact sy_uL_ok hM hq h
      rcases px_or_some h with h | h
      · exact sy_uY_ok hD hM hq h
      split at h
      · rename_i z hz
        split at h
        · exact sy_uM_ok hD hM hq hz Cs hCs h
        · exact sy_uC_ok hD hP hM hq h
      · cases h
/-- a state that fits one of the cuts, or ends by one of the ends -/
def sy_idσ (N0 : Nat) : List (Nat × sy_L) := (List.range N0).map (fun i => (i, sy_x i))
/-- symbols of a cut of which nothing is known: the symbols of the same number, or one of them 1 -/
def sy_unk (T : sy_T) (u : sy_Un) : List Nat := (List.range T.length).filter (fun i => (px_look u.1 i).isNone)
def sy_σ1 (l : List Nat) (σ : List sy_L) : List sy_L := l.foldl (fun σ i => σ.set i (sy_x i)) σ
def sy_atC (N0 : Nat) (m : sy_L) (S : sy_S) (c : sy_Cut) : Bool := decide (S.2.1.2.1 = c.1) && (let u := c.2.1.2.2.2.foldl (sy_unF S.1.1 S.1.2.2.2) (sy_unL S.2.1.2.2.1 (sy_idσ N0, []) c.2.2.1)
  sy_fitC N0 S c (sy_fσ c.2.1.1 u) (sy_fσL c.2.1.2.1 u) m || (match sy_unk c.2.1.1 u with
    | [] => false
    | i :: r => sy_fitC N0 S c (sy_σ1 (i :: r) (sy_fσ c.2.1.1 u)) (sy_fσL c.2.1.2.1 u) m || (i :: r).any (fun j => sy_fitC N0 S c ((sy_σ1 (i :: r) (sy_fσ c.2.1.1 u)).set j (sy_c 1)) (sy_fσL c.2.1.2.1 u) m)))
def sy_atP (N0 : Nat) (g : sy_G) (v : Option sy_A) (p : sy_Po) : Bool := let u := p.1.2.2.2.foldl (sy_unF g.1 g.2.2.2) (match v, p.2 with
    | some a, some b => sy_unA (sy_idσ N0, []) b a
    | _, _ => (sy_idσ N0, []))
  sy_fitP N0 g v (sy_fσ p.1.1 u) (sy_fσL p.1.2.1 u) p
/-- a form beyond the ints -/
def sy_uf (R : sy_T) (v : Option sy_A) : Bool := match v with
  | some (.inl e) => (match sy_b R e with
    | some b => !sy_fit b
    | none => false)
  | _ => false
/-- none: go on; true: fits -/
def sy_halt (P : List px_M) (C : sy_Co) (cuts : List sy_Cut) (m : sy_L) (S : sy_S) : Option Bool := match S.2.2 with
  | _ :: _ => none
  | [] => if S.2.1.2.2.2 = [] ∧ cuts.any (fun c => c.1 == S.2.1.2.1) = true ∧ S.2.1.1 = C.1 then some (cuts.any (sy_atC C.2.1.1.length m S)) else (match P[S.2.1.1]? with
    | some M => (match px_look M.2.1 S.2.1.2.1 with
      | some (i, len) => (match sy_rt S.1.1 i len M.1.2.2.2.1 S.2.1.2.2.2 with
        | some v => if sy_uf S.1.1 v = true then none else some (C.2.2.2.2.2.any (sy_atP C.2.1.1.length S.1 v))
        | none => none)
      | none => none)
    | none => none)
theorem sy_halt_ok {cuts : List sy_Cut} {C : sy_Co} {ρ0 : Nat → Int} {m : sy_L} (hMC : x.2.2.1[C.1]? = some M) (hI : sy_I x q.2.1 q.2.2.1 q.2.2.2.1 ρ0 C.2.1.1.length M cuts (sy_e q.2.2.2.2.1 m)) (hN : C.2.1.1.length ≤ q.2.2.2.2.2 ∧ ∀ i, i < C.2.1.1.length → q.2.2.2.2.1 i = ρ0 i) (hmw : sy_wl q.2.2.2.2.2 m = true) (hP : q.1 = x.2.2.1) (hK : x.2.2.2.2.2.1 = sy_K q.2.1 C q.2.2.2.1 ρ0) (hWr : q.2.2.1 = C.2.2.2.1) (h : sy_halt x.2.2.1 C cuts m S = some true) : sy_Good x q S := by
  unfold sy_halt at h
  split at h
  · cases h
  · rename_i hfs
    split at h
    · rename_i hc
      obtain ⟨c, hcc, h1⟩ := List.any_eq_true.mp (Option.some.inj h)
      unfold sy_atC at h1
      rw [Bool.and_eq_true] at h1
      have hgo : ∀ (σ : List sy_L) (σL : List Nat), sy_fitC C.2.1.1.length S c σ σL m = true → sy_Good x q S := fun σ σL h2 => sy_goCut hI hN hmw (by rw [hP, hc.2.2]; exact hMC) hcc h2
      obtain ⟨-, h2⟩ := h1
      rw [Bool.or_eq_true] at h2
      rcases h2 with h2 | h2
      · exact hgo _ _ h2
      · split at h2
        · cases h2
        · rw [Bool.or_eq_true] at h2
          rcases h2 with h2 | h2
          · exact hgo _ _ h2
          · obtain ⟨j, -, h3⟩ := List.any_eq_true.mp h2
            exact hgo _ _ h3
    · split at h
      · rename_i M2 hM2
        split at h
        · rename_i i len hq
          split at h
          · rename_i v hv
            split at h
            · cases h
            · obtain ⟨p, hp, h1⟩ := List.any_eq_true.mp (Option.some.inj h)
              exact sy_goPost hK hWr hN (by rw [hP]; exact hM2) hq hv hfs hp h1
          · cases h
        · cases h
      · cases h
/-- all states of a list, with fuel -/
def sy_all (cl : List vw_C) (lt : List (List Int32)) (P : List px_M) (A : List sy_Ce) (Cs : List sy_Co) (C : sy_Co) (cuts : List sy_Cut) (m : sy_L) : Nat → List sy_S → Bool
  | 0, _ => false
  | _ + 1, [] => true
  | n + 1, S :: r => match sy_halt P C cuts m S with
    | some b => b && sy_all cl lt P A Cs C cuts m n r
    | none => (match sy_suc cl lt P A C.2.2.2.1 Cs C.2.2.2.2.1 S with
      | some l => sy_all cl lt P A Cs C cuts m n (l ++ r)
      | none => false)
theorem sy_all_ok {cuts : List sy_Cut} {Cs : List sy_Co} {C : sy_Co} {ρ0 : Nat → Int} {m : sy_L} (hCs : ∀ C ∈ Cs, sy_Met x.1 x.2.1 x.2.2.1 q.2.1 x.2.2.2.2.1 C) (hD : C.2.2.2.2.1 ≤ x.2.2.2.2.2.2) (hMC : x.2.2.1[C.1]? = some M) (hI : sy_I x q.2.1 q.2.2.1 q.2.2.2.1 ρ0 C.2.1.1.length M cuts (sy_e q.2.2.2.2.1 m)) (hN : C.2.1.1.length ≤ q.2.2.2.2.2 ∧ ∀ i, i < C.2.1.1.length → q.2.2.2.2.1 i = ρ0 i) (hmw : sy_wl q.2.2.2.2.2 m = true) (hP : q.1 = x.2.2.1) (hK : x.2.2.2.2.2.1 = sy_K q.2.1 C q.2.2.2.1 ρ0) (hWr : q.2.2.1 = C.2.2.2.1) : ∀ (n : Nat) (l : List sy_S), sy_all x.1 x.2.1 x.2.2.1 q.2.1 Cs C cuts m n l = true → ∀ S ∈ l, sy_Good x q S
  | 0, l, h => by cases h
  | n + 1, [], _ => fun S hS => absurd hS List.not_mem_nil
  | n + 1, S0 :: r, h => by
    unfold sy_all at h
    intro S hS
    split at h
    · rename_i b hb
      rw [Bool.and_eq_true] at h
      rw [h.1] at hb
      rcases List.mem_cons.mp hS with rfl | hS
      · exact sy_halt_ok hMC hI hN hmw hP hK hWr hb
      · exact sy_all_ok hCs hD hMC hI hN hmw hP hK hWr n r h.2 S hS
    · split at h
      · rename_i l0 hl
        have ih := sy_all_ok hCs hD hMC hI hN hmw hP hK hWr n (l0 ++ r) h
        rcases List.mem_cons.mp hS with rfl | hS
        · rw [← hWr] at hl
          exact sy_suc_ok hCs hD hP hl (fun S' h' => ih S' (List.mem_append_left _ h'))
        · exact ih S (List.mem_append_right _ hS)
      · cases h
end CK
/-- a cut is checked: its first step, and all that comes of it -/
def sy_ckC (cl : List vw_C) (lt : List (List Int32)) (P : List px_M) (A : List sy_Ce) (Cs : List sy_Co) (C : sy_Co) (cuts : List sy_Cut) (n : Nat) (c : sy_Cut) : Bool := sy_wl c.2.1.1.length c.2.2.2 && (match sy_suc cl lt P A C.2.2.2.1 Cs C.2.2.2.2.1 (sy_cS C.1 c) with
  | some l => sy_all cl lt P A Cs C cuts c.2.2.2 n l
  | none => false)
/-- a contract holds, if its cuts are checked -/
theorem sy_met2 {cl : List vw_C} {lt : List (List Int32)} {P : List px_M} {A : List sy_Ce} {b : Nat × Nat} {Cs : List sy_Co} {C : sy_Co} {cuts : List sy_Cut} {m0 : sy_L} (n : Nat) (hCs : ∀ C ∈ Cs, sy_Met cl lt P A b C) (h0 : cuts.head? = some (0, C.2.1, sy_args 0 C.2.2.1, m0)) (hm0 : sy_pos C.2.1.1 C.2.1.2.2.1 m0 = true) (hc : cuts.all (sy_ckC cl lt P A Cs C cuts n) = true) : sy_Met cl lt P A b C := by
  refine sy_met (PM := P) (cuts := cuts) (fun _ _ h => h) (List.mem_of_mem_head? h0) hm0 (fun c hcc M hM d w0 ρ0 ρs hd hr hI => ?_)
  have h1 := List.all_eq_true.mp hc c hcc
  unfold sy_ckC at h1
  rw [Bool.and_eq_true] at h1
  obtain ⟨h2, h3⟩ := h1
  split at h3
  · rename_i l hl
    have ih := sy_all_ok (x := (cl, lt, P, none, b, sy_K A C w0 ρ0, d)) (q := (P, A, C.2.2.2.1, w0, ρs, c.2.1.1.length)) (ρ0 := ρ0) hCs hd hM hI hr h2 rfl rfl rfl n l h3
    exact sy_suc_ok (x := (cl, lt, P, none, b, sy_K A C w0 ρ0, d)) (q := (P, A, C.2.2.2.1, w0, ρs, c.2.1.1.length)) hCs hd rfl hl ih
  · cases h3

end
