noncomputable section
/-! THE LAW OVER TWO METHODS THAT ANSWER ALIKE -/
section QS
variable {x : sy_X} {q : sy_Q} {S : sy_S} {M : px_M} {i : Instr} {len : Nat} {l : List sy_S}
/-- all that comes of some states of the law, up to those that halt -/
def sy_colT (cl : List vw_C) (lt : List (List Int32)) (P PM : List px_M) (G : Nat → Nat → Option (px_M × Instr × Nat)) (H : Nat → Option (px_M × Nat)) (An : Nat → Option sy_Ce) (A : List sy_Ce) (Wr : sy_Wr) (Cs : List sy_Co) (D : Nat) (zs : List (Nat × Nat × Nat)) (hp : sy_S → Bool) : Nat → List sy_St → Option (List sy_St)
  | 0, _ => none
  | _ + 1, [] => some []
  | n + 1, z :: r => cond (hp z.2.2) (match sy_colT cl lt P PM G H An A Wr Cs D zs hp n r with
    | some t => some (z :: t)
    | none => none) (match sy_sucT cl lt P PM G H An A Wr Cs D zs z with
    | some l => sy_colT cl lt P PM G H An A Wr Cs D zs hp n (l ++ r)
    | none => none)
theorem sy_colT_ok {q : sy_Q4} {G : Nat → Nat → Option (px_M × Instr × Nat)} {H : Nat → Option (px_M × Nat)} {An : Nat → Option sy_Ce} {D : Nat} {Cs : List sy_Co} {xs : List Int32} {ρc : Nat → Int} {Nc : Nat} {zs : List (Nat × Nat × Nat)} {hp : sy_S → Bool} (hGo : px_Gok q.1 G) (hH : px_Hok x.1 x.2.2.1 H) (hA : An = fun k => q.2.1[k]?) (hcl : ∀ (k : Nat) (o : Nat × List ((Int × Int) ⊕ Nat)), q.2.1[k]? = some (.inr (.inr o)) → o.1 < x.1.length) (hP : ∀ (j : Nat) (M : px_M), x.2.2.1[j]? = some M → q.1[j]? = some M) (hx : x.2.2.2.1 = some xs) (hlen : xs.length ≤ 3072) (hN1 : 1 ≤ Nc ∧ ρc 0 = xs.length) (hCs : ∀ C ∈ Cs, sy_Met x.1 x.2.1 x.2.2.1 q.2.1 x.2.2.2.2.1 C) (hD : D ≤ x.2.2.2.2.2.2) : ∀ (n : Nat) (l l' : List sy_St), sy_colT x.1 x.2.1 x.2.2.1 q.1 G H An q.2.1 q.2.2.1 Cs D zs hp n l = some l' → (∀ z ∈ l', sy_GT x q xs ρc Nc z) → ∀ z ∈ l, sy_GT x q xs ρc Nc z
  | 0, _, _, h, _ => by cases h
  | n + 1, [], _, _, _ => fun z hz => absurd hz List.not_mem_nil
  | n + 1, z0 :: r, l', h, hG => by
    unfold sy_colT at h
    cases hc : hp z0.2.2 with
    | true =>
      rw [hc, px_c1] at h
      split at h
      · rename_i t ht
        cases h
        have ih := sy_colT_ok hGo hH hA hcl hP hx hlen hN1 hCs hD n r t ht (fun z hz => hG z (List.mem_cons_of_mem _ hz))
        intro z hz
        rcases List.mem_cons.mp hz with rfl | hz
        · exact hG _ List.mem_cons_self
        · exact ih z hz
      · cases h
    | false =>
      rw [hc, px_c0] at h
      split at h
      · rename_i l0 hl
        have ih := sy_colT_ok hGo hH hA hcl hP hx hlen hN1 hCs hD n (l0 ++ r) l' h hG
        intro z hz
        rcases List.mem_cons.mp hz with rfl | hz
        · exact sy_sucT_ok hGo hH hA hcl hP hx hlen hN1 hCs hD hl (fun z' h' => ih z' (List.mem_append_left _ h'))
        · exact ih z (List.mem_append_right _ hz)
      · cases h
/-- which method is called here, and with what -/
def sy_at1 (G : Nat → Nat → Option (px_M × Instr × Nat)) (H : Nat → Option (px_M × Nat)) (An : Nat → Option sy_Ce) (S : sy_S) : Option (Nat × List sy_A × List sy_A) := match G S.2.1.1 S.2.1.2.1 with
  | some (M, i, len) => ty_cl An H i len M.2.2 S.2.1.2.2.2
  | none => none
def sy_isj (o : Option (Nat × List sy_A × List sy_A)) (j : Nat) : Bool := match o with
  | some y => Nat.beq y.1 j
  | none => false
def sy_nz (zs : List (Nat × Nat × Nat)) (G : Nat → Nat → Option (px_M × Instr × Nat)) (S : sy_S) : Bool := match G S.2.1.1 S.2.1.2.1 with
  | some (_, i, len) => (sy_zp zs i len S).isNone
  | none => false
def sy_hps (zs : List (Nat × Nat × Nat)) (G : Nat → Nat → Option (px_M × Instr × Nat)) (H : Nat → Option (px_M × Nat)) (An : Nat → Option sy_Ce) (j0 : Nat) (cuts : List sy_Cut) (j : Nat) (S : sy_S) : Bool := (sy_isj (sy_at1 G H An S) j && sy_nz zs G S) || (match S.2.2 with
  | _ :: _ => false
  | [] => (S.2.1.2.2.2.isEmpty && (Nat.beq S.2.1.1 j0 && cuts.any (fun c => Nat.beq c.1 S.2.1.2.1))) || (match G S.2.1.1 S.2.1.2.1 with
    | some (_, i, _) => Nat.beq (sy_tag i) 8
    | none => false))
/-- the state behind the first of the two calls: a number of a range -/
def sy_zA (z : sy_St) (y : Nat × List sy_A × List sy_A) (r : Int × Int) : sy_St := (z.1, z.2.2.1.1.length + 1, sy_at z.2.2 (sy_new z.2.2.1 r) (z.2.2.2.1.2.1 + 3) z.2.2.2.1.2.2.1 (.inl (sy_x z.2.2.1.1.length) :: y.2.2))
/-- the state behind the second call, by what both give -/
def sy_zB (z : sy_St) (y : Nat × List sy_A × List sy_A) (s : Nat) (e : sy_Pe) : Option sy_St := match e with
  | .inl r => (sy_asms z.2.2.1 [sy_sub (sy_x s) (sy_c r.1), sy_sub (sy_c r.2) (sy_x s)]).map (fun g => (z.1, z.2.1, sy_at z.2.2 g (z.2.2.2.1.2.1 + 3) z.2.2.2.1.2.2.1 (.inl (sy_x s) :: y.2.2)))
  | .inr c => (sy_asms z.2.2.1 [sy_sub (sy_x s) (sy_c c.1), sy_sub (sy_c c.1) (sy_x s)]).map (fun g => (z.1, z.2.1, sy_at z.2.2 g (z.2.2.2.1.2.1 + 3) z.2.2.2.1.2.2.1 (.inl (sy_c c.2) :: y.2.2)))
/-- the second call: the same arguments, as many frames as foretold, what it reads; what comes behind it is checked as ever -/
def sy_ckB (cl : List vw_C) (lt : List (List Int32)) (P PM : List px_M) (G : Nat → Nat → Option (px_M × Instr × Nat)) (H : Nat → Option (px_M × Nat)) (An : Nat → Option sy_Ce) (A : List sy_Ce) (Wr : sy_Wr) (Cs : List sy_Co) (D : Nat) (zs : List (Nat × Nat × Nat)) (j0 : Nat) (cuts : List sy_Cut) (c0 : sy_Cut) (m : sy_L) (n : Nat) (C : sy_P2) (fB : Nat) (σ : List sy_L) (σL : List Nat) (asB : List sy_A) (s : Nat) (z : sy_St) : Bool := sy_dead z.2.2.1 || (match sy_at1 G H An z.2.2 with
  | some y => (match H y.1 with
    | some M' => Nat.beq y.1 C.1.2 && (Nat.beq z.2.2.2.2.length fB && (decide (sy_len y.2.1 ≤ M'.1.1.2.2.1) && (decide (y.2.1.length = asB.length) && ((y.2.1.zip asB).all (fun p => sy_eqA z.2.2.1.1 p.1 p.2) && (sy_fitG z.2.2.1 σ σL (C.2.1.1, C.2.1.2.1, C.2.1.2.2.1, C.2.2.2.2.2.2) && C.2.2.2.2.2.1.all (fun e => match sy_zB z y s e with
      | some z4 => sy_allT cl lt P PM G H An A Wr Cs D zs j0 1 cuts c0 m n [z4]
      | none => true))))))
    | none => false)
  | none => false)
def sy_end1 (C : sy_Co) : Option (Int × Int) := match C.2.2.2.2.2 with
  | [p] => (match p.2 with
    | some (.inl f) => sy_b p.1.1 f
    | _ => none)
  | _ => none
def sy_isl (e : sy_Pe) : Bool := match e with
  | .inl r => sy_fit r
  | .inr c => sy_fit (c.1, c.1)
def sy_ckA2 (cl : List vw_C) (lt : List (List Int32)) (P PM : List px_M) (G : Nat → Nat → Option (px_M × Instr × Nat)) (H : Nat → Option (px_M × Nat)) (An : Nat → Option sy_Ce) (A : List sy_Ce) (Wr : sy_Wr) (Cs : List sy_Co) (D : Nat) (zs : List (Nat × Nat × Nat)) (j0 : Nat) (cuts : List sy_Cut) (c0 : sy_Cut) (m : sy_L) (n : Nat) (CA : sy_Co) (C : sy_P2) (fB : Nat) (z : sy_St) (y : Nat × List sy_A × List sy_A) (σC : List sy_L) (σLC : List Nat) (σ : List sy_L) (σL : List Nat) (asB : List sy_A) (r : Int × Int) : Bool := decide (z.2.2.2.2.length + 1 + CA.2.2.2.2.1 ≤ D) && (decide (z.2.2.2.2.length + 1 + C.2.2.2.2.1 ≤ D) && (decide (fB + 1 + C.2.2.2.2.1 ≤ D) && (sy_eqs z.2.2.1.1 σC σLC y.2.1 CA.2.2.1 && (sy_fitG z.2.2.1 σC σLC CA.2.1 && (sy_jc CA.2.2.2.1 Wr && (sy_eqs z.2.2.1.1 σ σL y.2.1 C.2.2.1.1 && (sy_fitG z.2.2.1 σ σL C.2.1 && (sy_jc C.2.2.2.1 Wr && (σ.all (sy_wl z.2.2.1.1.length) && (sy_wS z.2.2 && (y.2.2.all (sy_wa z.2.2.1.1.length z.2.2.1.2.1) && (C.2.2.1.2.all (sy_wa C.2.1.1.length 0) && (sy_wFs C.2.1.1.length C.2.2.2.2.2.2 && (C.2.2.2.2.2.1.all sy_isl && (sy_fit r && (match sy_colT cl lt P PM G H An A Wr Cs D zs (sy_hps zs G H An j0 cuts C.1.2) n [sy_zA z y r] with
  | some l => l.all (sy_ckB cl lt P PM G H An A Wr Cs D zs j0 cuts c0 m n C fB σ σL asB z.2.2.1.1.length)
  | none => false))))))))))))))))
def sy_ckA (cl : List vw_C) (lt : List (List Int32)) (P PM : List px_M) (G : Nat → Nat → Option (px_M × Instr × Nat)) (H : Nat → Option (px_M × Nat)) (An : Nat → Option sy_Ce) (A : List sy_Ce) (Wr : sy_Wr) (Cs : List sy_Co) (D : Nat) (zs : List (Nat × Nat × Nat)) (j0 : Nat) (cuts : List sy_Cut) (c0 : sy_Cut) (m : sy_L) (n : Nat) (CA : sy_Co) (C : sy_P2) (fB : Nat) (z : sy_St) : Bool := sy_dead z.2.2.1 || (match sy_at1 G H An z.2.2 with
  | some y => (match H y.1, H C.1.2, sy_end1 CA with
    | some M', some _, some r => (Nat.beq y.1 C.1.1 && (Nat.beq y.1 CA.1 && decide (sy_len y.2.1 ≤ M'.1.1.2.2.1))) && (
      let u := (C.2.1.2.2.2 ++ C.2.2.2.2.2.2).foldl (sy_unF z.2.2.1.1 z.2.2.1.2.2.2) (sy_unP ([], []) C.2.2.1.1 y.2.1)
      let v := CA.2.1.2.2.2.foldl (sy_unF z.2.2.1.1 z.2.2.1.2.2.2) (sy_unP ([], []) CA.2.2.1 y.2.1)
      match sy_mapO (sy_sbA (sy_fσ C.2.1.1 u) (sy_fσL C.2.1.2.1 u)) C.2.2.1.2 with
      | some asB => sy_ckA2 cl lt P PM G H An A Wr Cs D zs j0 cuts c0 m n CA C fB z y (sy_fσ CA.2.1.1 v) (sy_fσL CA.2.1.2.1 v) (sy_fσ C.2.1.1 u) (sy_fσL C.2.1.2.1 u) asB r
      | none => false)
    | _, _, _ => false)
  | none => false)
/-- a cut of the law with two such calls -/
def sy_ckQ (cl : List vw_C) (lt : List (List Int32)) (P PM : List px_M) (G : Nat → Nat → Option (px_M × Instr × Nat)) (H : Nat → Option (px_M × Nat)) (An : Nat → Option sy_Ce) (A : List sy_Ce) (Wr : sy_Wr) (Cs : List sy_Co) (D : Nat) (zs : List (Nat × Nat × Nat)) (j0 : Nat) (cuts : List sy_Cut) (n : Nat) (CA : sy_Co) (C : sy_P2) (fB : Nat) (c : sy_Cut) (rel : sy_Wr) : Bool := decide (1 ≤ c.2.1.1.length) && (sy_wl c.2.1.1.length c.2.2.2 && (match sy_sucT cl lt P PM G H An A Wr Cs D zs ([], c.2.1.1.length, sy_cS j0 (sy_cF rel c)) with
  | some l => (match sy_colT cl lt P PM G H An A Wr Cs D zs (sy_hps zs G H An j0 cuts C.1.1) n l with
    | some l1 => l1.all (fun z => cond (sy_isj (sy_at1 G H An z.2.2) C.1.1) (sy_ckA cl lt P PM G H An A Wr Cs D zs j0 cuts c c.2.2.2 n CA C fB z) (sy_allT cl lt P PM G H An A Wr Cs D zs j0 1 cuts c c.2.2.2 n [z]))
    | none => false)
  | none => false))
/-- one call by what is known of its run -/
theorem sy_goRun {y : Nat × List sy_A × List sy_A} {M' : px_M} {k : Nat} {a : Value} {ρ : Nat → Int} {τ : Nat → Int64} {w : px_W} {lc : List (Nat × Value)} {cf : List pf_F} {d : Nat} {vs : List Value} (hM : q.1[S.2.1.1]? = some M) (hq : px_look M.2.1 S.2.1.2.1 = some (i, len)) (hz : sy_cl x.1 q.2.1 x.2.2.1 i len M.2.2 S.2.1.2.2.2 = some y) (hM' : x.2.2.1[y.1]? = some M') (hlen : sy_len y.2.1 ≤ M'.1.2.2.1) (hb : x.2.2.2.2.1 = (0, 0)) (hW : sy_W q.2.1 w) (hargs : y.2.1.map (sy_v ρ τ) = vs) (hrun : px_exec x.1 x.2.1 x.2.2.1 k d none M' 0 (lv_args 0 vs) [] w (0, 0) = some (some a, w, (0, 0))) (hfin : pf_Fin x.1 x.2.1 x.2.2.1 x.2.2.2.1 x.2.2.2.2.1 x.2.2.2.2.2.1 cf (d + 1) M (S.2.1.2.1 + 3) lc (a :: y.2.2.map (sy_v ρ τ)) w) : pf_Fin x.1 x.2.1 x.2.2.1 x.2.2.2.1 x.2.2.2.2.1 x.2.2.2.2.2.1 cf (d + 1) M S.2.1.2.1 lc (S.2.1.2.2.2.map (sy_v ρ τ)) w := by
  obtain ⟨c0, c3, c6, c4⟩ := sy_cl_ok (ρ := ρ) (τ := τ) (d := d + 1) hW hz
  have hstep := px_step_4 (cl := x.1) (lt := x.2.1) (P := x.2.2.1) (d := d + 1) (scr := pf_scr x.2.2.2.1 cf) (lv := lc) hq c0 c3 c6 c4
  rw [← hargs, ← hb] at hrun
  exact pf_met hstep hM' (by rw [sy_len_ok]; exact hlen) hrun hfin
end QS
theorem sy_frl {ρ : Nat → Int} {τ : Nat → Int64} {PM : List px_M} : ∀ {fs : List sy_Fr} {cs : List pf_F}, sy_frs ρ τ PM fs cs → fs.length = cs.length
  | [], [], _ => rfl
  | [], _ :: _, h => h.elim
  | _ :: _, [], h => h.elim
  | f :: fs, c :: cs, h => by rw [List.length_cons, List.length_cons, sy_frl h.2]
theorem sy_zip_eq {ρ : Nat → Int} {τ : Nat → Int64} {R : sy_T} (h : sy_ok ρ R) : ∀ {as bs : List sy_A}, as.length = bs.length → (as.zip bs).all (fun p => sy_eqA R p.1 p.2) = true → as.map (sy_v ρ τ) = bs.map (sy_v ρ τ)
  | [], [], _, _ => rfl
  | [], _ :: _, hl, _ => by cases hl
  | _ :: _, [], hl, _ => by cases hl
  | a :: as, b :: bs, hl, ha => by
    rw [List.zip_cons_cons, List.all_cons, Bool.and_eq_true] at ha
    rw [List.map_cons, List.map_cons, sy_eqA_e (τ := τ) h ha.1, sy_zip_eq h (Nat.succ.inj hl) ha.2]
theorem sy_ext_as {ρ ρ' : Nat → Int} {τ τ' : Nat → Int64} {N n : Nat} (h : ∀ i, i < N → ρ' i = ρ i) (ht : ∀ i, i < n → τ' i = τ i) {as : List sy_A} (hw : as.all (sy_wa N n) = true) : as.map (sy_v ρ' τ') = as.map (sy_v ρ τ) := List.map_congr_left (fun a ha => sy_ext_a h ht (List.all_eq_true.mp hw a ha))
theorem sy_mapO_sb {ρ : Nat → Int} {τ : Nat → Int64} {σ : List sy_L} {σL : List Nat} : ∀ {as bs : List sy_A}, sy_mapO (sy_sbA σ σL) as = some bs → bs.map (sy_v ρ τ) = as.map (sy_v (sy_ρ ρ σ) (sy_τ τ σL))
  | [], bs, h => by
    cases h
    rfl
  | a :: as, bs, h => by
    unfold sy_mapO at h
    split at h
    · rename_i b l hb hl
      cases h
      rw [List.map_cons, List.map_cons, sy_sbA_e hb, sy_mapO_sb hl]
    · cases h
section QT
variable {cl : List vw_C} {lt : List (List Int32)} {P PM : List px_M} {G : Nat → Nat → Option (px_M × Instr × Nat)} {H : Nat → Option (px_M × Nat)} {An : Nat → Option sy_Ce} {A : List sy_Ce} {Wr : sy_Wr} {Cs : List sy_Co} {D d j0 : Nat} {zs : List (Nat × Nat × Nat)} {M : px_M} {cuts : List sy_Cut} {c0 : sy_Cut} {xs : List Int32} {C : sy_P2} {fB n : Nat} {w0 : px_W} {ρ0 : Nat → Int} {m : sy_L}
theorem sy_ρ_eq {ρ ρ' : Nat → Int} {σ : List sy_L} {N : Nat} (h : ∀ i, i < N → ρ' i = ρ i) (hw : σ.all (sy_wl N) = true) : sy_ρ ρ' σ = sy_ρ ρ σ := by
  funext i
  unfold sy_ρ
  split
  · rename_i f hf
    exact sy_ext_l h (List.all_eq_true.mp hw f (List.mem_of_getElem? hf))
  · rfl
theorem sy_det {n k d : Nat} {scr : Option (List Int32)} {M : px_M} {pc : Nat} {lv : List (Nat × Value)} {st : List Value} {w : px_W} {b : Nat × Nat} {r r' : Option Value × px_W × (Nat × Nat)} (h : px_exec cl lt P n d scr M pc lv st w b = some r) (h' : px_exec cl lt P k d scr M pc lv st w b = some r') : r = r' := by
  rcases Nat.le_total n k with q | q
  · have := px_more h q
    rw [this] at h'
    exact Option.some.inj h'
  · have := px_more h' q
    rw [this] at h
    exact (Option.some.inj h).symm
theorem sy_ckB_ok (hGo : px_Gok PM G) (hH : px_Hok cl P H) (hA : An = fun k => A[k]?) (hcl : ∀ (k : Nat) (o : Nat × List ((Int × Int) ⊕ Nat)), A[k]? = some (.inr (.inr o)) → o.1 < cl.length) (hlen : xs.length ≤ 3072) (hPM : PM[j0]? = some M) (hP : ∀ (j : Nat) (M : px_M), P[j]? = some M → PM[j]? = some M) (hCs : ∀ C ∈ Cs, sy_Met cl lt P A (0, 0) C) (hD : D ≤ d) (hpm : sy_Pm cl lt P A C) {MA : px_M} {k1 dA : Nat} {w1 : px_W} {σ : List sy_L} {σL : List Nat} {ρ2 : Nat → Int} {τ2 : Nat → Int64} {N2 : Nat} {a : Value} (hMA : P[C.1.1]? = some MA) (hdA : C.2.2.2.2.1 ≤ dA) (hdB : fB + 1 + C.2.2.2.2.1 ≤ d) (hW1 : sy_W A w1) (hJ1 : sy_fj C.2.2.2.1 w1) (g1 : sy_ok (sy_ρ ρ2 σ) C.2.1.1) (g2 : sy_cok (sy_ρ ρ2 σ) C.2.1.2.2.1) (g3 : sy_fok (sy_ρ ρ2 σ) (sy_τ τ2 σL) w1 C.2.1.2.2.2) (e1 : px_exec cl lt P k1 dA none MA 0 (lv_args 0 (C.2.2.1.1.map (sy_v (sy_ρ ρ2 σ) (sy_τ τ2 σL)))) [] w1 (0, 0) = some (some a, w1, (0, 0))) (hσw : σ.all (sy_wl N2) = true) (hjc : sy_jc C.2.2.2.1 Wr = true) (hwB : sy_wFs C.2.1.1.length C.2.2.2.2.2.2 = true) (haw : C.2.2.1.2.all (sy_wa C.2.1.1.length 0) = true) (hE : C.2.2.2.2.2.1.all sy_isl = true) {asB : List sy_A} (hasB : sy_mapO (sy_sbA σ σL) C.2.2.1.2 = some asB) {ρ3 : Nat → Int} {N3 s : Nat} (hN3 : 1 ≤ N3 ∧ ρ3 0 = xs.length) (hs : s < N3) (ha : a = .int (Int32.ofInt (ρ3 s))) (hsr : (Int32.ofInt (ρ3 s)).toInt = ρ3 s) (hN2 : N2 ≤ N3) (ag3 : ∀ i, i < N2 → ρ3 i = ρ2 i) (hI : sy_I (cl, lt, P, some xs, (0, 0), (fun v _ => v = some (.int 1)), d) A Wr w0 ρ0 1 M cuts (sy_e ρ3 m)) (hr : ρ3 0 = ρ0 0) (hFf : sy_Fst Wr w0 ρ3 c0.2.1.1.length (sy_Ff Wr c0) ∧ c0.2.1.1.length ≤ N3) (hmw : sy_wl N3 m = true) {z : sy_St} (hk : sy_ckB cl lt P PM G H An A Wr Cs D zs j0 cuts c0 m n C fB σ σL asB s z = true) : sy_GT (cl, lt, P, some xs, (0, 0), (fun v _ => v = some (.int 1)), d) (PM, A, Wr, w0) xs ρ3 N3 z := by
  intro ρ5 hv5
  unfold sy_ckB at hk
  rw [Bool.or_eq_true] at hk
  rcases hk with hk | hk
  · exact sy_dead_ok hk
  split at hk
  · rename_i y hy
    split at hk
    · rename_i M' hM'
      simp only [Bool.and_eq_true, decide_eq_true_eq] at hk
      obtain ⟨hyj, hfB, hyl, hyn, hyz, hfit, hall⟩ := hk
      have hyj' := Nat.eq_of_beq_eq_true hyj
      have hfB' := Nat.eq_of_beq_eq_true hfB
      unfold sy_at1 at hy
      split at hy
      · rename_i M5 i5 len5 hg
        obtain ⟨hM5, hq5⟩ := hGo _ _ _ _ _ hg
        rw [hA] at hy
        have hz5 := ty_cl_ok hH hcl hy
        refine sy_open (S := z.2.2) (q := sy_q6 (PM, A, Wr, w0) ρ5 z.2.1) (fun ρ6 τ6 w6 lc6 cf6 d6 hm6 hl6 hf6 hd6 => ?_) hM5
        obtain ⟨⟨m0, m0'⟩, m1, m2, m3, m4, m5⟩ := id hm6
        have hcf := sy_frl hf6
        rw [hfB'] at hcf
        have hd6' : d6 + cf6.length = d := hd6
        cases d6 with
        | zero => omega
        | succ d6 =>
          have ag : ∀ i, i < N3 → ρ6 i = ρ3 i := fun i hi => by rw [m0' i (Nat.lt_of_lt_of_le hi hv5.1.1)]; exact hv5.1.2 i hi
          have ag2 : ∀ i, i < N2 → ρ6 i = ρ2 i := fun i hi => by rw [ag i (Nat.lt_of_lt_of_le hi hN2)]; exact ag3 i hi
          have eρ : sy_ρ ρ6 σ = sy_ρ ρ2 σ := sy_ρ_eq ag2 hσw
          obtain ⟨-, -, gB⟩ := sy_fitG_ok m1 m2 m3 hfit
          rw [eρ] at gB
          have gB' : sy_fok (sy_ρ ρ2 σ) (sy_τ τ2 σL) w6 C.2.2.2.2.2.2 := sy_ext_F (fun _ _ => rfl) hwB gB
          have hMy : P[y.1]? = some M'.1 := (hH _ _ hM').1
          obtain ⟨a2, b, ⟨e, he, hPe⟩, ⟨k3, e3⟩, ⟨k2, e2⟩⟩ := hpm MA M'.1 hMA (by rw [← hyj']; exact hMy) (sy_ρ ρ2 σ) (sy_τ τ2 σL) w1 w6 dA d6 g1 g2 g3 gB' hW1 hJ1 m4 (sy_jc_pre hjc m5.2) hdA (by omega)
          have hae : a = a2 := by
            have h1 := sy_det e1 e3
            injection h1 with h1 _
            exact Option.some.inj h1
          have hargs : y.2.1.map (sy_v ρ6 τ6) = C.2.2.1.2.map (sy_v (sy_ρ ρ2 σ) (sy_τ τ2 σL)) := by
            rw [sy_zip_eq m1 hyn hyz, sy_mapO_sb hasB, eρ]
            exact sy_ext_as (N := C.2.1.1.length) (n := 0) (fun _ _ => rfl) (fun i hi => absurd hi (Nat.not_lt_zero i)) haw
          refine sy_goRun (x := (cl, lt, P, some xs, (0, 0), (fun v _ => v = some (.int 1)), d)) (S := z.2.2) (q := sy_q6 (PM, A, Wr, w0) ρ5 z.2.1) (y := y) (M' := M'.1) (k := k2) (a := b) (ρ := ρ6) (τ := τ6) hM5 hq5 hz5 hMy hyl rfl m4 hargs e2 ?_
          have hae' : Value.int (Int32.ofInt (ρ3 s)) = a2 := by rw [← ha]; exact hae
          have hall' := List.all_eq_true.mp hall e he
          have hisl := List.all_eq_true.mp hE e he
          have key : ∀ (z4 : sy_St), sy_zB z y s e = some z4 → sy_GT (cl, lt, P, some xs, (0, 0), (fun v _ => v = some (.int 1)), d) (PM, A, Wr, w0) xs ρ3 N3 z4 := by
            intro z4 h4
            rw [h4] at hall'
            exact sy_allT_ok (x := (cl, lt, P, some xs, (0, 0), (fun v _ => v = some (.int 1)), d)) (q := (PM, A, Wr, w0)) (ρ0 := ρ0) (ρc := ρ3) (Nc := N3) (N0 := 1) (m := m) hGo hH hA hcl hP rfl hlen hFf hN3 hCs hD hPM hI ⟨hN3.1, fun i hi => by
              have h0 : i = 0 := by omega
              rw [h0]
              exact hr⟩ hmw rfl n _ hall' _ List.mem_cons_self
          match e, hisl, hPe, key with
          | .inl r, hisl, hPe, key =>
            obtain ⟨v, v1, v2, h4, h5⟩ := hPe
            have ev : ρ3 s = v := by
              rw [h4] at hae'
              injection hae' with h6
              rw [← hsr, h6]
              exact sy_fit_e hisl v1 v2
            obtain ⟨g', hg', hm'⟩ := sy_asms_ok (l := [sy_sub (sy_x s) (sy_c r.1), sy_sub (sy_c r.2) (sy_x s)]) hm6 (fun f hf => by
              simp only [List.mem_cons, List.not_mem_nil, or_false] at hf
              rcases hf with rfl | rfl
              · rw [sy_sub_e, sy_x_e, sy_c_e, ag s hs, ev]; omega
              · rw [sy_sub_e, sy_x_e, sy_c_e, ag s hs, ev]; omega)
            have hGT := key (z.1, z.2.1, sy_at z.2.2 g' (z.2.2.2.1.2.1 + 3) z.2.2.2.1.2.2.1 (.inl (sy_x s) :: y.2.2)) (by
              show (sy_asms z.2.2.1 _).map _ = _
              rw [hg']
              rfl)
            have hu := sy_use (S := z.2.2) (q := sy_q6 (PM, A, Wr, w0) ρ5 z.2.1) (hGT ρ5 hv5) hM5 (ρ := ρ6) (τ := τ6) (w := w6) (lc := lc6) (cf := cf6) (d := d6 + 1) hm' hl6 hf6 hd6
            have eb : b = sy_v ρ6 τ6 (.inl (sy_x s)) := by
              show b = Value.int (Int32.ofInt (sy_e ρ6 (sy_x s)))
              rw [h5, sy_x_e, ag s hs, ev]
            rw [eb]
            exact hu
          | .inr c, hisl, hPe, key =>
            obtain ⟨h4, h5⟩ := hPe
            have ev : ρ3 s = c.1 := by
              rw [h4] at hae'
              injection hae' with h6
              rw [← hsr, h6]
              exact sy_fit_e hisl (Int.le_refl _) (Int.le_refl _)
            obtain ⟨g', hg', hm'⟩ := sy_asms_ok (l := [sy_sub (sy_x s) (sy_c c.1), sy_sub (sy_c c.1) (sy_x s)]) hm6 (fun f hf => by
              simp only [List.mem_cons, List.not_mem_nil, or_false] at hf
              rcases hf with rfl | rfl
              · rw [sy_sub_e, sy_x_e, sy_c_e, ag s hs, ev]; omega
              · rw [sy_sub_e, sy_x_e, sy_c_e, ag s hs, ev]; omega)
            have hGT := key (z.1, z.2.1, sy_at z.2.2 g' (z.2.2.2.1.2.1 + 3) z.2.2.2.1.2.2.1 (.inl (sy_c c.2) :: y.2.2)) (by
              show (sy_asms z.2.2.1 _).map _ = _
              rw [hg']
              rfl)
            have hu := sy_use (S := z.2.2) (q := sy_q6 (PM, A, Wr, w0) ρ5 z.2.1) (hGT ρ5 hv5) hM5 (ρ := ρ6) (τ := τ6) (w := w6) (lc := lc6) (cf := cf6) (d := d6 + 1) hm' hl6 hf6 hd6
            have eb : b = sy_v ρ6 τ6 (.inl (sy_c c.2)) := by
              show b = Value.int (Int32.ofInt (sy_e ρ6 (sy_c c.2)))
              rw [h5, sy_c_e]
            rw [eb]
            exact hu
      · cases hy
    · cases hk
  · cases hk
theorem sy_end1_ok {CA : sy_Co} {r : Int × Int} (hend : sy_end1 CA = some r) (hpu : sy_pure CA.2.2.2.1 = true) {w w' : px_W} {ρ : Nat → Int} {v : Option Value} (hW : sy_W A w) (hK : sy_K A CA w ρ v w') : w' = w ∧ ∃ x : Int, r.1 ≤ x ∧ x ≤ r.2 ∧ v = some (.int (Int32.ofInt x)) := by
  obtain ⟨k1, k2, p, hp, ρ', τ', -, r2, -, -, r5⟩ := hK
  refine ⟨sy_still hpu hW k1 k2, ?_⟩
  unfold sy_end1 at hend
  split at hend
  · rename_i p0 hp0
    rw [hp0] at hp
    have hpe : p = p0 := List.mem_singleton.mp hp
    split at hend
    · rename_i f hf
      have hb := sy_b_e (hpe ▸ r2) hend
      refine ⟨sy_e ρ' f, hb.1, hb.2, ?_⟩
      rw [r5, hpe, hf]
      rfl
    · cases hend
  · cases hend
theorem sy_ckA_ok (hGo : px_Gok PM G) (hH : px_Hok cl P H) (hA : An = fun k => A[k]?) (hcl : ∀ (k : Nat) (o : Nat × List ((Int × Int) ⊕ Nat)), A[k]? = some (.inr (.inr o)) → o.1 < cl.length) (hlen : xs.length ≤ 3072) (hPM : PM[j0]? = some M) (hP : ∀ (j : Nat) (M : px_M), P[j]? = some M → PM[j]? = some M) (hCs : ∀ C ∈ Cs, sy_Met cl lt P A (0, 0) C) (hD : D ≤ d) {CA : sy_Co} (hCA : sy_Met cl lt P A (0, 0) CA) (hpuA : sy_pure CA.2.2.2.1 = true) (hpm : sy_Pm cl lt P A C) {ρs : Nat → Int} {N : Nat} (hN : 1 ≤ N ∧ ρs 0 = xs.length) (hI : sy_I (cl, lt, P, some xs, (0, 0), (fun v _ => v = some (.int 1)), d) A Wr w0 ρ0 1 M cuts (sy_e ρs m)) (hr : ρs 0 = ρ0 0) (hFf : sy_Fst Wr w0 ρs c0.2.1.1.length (sy_Ff Wr c0) ∧ c0.2.1.1.length ≤ N) (hmw : sy_wl N m = true) {z : sy_St} (hk : sy_ckA cl lt P PM G H An A Wr Cs D zs j0 cuts c0 m n CA C fB z = true) : sy_GT (cl, lt, P, some xs, (0, 0), (fun v _ => v = some (.int 1)), d) (PM, A, Wr, w0) xs ρs N z := by
  intro ρ1 hv1
  unfold sy_ckA at hk
  rw [Bool.or_eq_true] at hk
  rcases hk with hk | hk
  · exact sy_dead_ok hk
  split at hk
  · rename_i y hy
    split at hk
    · rename_i M' MB r hM' hMB hend
      rw [Bool.and_eq_true, Bool.and_eq_true, Bool.and_eq_true, decide_eq_true_eq] at hk
      obtain ⟨⟨hyj, hyc, hyl⟩, hk⟩ := hk
      have hyj' := Nat.eq_of_beq_eq_true hyj
      have hyc' := Nat.eq_of_beq_eq_true hyc
      dsimp only at hk
      split at hk
      · rename_i asB hasB
        generalize sy_fσ C.2.1.1 ((C.2.1.2.2.2 ++ C.2.2.2.2.2.2).foldl (sy_unF z.2.2.1.1 z.2.2.1.2.2.2) (sy_unP ([], []) C.2.2.1.1 y.2.1)) = σ at hk hasB
        generalize sy_fσL C.2.1.2.1 ((C.2.1.2.2.2 ++ C.2.2.2.2.2.2).foldl (sy_unF z.2.2.1.1 z.2.2.1.2.2.2) (sy_unP ([], []) C.2.2.1.1 y.2.1)) = σL at hk hasB
        generalize sy_fσ CA.2.1.1 (CA.2.1.2.2.2.foldl (sy_unF z.2.2.1.1 z.2.2.1.2.2.2) (sy_unP ([], []) CA.2.2.1 y.2.1)) = σC at hk
        generalize sy_fσL CA.2.1.2.1 (CA.2.1.2.2.2.foldl (sy_unF z.2.2.1.1 z.2.2.1.2.2.2) (sy_unP ([], []) CA.2.2.1 y.2.1)) = σLC at hk
        unfold sy_ckA2 at hk
        simp only [Bool.and_eq_true, decide_eq_true_eq] at hk
        obtain ⟨c1, c2, c3, d1, d2, d3, c4, c5, c7, cσ, c6, c8, c9, cF, cE, cR, hE⟩ := hk
        unfold sy_at1 at hy
        split at hy
        · rename_i M1 i1 len1 hg
          obtain ⟨hM1, hq1⟩ := hGo _ _ _ _ _ hg
          rw [hA] at hy
          have hz1 := ty_cl_ok hH hcl hy
          refine sy_open (S := z.2.2) (q := sy_q6 (PM, A, Wr, w0) ρ1 z.2.1) (fun ρ2 τ2 w lc cf dd hm hl hf hd => ?_) hM1
          obtain ⟨⟨m0, m0'⟩, m1, m2, m3, m4, m5⟩ := id hm
          have hcf := sy_frl hf
          have hd' : dd + cf.length = d := hd
          cases dd with
          | zero => omega
          | succ dd =>
            obtain ⟨g1, g2, g3⟩ := sy_fitG_ok m1 m2 m3 c5
            obtain ⟨f1, f2, f3⟩ := sy_fitG_ok m1 m2 m3 d2
            have hargs := sy_eqs_ok (τ := τ2) m1 _ _ c4
            have hargC := sy_eqs_ok (τ := τ2) m1 _ _ d1
            have hMy : P[y.1]? = some M'.1 := (hH _ _ hM').1
            obtain ⟨k1, v1, w1, e1, hK1⟩ := hCA M'.1 (by rw [← hyc']; exact hMy) (sy_ρ ρ2 σC) (sy_τ τ2 σLC) w dd f1 f2 f3 m4 (sy_jc_pre d3 m5.2) (by omega)
            obtain ⟨hww, x0, x1, x2, hv⟩ := sy_end1_ok hend hpuA m4 hK1
            rw [hv, hww, ← hargC] at e1
            refine sy_goRun (x := (cl, lt, P, some xs, (0, 0), (fun v _ => v = some (.int 1)), d)) (S := z.2.2) (q := sy_q6 (PM, A, Wr, w0) ρ1 z.2.1) (y := y) (M' := M'.1) (k := k1) (a := .int (Int32.ofInt x0)) (ρ := ρ2) (τ := τ2) hM1 hq1 hz1 hMy hyl rfl m4 rfl e1 ?_
            rw [hargs] at e1
            split at hE
            · rename_i l2 hl2
              have hNz : N ≤ z.2.2.1.1.length := Nat.le_trans hv1.1.1 m0
              have ag2 : ∀ i, i < N → ρ2 i = ρs i := fun i hi => by rw [m0' i (Nat.lt_of_lt_of_le hi hv1.1.1)]; exact hv1.1.2 i hi
              obtain ⟨ρ3, q1, q2, ⟨n1, n2, n3, n4, n5, n6⟩, ⟨p1, p2, p3, p4⟩, p5⟩ := sy_fresh (S := z.2.2) (q := sy_q6 (PM, A, Wr, w0) ρ1 z.2.1) (c := (M1, z.2.2.2.1.2.1, lc, z.2.2.2.1.2.2.2.map (sy_v ρ2 τ2))) c6 ⟨hm, ⟨hM1, rfl, hl, rfl⟩, hf⟩ x1 x2
              have ag3 : ∀ i, i < N → ρ3 i = ρs i := fun i hi => by rw [q1 i (Nat.lt_of_lt_of_le hi hNz)]; exact ag2 i hi
              have h30 : 1 ≤ z.2.2.1.1.length + 1 ∧ ρ3 0 = xs.length := ⟨by omega, by rw [ag3 0 (by have := hN.1; omega)]; exact hN.2⟩
              have em : sy_e ρ3 m = sy_e ρs m := sy_ext_l ag3 hmw
              have hL2 := sy_colT_ok (x := (cl, lt, P, some xs, (0, 0), (fun v _ => v = some (.int 1)), d)) (q := (PM, A, Wr, w0)) (ρc := ρ3) (Nc := z.2.2.1.1.length + 1) hGo hH hA hcl hP rfl hlen h30 hCs hD n _ l2 hl2 (fun z3 hz3 => sy_ckB_ok hGo hH hA hcl hlen hPM hP hCs hD hpm (by rw [← hyj']; exact hMy) (by omega) (by omega) m4 (sy_jc_pre c7 m5.2) g1 g2 g3 e1 cσ c7 cF c9 cE hasB h30 (Nat.lt_succ_self _) (by rw [q2]) (by rw [q2]; exact sy_fit_e cR x1 x2) (Nat.le_succ _) q1 (by rw [em]; exact hI) (by rw [ag3 0 (by have := hN.1; omega)]; exact hr) ⟨sy_Fr_mono hFf.1 (Nat.le_refl _) (fun i hi => ag3 i (Nat.lt_of_lt_of_le hi hFf.2)), Nat.le_trans hFf.2 (Nat.le_succ_of_le hNz)⟩ (sy_wl_mono (Nat.le_succ_of_le hNz) hmw) (List.all_eq_true.mp hE z3 hz3)) _ List.mem_cons_self
              have htv : sy_tv xs ρ3 (z.2.2.1.1.length + 1) z.1 (z.2.2.1.1.length + 1) ρ3 := ⟨⟨Nat.le_refl _, fun _ _ => rfl⟩, fun t ht => by
                obtain ⟨t1, t2, t3, t4⟩ := hv1.2 t ht
                have hle : z.2.1 ≤ z.2.2.1.1.length + 1 := Nat.le_succ_of_le m0
                exact ⟨sy_wl_mono hle t1, sy_wl_mono hle t2, Nat.lt_of_lt_of_le t3 hle, sy_tk_ext (fun i hi => by rw [q1 i (Nat.lt_of_lt_of_le hi m0)]; exact m0' i hi) t1 t2 t3 t4⟩⟩
              have hu := sy_use (S := z.2.2) (q := sy_q6 (PM, A, Wr, w0) ρ3 (z.2.2.1.1.length + 1)) (hL2 ρ3 htv) hM1 (ρ := ρ3) (τ := τ2) (w := w) (lc := lc) (cf := cf) (d := dd + 1) ⟨⟨by show _ ≤ (z.2.2.1.1 ++ [r]).length; rw [List.length_append]; exact Nat.le_refl _, fun _ _ => rfl⟩, n2, n3, n4, n5, n6⟩ p3 p5 hd
              have es : Value.int (Int32.ofInt x0) :: y.2.2.map (sy_v ρ2 τ2) = (.inl (sy_x z.2.2.1.1.length) :: y.2.2 : List sy_A).map (sy_v ρ3 τ2) := by
                show _ = Value.int (Int32.ofInt (sy_e ρ3 (sy_x z.2.2.1.1.length))) :: y.2.2.map (sy_v ρ3 τ2)
                rw [sy_x_e, q2, sy_ext_as q1 (fun _ _ => rfl) c8]
              rw [es]
              exact hu
            · cases hE
        · cases hy
      · cases hk
    · cases hk
  · cases hk
theorem sy_ckQ_ok (hGo : px_Gok PM G) (hH : px_Hok cl P H) (hA : An = fun k => A[k]?) (hcl : ∀ (k : Nat) (o : Nat × List ((Int × Int) ⊕ Nat)), A[k]? = some (.inr (.inr o)) → o.1 < cl.length) (hlen : xs.length ≤ 3072) (hPM : PM[j0]? = some M) (hP : ∀ (j : Nat) (M : px_M), P[j]? = some M → PM[j]? = some M) (hCs : ∀ C ∈ Cs, sy_Met cl lt P A (0, 0) C) (hD : D ≤ d) {CA : sy_Co} (hCA : sy_Met cl lt P A (0, 0) CA) (hpuA : sy_pure CA.2.2.2.1 = true) (hpm : sy_Pm cl lt P A C) (h0 : ρ0 0 = xs.length) {ρs : Nat → Int} {c : sy_Cut} {rel : sy_Wr} (hFf : sy_Fst Wr w0 ρs c.2.1.1.length (sy_Ff Wr c)) (hck : sy_ckQ cl lt P PM G H An A Wr Cs D zs j0 cuts n CA C fB c rel = true) (hr : 1 ≤ c.2.1.1.length ∧ ∀ i, i < 1 → ρs i = ρ0 i) (hI : sy_I (cl, lt, P, some xs, (0, 0), (fun v _ => v = some (.int 1)), d) A Wr w0 ρ0 1 M cuts (sy_e ρs c.2.2.2)) : sy_Good (cl, lt, P, some xs, (0, 0), (fun v _ => v = some (.int 1)), d) (PM, A, Wr, w0, ρs, c.2.1.1.length) (sy_cS j0 (sy_cF rel c)) := by
  unfold sy_ckQ at hck
  rw [Bool.and_eq_true, Bool.and_eq_true] at hck
  obtain ⟨h2, h3, h4⟩ := hck
  have hr0 : ρs 0 = ρ0 0 := hr.2 0 (by omega)
  have hN1 : ρs 0 = xs.length := by rw [hr0]; exact h0
  split at h4
  · rename_i l hl
    split at h4
    · rename_i l1 hl1
      have hG : sy_GT (cl, lt, P, some xs, (0, 0), (fun v _ => v = some (.int 1)), d) (PM, A, Wr, w0) xs ρs c.2.1.1.length ([], c.2.1.1.length, sy_cS j0 (sy_cF rel c)) := by
        refine sy_sucT_ok (x := (cl, lt, P, some xs, (0, 0), (fun v _ => v = some (.int 1)), d)) (q := (PM, A, Wr, w0)) hGo hH hA hcl hP rfl hlen ⟨hr.1, hN1⟩ hCs hD hl (sy_colT_ok (x := (cl, lt, P, some xs, (0, 0), (fun v _ => v = some (.int 1)), d)) (q := (PM, A, Wr, w0)) hGo hH hA hcl hP rfl hlen ⟨hr.1, hN1⟩ hCs hD n l l1 hl1 (fun z hz => ?_))
        have hk := List.all_eq_true.mp h4 z hz
        cases hb : sy_isj (sy_at1 G H An z.2.2) C.1.1 with
        | true =>
          rw [hb, px_c1] at hk
          exact sy_ckA_ok hGo hH hA hcl hlen hPM hP hCs hD hCA hpuA hpm ⟨hr.1, hN1⟩ hI hr0 ⟨hFf, Nat.le_refl _⟩ h3 hk
        | false =>
          rw [hb, px_c0] at hk
          exact sy_allT_ok (x := (cl, lt, P, some xs, (0, 0), (fun v _ => v = some (.int 1)), d)) (q := (PM, A, Wr, w0)) (ρ0 := ρ0) (ρc := ρs) (Nc := c.2.1.1.length) hGo hH hA hcl hP rfl hlen ⟨hFf, Nat.le_refl _⟩ ⟨hr.1, hN1⟩ hCs hD hPM hI hr h3 rfl n _ hk z List.mem_cons_self
      exact hG ρs ⟨⟨Nat.le_refl _, fun _ _ => rfl⟩, fun t ht => absurd ht List.not_mem_nil⟩
    · cases h4
  · cases h4
end QT

end
