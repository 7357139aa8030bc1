noncomputable section
/-! RULES: how many VERSIONS, and THE TAPE, are the same on both sides; feed and read at the law's head -/
def ev_P6 : ej_T := fun F _ D => ∃ c : Nat, c ≤ 6 ∧ F 44 0 = (c : Int) ∧ D 10 = (c : Int)
def ev_FL6 : List (Nat × Nat) := [(44, 0)]
def ev_RL6 : List (Nat × Nat) := []
def ev_DL6 : List (Nat × Nat) := [(10, 11)]
theorem ev_dep6 : ej_dep ev_FL6 ev_RL6 ev_DL6 ev_P6 := by
  intro F F' R R' D D' hF hR hD h
  obtain ⟨c, h6, h1, h2⟩ := h
  have f0 : F' 44 0 = F 44 0 := hF (44, 0) List.mem_cons_self
  have d10 : D' 10 = D 10 := hD (10, 11) List.mem_cons_self 10 (by decide) (by decide)
  exact ⟨c, h6, f0.trans h1, d10.trans h2⟩
/-- THE TAPE and the reference's letters: not kept, live alone -/
def ev_td : List (Nat × Nat × Nat) := [(137, 0, 1), (138, 0, 200), (151, 4, 5), (154, 0, 200), (168, 0, 82)]
theorem ev_td_st {w w' : px_W} (hW : ec_W hb_A w) (hW' : ec_W hb_A w') (h : ∀ p ∈ ev_td, ∀ i, p.2.1 ≤ i → i < p.2.2 → sy_get w' p.1 i = sy_get w p.1 i) (hT : er_TP w) (hL : er_Le w) : er_TP w' ∧ er_Le w' := by
  have f1 : ec_fd w' 137 0 = ec_fd w 137 0 := ef_get_f (k := 137) hW hW' rfl (h (137, 0, 1) (by decide) 0 (by decide) (by decide))
  have f2 : ec_fd w' 151 4 = ec_fd w 151 4 := ef_get_f (k := 151) hW hW' rfl (h (151, 4, 5) (by decide) 4 (by decide) (by decide))
  have a1 : ∀ y, y < 200 → ef_a w' 138 y = ef_a w 138 y := fun y hy => ef_get_a (k := 138) hW hW' rfl (h (138, 0, 200) (by decide) y (Nat.zero_le _) hy)
  have a2 : ∀ y, y < 200 → ef_a w' 154 y = ef_a w 154 y := fun y hy => ef_get_a (k := 154) hW hW' rfl (h (154, 0, 200) (by decide) y (Nat.zero_le _) hy)
  have a3 : ∀ y, y < 82 → ef_a w' 168 y = ef_a w 168 y := fun y hy => ef_get_a (k := 168) hW hW' rfl (h (168, 0, 82) (by decide) y (Nat.zero_le _) hy)
  obtain ⟨N, hN, h1, h2, h3⟩ := hT
  refine ⟨⟨N, hN, f1.trans h1, f2.trans h2, fun y hy => ?_⟩, fun x hx => ?_⟩
  · rw [a1 y (by omega), a2 y (by omega)]
    exact h3 y hy
  · rw [a3 x hx]
    exact hL x hx
theorem ev_td_s {S : List Nat} {w w' : px_W} (s : ef_s S w w') (n1 : 137 ∉ S) (n2 : 138 ∉ S) (n3 : 154 ∉ S) (n4 : 168 ∉ S) (f2 : ec_fd w' 151 4 = ec_fd w 151 4) (hT : er_TP w) (hL : er_Le w) : er_TP w' ∧ er_Le w' := by
  obtain ⟨N, hN, h1, h2, h3⟩ := hT
  refine ⟨⟨N, hN, (ef_s_f s n1 0).trans h1, f2.trans h2, fun y hy => ?_⟩, fun x hx => ?_⟩
  · rw [ef_s_a s n2, ef_s_a s n3]
    exact h3 y hy
  · rw [ef_s_a s n4]
    exact hL x hx
theorem ev_keepT {xs : List Int32} {n : Nat} {w wA wB : px_W} {vA vB : Option Value} (hT : er_TP w) (hL : er_Le w) (hA : ec_F (hb_XL xs) n 171 [.inr (.inl 64)] w (vA, wA)) (hB : ec_F (hb_XL xs) n 292 [.inr (.inl 215)] wA (vB, wB)) : er_TP wB ∧ er_Le wB := by
  obtain ⟨w1, e, hW, k1, hk⟩ := ew_keepA (hb_FE hA)
  injection e with e e'
  subst e'
  obtain ⟨w2, e2, hW2, s2, d2, f2⟩ := ew_keepB (hb_FE hB)
  injection e2 with e2 e2'
  subst e2'
  have s1 := hk.1
  obtain ⟨T1, L1⟩ := ev_td_s s1 (by decide) (by decide) (by decide) (by decide) (ef_s_f s1 (by decide) 4) hT hL
  exact ev_td_s s2 (by decide) (by decide) (by decide) (by decide) (by rw [f2, if_neg (by decide)]) T1 L1
theorem ev_againT {xs : List Int32} {n : Nat} {w wA wB : px_W} {vA vB : Option Value} (hT : er_TP w) (hL : er_Le w) (hA : ec_F (hb_XL xs) n 172 [.inr (.inl 64)] w (vA, wA)) (hB : ec_F (hb_XL xs) n 293 [.inr (.inl 215)] wA (vB, wB)) : er_TP wB ∧ er_Le wB := by
  have B : er_TP wA → er_Le wA → er_TP wB ∧ er_Le wB := by
    intro T1 L1
    rcases ew_againB (hb_FE hB) with ⟨p0, e2, hW2⟩ | ⟨p0, w2, e2, hW2, s2, d2⟩
    · injection e2 with e2 e2'
      rw [e2']
      exact ⟨T1, L1⟩
    · injection e2 with e2 e2'
      subst e2'
      exact ev_td_s s2 (by decide) (by decide) (by decide) (by decide) (ef_s_f s2 (by decide) 4) T1 L1
  rcases ew_againA (hb_FE hA) with ⟨q0, e, hW⟩ | ⟨q0, w1, e, hW, hk⟩
  · injection e with e e'
    rw [e'] at B
    exact B hT hL
  · injection e with e e'
    subst e'
    have s1 := hk.1
    obtain ⟨T1, L1⟩ := ev_td_s s1 (by decide) (by decide) (by decide) (by decide) (ef_s_f s1 (by decide) 4) hT hL
    exact B T1 L1
/-- 'heard' is 0 or 1 -/
theorem ev_h32 {w : px_W} (hI : hb_I0 w) : ec_fd w 151 32 = (if decide (ec_fd w 151 32 = 1) = true then 1 else 0) := by
  obtain ⟨o, ho, h2⟩ := hI.1.2 151 _ rfl
  have b : 0 ≤ ec_fd w 151 32 ∧ ec_fd w 151 32 ≤ 1 := by
    cases o with
    | inl l => exact absurd h2 id
    | inr o =>
      cases o with
      | inl l => exact absurd h2 id
      | inr o =>
        obtain ⟨_, _, e3, _⟩ := h2
        obtain ⟨x, hx, hin⟩ := e3 32 (0, 1) rfl
        unfold ec_fd
        rw [ho]
        dsimp only
        rw [hx]
        exact hin
  by_cases e : ec_fd w 151 32 = 1
  · rw [if_pos (decide_eq_true e), e]
  · rw [if_neg (fun z => e (of_decide_eq_true z))]
    omega
/-- read on both sides, one after the other -/
theorem ew_read {xs : List Int32} {n c : Nat} {w wA wB : px_W} {vA vB : Option Value} (hI : hb_I0 w) (hc6 : c ≤ 6) (h44 : ec_fd w 44 0 = (c : Int)) (h10 : ef_a w 152 10 = (c : Int)) (hT : er_TP w) (hL : er_Le w) (hA : ec_F (hb_XL xs) n 155 [.inr (.inl 64)] w (vA, wA)) (hB : ec_F (hb_XL xs) n 261 [.inr (.inl 215)] wA (vB, wB)) : vA = vB ∧ er_TP wB ∧ er_Le wB ∧ er_k4 c w wA ∧ ef_s [151, 152, 170, 171] wA wB ∧ (∀ f, f < 4 → ec_fd wB 151 f = ec_fd w 151 f) ∧ ((ec_fd wB 44 0 = (c : Int) ∧ ef_a wB 152 = ef_a w 152) ∨ (c < 6 ∧ ec_fd wB 44 0 = ((c + 1 : Nat) : Int) ∧ ef_a wB 45 c = ec_fd w 1 0 ∧ ∃ (N : Nat) (t : Nat → Int), N ≤ 200 ∧ (∀ i, i < N → 0 ≤ t i ∧ t i ≤ 255) ∧ (∀ p, ef_a wB 152 p = if p = 10 then ((c + 1 : Nat) : Int) else if 380 + 200 * c ≤ p ∧ p < 380 + 200 * c + N then t (p - (380 + 200 * c)) else if p = 374 + c then (N : Int) else if p = 368 + c then ef_a w 152 0 else ef_a w 152 p) ∧ ∀ (H : Bool) (M : Nat → Int), ∃ (a : Nat) (q : List er_L × List Int), er_rd (fun j => er_co t N (er_p t N j)) (fun j => er_va t N (er_p t N j)) H M 8 0 [] [] = (a, some q) ∧ er_KL wB c q.1 ∧ er_Cs wB c q.2)) := by
  obtain ⟨N, hN, h1, h2, h3⟩ := hT
  obtain ⟨t, ht⟩ : ∃ t : Nat → Int, t = ef_a w 138 := ⟨_, rfl⟩
  have hb : ∀ i, i < N → 0 ≤ t i ∧ t i ≤ 255 := fun i hi => by
    rw [ht]
    exact (h3 i hi).2
  have h138 : ∀ y, y < N → ef_a w 138 y = t y := fun y _ => by rw [ht]
  obtain ⟨H0, eH⟩ : ∃ H : Bool, ec_fd w 151 32 = (if H = true then 1 else 0) := ⟨_, ev_h32 hI⟩
  have rA := fun (H : Bool) (M : Nat → Int) => ew_readA (t := t) (H := H) (M := M) hN hb hc6 h1 h138 h44 (hb_FE hA)
  obtain ⟨WA, kA, fA0, mA⟩ := rA H0 (ef_a w 169)
  have g1 : ec_fd wA 151 4 = (N : Int) := (ef_s_f kA.1 (by decide) 4).trans h2
  have g2 : ∀ y, y < N → ef_a wA 154 y = t y := fun y hy => by
    rw [ef_s_a kA.1 (by decide), ht]
    exact (h3 y hy).1
  have g3 : er_Le wA := fun x hx => by
    rw [ef_s_a kA.1 (by decide)]
    exact hL x hx
  obtain ⟨WB, sB, fB, fB4, mB⟩ := ew_readB (t := t) (H := H0) (M := ef_a w 169) hN hb hc6 g1 g2 g3 ((ef_s_f kA.1 (by decide) 32).trans eH) (fun q _ => congrFun (ef_s_a kA.1 (by decide)) q) ((congrFun (ef_s_a kA.1 (by decide)) 10).trans h10) (hb_FE hB)
  have d0 : ef_a wA 152 = ef_a w 152 := ef_s_a kA.1 (by decide)
  have TB : er_TP wB := ⟨0, Nat.zero_le _, (ef_s_f sB (by decide) 0).trans fA0, fB4, fun y hy => absurd hy (Nat.not_lt_zero _)⟩
  have LB : er_Le wB := fun x hx => by
    rw [ef_s_a sB (by decide)]
    exact g3 x hx
  have fB' : ∀ f, f < 4 → ec_fd wB 151 f = ec_fd w 151 f := fun f hf => (fB f hf).trans (ef_s_f kA.1 (by decide) f)
  have b44 : ec_fd wB 44 0 = ec_fd wA 44 0 := ef_s_f sB (by decide) 0
  cases e : er_rd (fun j => er_co t N (er_p t N j)) (fun j => er_va t N (er_p t N j)) H0 (ef_a w 169) 8 0 [] [] with
  | mk a s =>
    rw [e] at mA mB
    cases s with
    | none =>
      obtain ⟨ea, ca⟩ : vA = ec_R (-100 - (er_p t N a : Int)) ∧ ec_fd wA 44 0 = (c : Int) := mA
      obtain ⟨eb, db⟩ : vB = ec_R (-100 - (er_p t N a : Int)) ∧ ef_a wB 152 = ef_a wA 152 := mB
      exact ⟨ea.trans eb.symm, TB, LB, kA, sB, fB', .inl ⟨b44.trans ca, db.trans d0⟩⟩
    | some q =>
      have mA' : (c = 6 ∧ vA = ec_R (-2) ∧ ec_fd wA 44 0 = (c : Int)) ∨ (c < 6 ∧ vA = ec_R (c : Int) ∧ ec_fd wA 44 0 = ((c + 1 : Nat) : Int) ∧ ef_a wA 45 c = ec_fd w 1 0 ∧ er_KL wA c q.1 ∧ er_Cs wA c q.2) := mA
      have mB' : (c = 6 ∧ vB = ec_R (-2) ∧ ef_a wB 152 = ef_a wA 152) ∨ (c < 6 ∧ vB = ec_R (c : Int) ∧ ∀ p, ef_a wB 152 p = if p = 10 then ((c + 1 : Nat) : Int) else if 380 + 200 * c ≤ p ∧ p < 380 + 200 * c + N then t (p - (380 + 200 * c)) else if p = 374 + c then (N : Int) else if p = 368 + c then ef_a wA 152 0 else ef_a wA 152 p) := mB
      rcases mA' with ⟨c6, ea, ca⟩ | ⟨c5, ea, ca, e45, _⟩
      · rcases mB' with ⟨_, eb, db⟩ | ⟨c5, _⟩
        · exact ⟨ea.trans eb.symm, TB, LB, kA, sB, fB', .inl ⟨b44.trans ca, db.trans d0⟩⟩
        · omega
      · rcases mB' with ⟨c6, _⟩ | ⟨_, eb, db⟩
        · omega
        · refine ⟨ea.trans eb.symm, TB, LB, kA, sB, fB', .inr ⟨c5, b44.trans ca, (congrFun (ef_s_a sB (by decide)) c).trans e45, N, t, hN, hb, fun p => ?_, fun H M => ?_⟩⟩
          · rw [db p, d0]
          · obtain ⟨_, _, _, mH⟩ := rA H M
            cases e' : er_rd (fun j => er_co t N (er_p t N j)) (fun j => er_va t N (er_p t N j)) H M 8 0 [] [] with
            | mk a' s' =>
              rw [e'] at mH
              cases s' with
              | none =>
                obtain ⟨_, ch⟩ : vA = ec_R (-100 - (er_p t N a' : Int)) ∧ ec_fd wA 44 0 = (c : Int) := mH
                rw [ca] at ch
                omega
              | some q' =>
                have mH' : (c = 6 ∧ vA = ec_R (-2) ∧ ec_fd wA 44 0 = (c : Int)) ∨ (c < 6 ∧ vA = ec_R (c : Int) ∧ ec_fd wA 44 0 = ((c + 1 : Nat) : Int) ∧ ef_a wA 45 c = ec_fd w 1 0 ∧ er_KL wA c q'.1 ∧ er_Cs wA c q'.2) := mH
                rcases mH' with ⟨c6, _⟩ | ⟨_, _, _, _, k1, k2⟩
                · omega
                · refine ⟨a', q', rfl, ?_, ?_⟩
                  · unfold er_KL
                    rw [ef_s_a sB (k := 46) (by decide), ef_s_a sB (k := 47) (by decide), ef_s_a sB (k := 48) (by decide), ef_s_a sB (k := 49) (by decide)]
                    exact k1
                  · unfold er_Cs
                    rw [ef_s_a sB (k := 50) (by decide), ef_s_a sB (k := 51) (by decide)]
                    exact k2

end
