noncomputable section
/-! WHAT THINGS DO: THE TRACE and what is at hand, on both sides -/
def ea_tA (w : px_W) (t : List Int) : Prop := ec_fd w 149 0 = (t.length : Int) ∧ ∀ i, i < t.length → ef_a w 150 i = t.getD i 0
def ea_tB (w : px_W) (t : List Int) : Prop := ec_fd w 151 47 = (t.length : Int) ∧ ∀ i, i < t.length → ef_a w 178 i = t.getD i 0
def ea_sA (w : px_W) (K N A P : Int) (t : List Int) : Prop := ec_fd w 149 3 = K ∧ ec_fd w 149 4 = N ∧ ec_fd w 149 5 = A ∧ ec_fd w 149 2 = P ∧ ea_tA w t
def ea_sB (w : px_W) (K N A P : Int) (t : List Int) : Prop := ec_fd w 151 48 = K ∧ ec_fd w 151 49 = N ∧ ec_fd w 151 50 = A ∧ ec_fd w 151 51 = P ∧ ea_tB w t
def ea_fA (w w1 : px_W) : Prop := ef_s [149, 150] w w1
def ea_fB (w w1 : px_W) : Prop := ef_s [151, 178] w w1 ∧ ∀ f, f < 47 → ec_fd w1 151 f = ec_fd w 151 f
theorem ea_fA_r {w : px_W} : ea_fA w w := ef_s_refl
theorem ea_fB_r {w : px_W} : ea_fB w w := ⟨ef_s_refl, fun _ _ => rfl⟩
theorem ea_fA_t {w w1 w2 : px_W} (h1 : ea_fA w w1) (h2 : ea_fA w1 w2) : ea_fA w w2 := ef_s_trans h1 h2
theorem ea_fB_t {w w1 w2 : px_W} (h1 : ea_fB w w1) (h2 : ea_fB w1 w2) : ea_fB w w2 := ⟨ef_s_trans h1.1 h2.1, fun f hf => (h2.2 f hf).trans (h1.2 f hf)⟩
theorem ea_w1 {w : px_W} {k n p : Nat} {sg : sy_Sg} {z : Int} (hW : ec_W hb_A w) (ha : hb_A[k]? = some (.inl (n, sg))) (hp : p < n) : ec_W hb_A (ec_wr w k (p : Int) z) ∧ ef_s [k] w (ec_wr w k (p : Int) z) ∧ ∀ i, ef_a (ec_wr w k (p : Int) z) k i = if i = p then ec_tw z else ef_a w k i := by
  refine ⟨ec_W_wr hW, ef_s_wr List.mem_cons_self, fun i => ?_⟩
  rw [ef_a_wr (n := n) hW ha (by omega) (by omega)]
  unfold ef_u
  rw [Int.toNat_natCast]
theorem ea_get {t : List Int} {b : Int} {i : Nat} (hi : i < t.length + 1) : (t ++ [b]).getD i 0 = if i = t.length then b else t.getD i 0 := by
  rw [List.getD_eq_getElem?_getD, List.getD_eq_getElem?_getD]
  by_cases q : i = t.length
  · rw [if_pos q, q, List.getElem?_append_right (Nat.le_refl _), Nat.sub_self]
    rfl
  · rw [if_neg q, List.getElem?_append_left (by omega)]
theorem ea_sub {A N : Int} (rA : ec_tw A = A) (rN : ec_tw N = N) : ec_tw (A - N) = 0 ↔ A = N := by
  have bA := ec_tw_in A
  have bN := ec_tw_in N
  rw [rA] at bA
  rw [rN] at bN
  constructor
  · intro h
    have e1 : Int32.ofInt (A - N) = 0 := Int32.toInt_inj.mp h
    rw [Int32.ofInt_sub] at e1
    have e2 : Int32.ofInt A = Int32.ofInt N := by
      apply Int32.toBitVec.inj
      have e3 : (Int32.ofInt A).toBitVec - (Int32.ofInt N).toBitVec = 0#32 := congrArg Int32.toBitVec e1
      bv_omega
    have e4 : (Int32.ofInt A).toInt = (Int32.ofInt N).toInt := by rw [e2]
    have e5 : ec_tw A = ec_tw N := e4
    rw [rA, rN] at e5
    exact e5
  · intro h
    rw [h, Int.sub_self]
    rfl
section EA1
variable {n : Nat} {w w1 : px_W} {v : Option Value} {K N A P b x : Int} {t : List Int}
theorem ea_begA (S : ea_sA w K N A P t) (ht : t.length ≤ 29) (hb : ec_tw b = b) (h : ec_E hb_X n 4 0 [(0, .inr (.inl 213)), (1, .inl b)] [] w (v, w1)) : v = none ∧ ec_W hb_A w1 ∧ ea_fA w w1 ∧ ea_sA w1 K N A P (t ++ [b]) := by
  obtain ⟨s1, s2, s3, s4, s5, s6⟩ := S
  have t30 : ec_tw 30 = 30 := rfl
  have tl : ec_tw (t.length : Int) = (t.length : Int) := ec_twn (by omega)
  have l := eg4_149_0_1 h
  rw [s5, tl, t30] at l
  obtain ⟨_, h29⟩ := l (by omega)
  obtain ⟨W1, f1, r1⟩ := ea_w1 (k := 150) (n := 30) (p := t.length) (z := b) h.1 rfl (by omega)
  obtain ⟨y1, hy1⟩ : ∃ y, y = ec_wr w 150 (t.length : Int) b := ⟨_, rfl⟩
  rw [← hy1] at h29 W1 f1 r1
  have g0 : ec_fd y1 149 0 = (t.length : Int) := (ef_s_f f1 (by decide) 0).trans s5
  rw [g0] at h29
  obtain ⟨_, hr, hW⟩ := eg4_149_29_0 h29
  injection hr with e1 e2
  have F : ∀ f, ec_fd w1 149 f = if f = 0 then ((t.length + 1 : Nat) : Int) else ec_fd y1 149 f := by
    intro f
    rw [e2, ec_fd_pf (k := 149) (f := 0) W1 rfl (by decide)]
    have ev : ec_tw ((t.length : Int) + 1) = ((t.length + 1 : Nat) : Int) := ec_twn (n := t.length + 1) (by omega)
    rw [ev]
  have f2 : ef_s [149] y1 w1 := by
    rw [e2]
    exact ef_s_pf List.mem_cons_self
  refine ⟨e1, by rw [e2]; exact hW, ef_s_trans (ef_s_mono f1 (by decide)) (ef_s_mono f2 (by decide)), ?_, ?_, ?_, ?_, ?_, ?_⟩
  · rw [F 3, if_neg (by decide), ef_s_f f1 (by decide)]
    exact s1
  · rw [F 4, if_neg (by decide), ef_s_f f1 (by decide)]
    exact s2
  · rw [F 5, if_neg (by decide), ef_s_f f1 (by decide)]
    exact s3
  · rw [F 2, if_neg (by decide), ef_s_f f1 (by decide)]
    exact s4
  · rw [F 0, if_pos rfl, List.length_append]
    rfl
  · intro i hi
    rw [List.length_append] at hi
    have hi' : i < t.length + 1 := hi
    rw [ef_s_a f2 (by decide), r1 i, hb, ea_get hi']
    by_cases q : i = t.length
    · rw [if_pos q, if_pos q]
    · rw [if_neg q, if_neg q]
      exact s6 i (by omega)
theorem ea_begB (S : ea_sB w K N A P t) (ht : t.length ≤ 29) (hb : ec_tw b = b) (h : ec_E hb_X n 280 0 [(0, .inr (.inl 215)), (1, .inl b)] [] w (v, w1)) : v = none ∧ ec_W hb_A w1 ∧ ea_fB w w1 ∧ ea_sB w1 K N A P (t ++ [b]) := by
  obtain ⟨s1, s2, s3, s4, s5, s6⟩ := S
  have t30 : ec_tw 30 = 30 := rfl
  have tl : ec_tw (t.length : Int) = (t.length : Int) := ec_twn (by omega)
  have l := eg280_151_0_1 h
  rw [s5, tl, t30] at l
  obtain ⟨_, h29⟩ := l (by omega)
  obtain ⟨W1, f1, r1⟩ := ea_w1 (k := 178) (n := 30) (p := t.length) (z := b) h.1 rfl (by omega)
  obtain ⟨y1, hy1⟩ : ∃ y, y = ec_wr w 178 (t.length : Int) b := ⟨_, rfl⟩
  rw [← hy1] at h29 W1 f1 r1
  have g0 : ec_fd y1 151 47 = (t.length : Int) := (ef_s_f f1 (by decide) 47).trans s5
  rw [g0] at h29
  obtain ⟨_, hr, hW⟩ := eg280_151_29_0 h29
  injection hr with e1 e2
  have F : ∀ f, ec_fd w1 151 f = if f = 47 then ((t.length + 1 : Nat) : Int) else ec_fd y1 151 f := by
    intro f
    rw [e2, ec_fd_pf (k := 151) (f := 47) W1 rfl (by decide)]
    have ev : ec_tw ((t.length : Int) + 1) = ((t.length + 1 : Nat) : Int) := ec_twn (n := t.length + 1) (by omega)
    rw [ev]
  have f2 : ef_s [151] y1 w1 := by
    rw [e2]
    exact ef_s_pf List.mem_cons_self
  refine ⟨e1, by rw [e2]; exact hW, ⟨ef_s_trans (ef_s_mono f1 (by decide)) (ef_s_mono f2 (by decide)), fun f hf => ?_⟩, ?_, ?_, ?_, ?_, ?_, ?_⟩
  · rw [F f, if_neg (by omega), ef_s_f f1 (by decide)]
  · rw [F 48, if_neg (by decide), ef_s_f f1 (by decide)]
    exact s1
  · rw [F 49, if_neg (by decide), ef_s_f f1 (by decide)]
    exact s2
  · rw [F 50, if_neg (by decide), ef_s_f f1 (by decide)]
    exact s3
  · rw [F 51, if_neg (by decide), ef_s_f f1 (by decide)]
    exact s4
  · rw [F 47, if_pos rfl, List.length_append]
    rfl
  · intro i hi
    rw [List.length_append] at hi
    have hi' : i < t.length + 1 := hi
    rw [ef_s_a f2 (by decide), r1 i, hb, ea_get hi']
    by_cases q : i = t.length
    · rw [if_pos q, if_pos q]
    · rw [if_neg q, if_neg q]
      exact s6 i (by omega)
theorem eaA10_0 (S : ea_sA w K N A 0 t) (ht : t.length ≤ 29) (rA : ec_tw A = A) (rN : ec_tw N = N) (hq : A ≠ N) (h : ec_E hb_X n 10 0 [(0, .inr (.inl 213)), (1, .inl x)] [] w (v, w1)) : v = ec_R (ec_dv x (A - N)) ∧ ec_W hb_A w1 ∧ ea_fA w w1 ∧ ea_sA w1 K N A 0 (t ++ [12]) := by
  have t0 : ec_tw 0 = 0 := rfl
  obtain ⟨_, u, y, a1, b1⟩ := eg10_149_0_0 h
  obtain ⟨e1, W1, f1, S1⟩ := ea_begA S ht rfl a1
  have l := eg10_149_6_0 (b1 e1 W1)
  rw [S1.2.2.1, S1.2.1, t0] at l
  obtain ⟨_, hr, hW⟩ := l (fun z => hq ((ea_sub rA rN).mp z))
  injection hr with g1 g2
  rw [g2]
  exact ⟨g1, hW, f1, S1⟩
theorem eaA10_1 (S : ea_sA w K N A 0 t) (ht : t.length ≤ 29) (rA : ec_tw A = A) (rN : ec_tw N = N) (hq : A = N) (h : ec_E hb_X n 10 0 [(0, .inr (.inl 213)), (1, .inl x)] [] w (v, w1)) : v = ec_R 0 ∧ ec_W hb_A w1 ∧ ea_fA w w1 ∧ ea_sA w1 K N A 1 (t ++ [12]) := by
  have t0 : ec_tw 0 = 0 := rfl
  have t1 : ec_tw 1 = 1 := rfl
  obtain ⟨_, u, y, a1, b1⟩ := eg10_149_0_0 h
  obtain ⟨e1, W1, f1, S1⟩ := ea_begA S ht rfl a1
  have l := eg10_149_6_1 (b1 e1 W1)
  rw [S1.2.2.1, S1.2.1, t0] at l
  obtain ⟨_, hr, hW⟩ := l ((ea_sub rA rN).mpr hq)
  injection hr with g1 g2
  have F : ∀ f, ec_fd w1 149 f = if f = 2 then 1 else ec_fd y 149 f := by
    intro f
    rw [g2, ec_fd_pf (k := 149) (f := 2) W1 rfl (by decide), t1]
  have f2 : ef_s [149] y w1 := by
    rw [g2]
    exact ef_s_pf List.mem_cons_self
  obtain ⟨s1, s2, s3, s4, s5, s6⟩ := S1
  refine ⟨g1, by rw [g2]; exact hW, ef_s_trans f1 (ef_s_mono f2 (by decide)), ?_, ?_, ?_, ?_, ?_, ?_⟩
  · rw [F 3, if_neg (by decide)]
    exact s1
  · rw [F 4, if_neg (by decide)]
    exact s2
  · rw [F 5, if_neg (by decide)]
    exact s3
  · rw [F 2, if_pos rfl]
  · rw [F 0, if_neg (by decide)]
    exact s5
  · intro i hi
    rw [ef_s_a f2 (by decide)]
    exact s6 i hi
theorem ea_brk {p : Int} (hp : ec_tw p = p) (W : ec_W hb_A w) (S : ea_sB w K N A P t) : ea_fB w (ec_pf w 151 51 p) ∧ ea_sB (ec_pf w 151 51 p) K N A p t := by
  have F : ∀ f, ec_fd (ec_pf w 151 51 p) 151 f = if f = 51 then p else ec_fd w 151 f := by
    intro f
    rw [ec_fd_pf (k := 151) (f := 51) W rfl (by decide), hp]
  have f2 : ef_s [151] w (ec_pf w 151 51 p) := ef_s_pf List.mem_cons_self
  obtain ⟨s1, s2, s3, s4, s5, s6⟩ := S
  refine ⟨⟨ef_s_mono f2 (by decide), fun f hf => ?_⟩, ?_, ?_, ?_, ?_, ?_, ?_⟩
  · rw [F f, if_neg (by omega)]
  · rw [F 48, if_neg (by decide)]
    exact s1
  · rw [F 49, if_neg (by decide)]
    exact s2
  · rw [F 50, if_neg (by decide)]
    exact s3
  · rw [F 51, if_pos rfl]
  · rw [F 47, if_neg (by decide)]
    exact s5
  · intro i hi
    rw [ef_s_a f2 (by decide)]
    exact s6 i hi
theorem eaB285_0 (S : ea_sB w K N A 0 t) (ht : t.length ≤ 29) (rA : ec_tw A = A) (rN : ec_tw N = N) (hq : A ≠ N) (h : ec_E hb_X n 285 0 [(0, .inr (.inl 215)), (1, .inl x)] [] w (v, w1)) : v = ec_R (ec_dv x (A - N)) ∧ ec_W hb_A w1 ∧ ea_fB w w1 ∧ ea_sB w1 K N A 0 (t ++ [12]) := by
  obtain ⟨_, u, y, a1, b1⟩ := eg285_151_0_0 h
  obtain ⟨e1, W1, f1, S1⟩ := ea_begB S ht rfl a1
  have l := eg285_151_6_0 (b1 e1 W1)
  rw [S1.2.2.1, S1.2.1, rA, rN] at l
  have h26 := (l hq).2
  obtain ⟨f2, S2⟩ := ea_brk (p := 0) rfl W1 S1
  have k := eg285_151_26_0 h26
  rw [S2.2.2.2.1, S2.2.2.1, S2.2.1] at k
  obtain ⟨_, hr, hW⟩ := k rfl
  injection hr with g1 g2
  rw [g2]
  exact ⟨g1, hW, ea_fB_t f1 f2, S2⟩
theorem eaB285_1 (S : ea_sB w K N A 0 t) (ht : t.length ≤ 29) (rA : ec_tw A = A) (rN : ec_tw N = N) (hq : A = N) (h : ec_E hb_X n 285 0 [(0, .inr (.inl 215)), (1, .inl x)] [] w (v, w1)) : v = ec_R 0 ∧ ec_W hb_A w1 ∧ ea_fB w w1 ∧ ea_sB w1 K N A 1 (t ++ [12]) := by
  obtain ⟨_, u, y, a1, b1⟩ := eg285_151_0_0 h
  obtain ⟨e1, W1, f1, S1⟩ := ea_begB S ht rfl a1
  have l := eg285_151_6_1 (b1 e1 W1)
  rw [S1.2.2.1, S1.2.1, rA, rN] at l
  have h26 := (l hq).2
  obtain ⟨f2, S2⟩ := ea_brk (p := 1) rfl W1 S1
  have k := eg285_151_26_1 h26
  rw [S2.2.2.2.1] at k
  obtain ⟨_, hr, hW⟩ := k (by decide)
  injection hr with g1 g2
  rw [g2]
  exact ⟨g1, hW, ea_fB_t f1 f2, S2⟩
end EA1

end
