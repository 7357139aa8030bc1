noncomputable section
/-! RULES: lack on both sides; SEATS of BOATS are the same on both sides -/
def es_P : ej_T := fun F R D => ∃ b : Nat, b ≤ 8 ∧ F 15 10 = (b : Int) ∧ D 5 = (b : Int) ∧ ∀ i, i < b → R 24 i = D (216 + 4 * i)
def es_FL : List (Nat × Nat) := [(15, 10)]
def es_RL : List (Nat × Nat) := [(24, 8)]
def es_DL : List (Nat × Nat) := [(5, 6), (216, 248)]
theorem es_dep : ej_dep es_FL es_RL es_DL es_P := by
  intro F F' R R' D D' hF hR hD h
  obtain ⟨b, h8, h1, h2, h3⟩ := h
  have f0 : F' 15 10 = F 15 10 := hF (15, 10) List.mem_cons_self
  have r24 : ∀ p, p < 8 → R' 24 p = R 24 p := hR (24, 8) List.mem_cons_self
  have d5 : D' 5 = D 5 := hD (5, 6) List.mem_cons_self 5 (by decide) (by decide)
  have d216 : ∀ p, 216 ≤ p → p < 248 → D' p = D p := hD (216, 248) (List.mem_cons_of_mem _ List.mem_cons_self)
  refine ⟨b, h8, f0.trans h1, d5.trans h2, fun i hi => ?_⟩
  rw [r24 i (by omega), d216 (216 + 4 * i) (by omega) (by omega)]
  exact h3 i hi
def es_R (w : px_W) : Prop := ej_RR es_P w
def es_dc : List (Nat × Nat × Nat) := ej_dc es_FL es_RL es_DL
theorem es_dc_st {w w' : px_W} (hW : ec_W hb_A w) (hW' : ec_W hb_A w') (h : ∀ p ∈ es_dc, ∀ i, p.2.1 ≤ i → i < p.2.2 → sy_get w' p.1 i = sy_get w p.1 i) (hR : es_R w) : es_R w' := ej_dc_st (by decide +kernel) es_dep hW hW' h hR
theorem es_keep2 {xs : List Int32} {n : Nat} {w wA wB : px_W} {vA vB : Option Value} (hR : es_R w) (hA : ec_F (hb_XL xs) n 171 [.inr (.inl 64)] w (vA, wA)) (hB : ec_F (hb_XL xs) n 292 [.inr (.inl 215)] wA (vB, wB)) : es_R wB := ej_keep2 (by decide +kernel) (by decide +kernel) es_dep hR hA hB
theorem es_again2 {xs : List Int32} {n : Nat} {w wA wB : px_W} {vA vB : Option Value} (hR : es_R w) (hA : ec_F (hb_XL xs) n 172 [.inr (.inl 64)] w (vA, wA)) (hB : ec_F (hb_XL xs) n 293 [.inr (.inl 215)] wA (vB, wB)) : es_R wB := ej_again2 (by decide +kernel) (by decide +kernel) es_dep hR hA hB
theorem es_boat2 {xs : List Int32} {n : Nat} {w wA wB : px_W} {vA vB : Option Value} {x1 x2 x3 x4 : Int} (hR : es_R w) (hA : ec_F (hb_XL xs) n 133 [.inr (.inl 64), .inl x1, .inl x2, .inl x3, .inl x4] w (vA, wA)) (hB : ec_F (hb_XL xs) n 212 [.inr (.inl 215), .inl x1, .inl x2, .inl x3, .inl x4] wA (vB, wB)) : es_R wB := by
  obtain ⟨b, h8, h1, h2, h3⟩ := hR.1
  have q1 : ec_fd w 15 10 = (b : Int) := h1
  have q2 : ef_a w 152 5 = (b : Int) := h2
  have q3 : ∀ i, i < b → ef_a w 24 i = ef_a w 152 (216 + 4 * i) := h3
  have W0 := hA.1
  obtain ⟨_, w', e, WA, o⟩ := ew_boatA (hb_FE hA)
  injection e with _ e
  rw [← e, q1] at o
  rw [← e] at WA
  rcases o with ⟨p, eA⟩ | ⟨p, eA⟩
  · rw [eA] at hB
    obtain ⟨_, w2, e2, _, o2⟩ := ew_boatB (c := b) q2 h8 (hb_FE hB)
    injection e2 with _ e2
    rw [← e2] at o2
    rcases o2 with ⟨_, eB⟩ | ⟨p2, _⟩
    · rw [eB]
      exact hR
    · exact absurd ⟨p2.1, by have := p2.2; omega⟩ p
  · have c5 : b < 8 := by
      have := p.2
      omega
    unfold ef_addboatA at eA
    have Wa : ec_W hb_A (ec_wr w 24 (b : Int) x1) := ec_W_wr W0
    have Wd : ec_W hb_A (ec_wr (ec_wr (ec_wr (ec_wr w 24 (b : Int) x1) 25 (b : Int) x2) 26 (b : Int) x3) 27 (b : Int) x4) := ec_W_wr (ec_W_wr (ec_W_wr Wa))
    have s1 : ef_s [15, 24, 25, 26, 27] w wA := by
      rw [eA]
      exact ef_s_trans (ef_s_trans (ef_s_trans (ef_s_trans (ef_s_wr (by decide)) (ef_s_wr (by decide))) (ef_s_wr (by decide))) (ef_s_wr (by decide))) (ef_s_pf (by decide))
    have f15 : ec_fd wA 15 10 = ((b + 1 : Nat) : Int) := by
      rw [eA, ec_fd_pf (k := 15) (f := 10) Wd rfl (by decide), if_pos rfl]
      exact ec_twn (n := b + 1) (by omega)
    have a24 : ∀ i, ef_a wA 24 i = if i = b then ec_tw x1 else ef_a w 24 i := by
      intro i
      rw [eA, ef_s_a (ef_s_pf (S := [15]) List.mem_cons_self) (by decide), ef_a_wr_o (by decide), ef_a_wr_o (by decide), ef_a_wr_o (by decide), ef_a_wr (n := 8) W0 rfl (by omega) (by omega)]
      unfold ef_u
      rw [Int.toNat_natCast]
    have d1 : ef_a wA 152 = ef_a w 152 := ef_s_a s1 (by decide)
    obtain ⟨_, w2, e2, _, o2⟩ := ew_boatB (c := b) (w := wA) (by rw [d1]; exact q2) h8 (hb_FE hB)
    injection e2 with _ e2
    rw [← e2] at o2
    rcases o2 with ⟨p2, _⟩ | ⟨_, s2, d2⟩
    · exact absurd ⟨p.1, c5⟩ p2
    · have s12 : ef_s [15, 24, 25, 26, 27, 152] w wB := ef_s_trans (ef_s_mono s1 (by decide)) (ef_s_mono s2 (by decide))
      refine ⟨⟨b + 1, by omega, ?_, ?_, fun i hi => ?_⟩, ?_⟩
      · show ec_fd wB 15 10 = ((b + 1 : Nat) : Int)
        rw [ef_s_f s2 (by decide)]
        exact f15
      · show ef_a wB 152 5 = ((b + 1 : Nat) : Int)
        rw [d2 5, if_pos rfl]
        rfl
      · show ef_a wB 24 i = ef_a wB 152 (216 + 4 * i)
        rw [ef_s_a s2 (by decide), a24 i, d2 (216 + 4 * i), if_neg (by omega : ¬ 216 + 4 * i = 5)]
        by_cases q : i = b
        · rw [if_pos q, if_pos (by omega)]
        · rw [if_neg q, if_neg (by omega), if_neg (by omega), if_neg (by omega), if_neg (by omega), d1]
          exact q3 i (by omega)
      · have k1 : ec_fd wB 0 14 = ec_fd w 0 14 := ef_s_f s12 (by decide) 14
        have k2 : ec_fd wB 151 2 = ec_fd w 151 2 := ef_s_f s12 (by decide) 2
        rcases hR.2 with ⟨g1, g2⟩ | ⟨g1, g2, g3⟩
        · exact .inl ⟨k1.trans g1, k2.trans g2⟩
        · refine .inr ⟨k1.trans g1, k2.trans g2, ej_P_of es_dep (fun q hq => ?_) (fun q hq p hp => ?_) (fun q hq p _ _ => congrFun (ef_s_a s12 (by decide)) p) g3⟩
          · have eq := List.mem_singleton.mp hq
            rw [eq]
            exact ef_s_f s12 (by decide) 10
          · have eq := List.mem_singleton.mp hq
            rw [eq]
            exact congrFun (ef_s_a s12 (by decide)) p
theorem es_f {w w' : px_W} (s : ef_s [151, 169, 170, 171] w w') (f : ∀ g, g < 24 → ec_fd w' 151 g = ec_fd w 151 g) (h : es_R w) : es_R w' := by
  refine ej_RR_of es_dep (ef_s_f s (by decide) 14) (f 2 (by decide)) (fun q hq => ?_) (fun q hq p hp => ?_) (fun q hq p _ _ => ⟨congrFun (ef_s_a s (by decide)) p, congrFun (ef_s_a s (by decide)) p⟩) h
  · have eq := List.mem_singleton.mp hq
    rw [eq]
    exact ⟨ef_s_f s (by decide) 10, ef_s_f s (by decide) 10⟩
  · have eq := List.mem_singleton.mp hq
    rw [eq]
    exact ⟨congrFun (ef_s_a s (by decide)) p, congrFun (ef_s_a s (by decide)) p⟩
def et_RR (w : px_W) : Prop := ek_RR w ∧ es_R w
def et_dc : List (Nat × Nat × Nat) := ek_dc ++ es_dc
theorem et_dc_st {w w' : px_W} (hW : ec_W hb_A w) (hW' : ec_W hb_A w') (h : ∀ p ∈ et_dc, ∀ i, p.2.1 ≤ i → i < p.2.2 → sy_get w' p.1 i = sy_get w p.1 i) (hR : et_RR w) : et_RR w' := ⟨ek_dc_st hW hW' (fun p hp => h p (List.mem_append_left _ hp)) hR.1, es_dc_st hW hW' (fun p hp => h p (List.mem_append_right _ hp)) hR.2⟩
theorem et_frK {Wr : sy_Wr} {w w1 : px_W} (hd : hb_dj Wr ek_dc = true) (hW : ec_W hb_A w) (hW1 : ec_W hb_A w1) (f : ∀ k i : Nat, sy_may Wr k i = false → sy_get w1 k i = sy_get w k i) (hR : ek_RR w) : ek_RR w1 := ek_dc_st hW hW1 (fun p hp i h1 h2 => f p.1 i (hb_dj_ok hd hp h1 h2)) hR
theorem et_frS {Wr : sy_Wr} {w w1 : px_W} (hd : hb_dj Wr es_dc = true) (hW : ec_W hb_A w) (hW1 : ec_W hb_A w1) (f : ∀ k i : Nat, sy_may Wr k i = false → sy_get w1 k i = sy_get w k i) (hR : es_R w) : es_R w1 := es_dc_st hW hW1 (fun p hp i h1 h2 => f p.1 i (hb_dj_ok hd hp h1 h2)) hR
/-! sums -/
def er_sum (f : Nat → Int) : Nat → Int
  | 0 => 0
  | k + 1 => er_sum f k + f k
theorem er_sum_cg {f g : Nat → Int} : ∀ k : Nat, (∀ i, i < k → f i = g i) → er_sum f k = er_sum g k
  | 0, _ => rfl
  | k + 1, h => by
    show er_sum f k + f k = er_sum g k + g k
    rw [h k (Nat.lt_succ_self _), er_sum_cg k (fun i hi => h i (Nat.lt_succ_of_lt hi))]
section ER19
variable {n : Nat} {w w1 : px_W} {v : Option Value}
theorem ew_room (h : ec_E hb_X n 38 0 [(0, .inr (.inl 65))] [] w (v, w1)) : w = w1 ∧ ec_W hb_A w1 ∧ v = ec_R (er_sum (ef_a w 2) 8) := by
  have t8 : ec_tw 8 = 8 := rfl
  have lp : ∀ (k i : Nat), i + k = 8 → ec_E hb_X n 38 4 [(0, .inr (.inl 65)), (1, .inl (er_sum (ef_a w 2) i)), (2, .inl (i : Int))] [] w (v, w1) → (v, w1) = (ec_R (er_sum (ef_a w 2) 8), w) ∧ ec_W hb_A w := by
    intro k
    induction k with
    | zero =>
      intro i hi h
      have l := eg38_1_4_0 h
      rw [t8, ec_twn (n := i) (by omega)] at l
      obtain ⟨_, hr, hW⟩ := l (by omega)
      have ei : i = 8 := by omega
      rw [ei] at hr
      exact ⟨hr, hW⟩
    | succ k ih =>
      intro i hi h
      have l := eg38_1_4_1 h
      rw [t8, ec_twn (n := i) (by omega), ef_rd w 2 i] at l
      exact ih (i + 1) (by omega) (l (by omega)).2
  obtain ⟨hr, hW⟩ := lp 8 0 rfl (eg38_1_0_0 h).2
  injection hr with e1 e2
  rw [e2]
  exact ⟨rfl, hW, e1⟩
theorem ew_seats {b : Nat} (hb : b ≤ 8) (h10 : ec_fd w 15 10 = (b : Int)) (h : ec_E hb_X n 18 0 [(0, .inr (.inl 79))] [] w (v, w1)) : w = w1 ∧ ec_W hb_A w1 ∧ v = ec_R (er_sum (ef_a w 24) b) := by
  have lp : ∀ (k i : Nat), i + k = b → ec_E hb_X n 18 4 [(0, .inr (.inl 79)), (1, .inl (er_sum (ef_a w 24) i)), (2, .inl (i : Int))] [] w (v, w1) → (v, w1) = (ec_R (er_sum (ef_a w 24) b), w) ∧ ec_W hb_A w := by
    intro k
    induction k with
    | zero =>
      intro i hi h
      have l := eg18_15_4_0 h
      rw [h10, ec_twn (n := b) (by omega), ec_twn (n := i) (by omega)] at l
      obtain ⟨_, hr, hW⟩ := l (by omega)
      have ei : i = b := by omega
      rw [ei] at hr
      exact ⟨hr, hW⟩
    | succ k ih =>
      intro i hi h
      have l := eg18_15_4_1 h
      rw [h10, ec_twn (n := b) (by omega), ec_twn (n := i) (by omega), ef_rd w 24 i] at l
      exact ih (i + 1) (by omega) (l (by omega)).2
  obtain ⟨hr, hW⟩ := lp b 0 (by omega) (eg18_15_0_0 h).2
  injection hr with e1 e2
  rw [e2]
  exact ⟨rfl, hW, e1⟩
theorem ew_sumOf {p s m : Nat} (hp : p ≤ 1000) (hs : s ≤ 10) (hm : m ≤ 8) (h : ec_E hb_X n 264 0 [(0, .inr (.inl 215)), (1, .inl (p : Int)), (2, .inl (m : Int)), (3, .inl (s : Int))] [] w (v, w1)) : w = w1 ∧ ec_W hb_A w1 ∧ v = ec_R (er_sum (fun i => ef_a w 152 (p + s * i)) m) := by
  have lp : ∀ (k i : Nat), i + k = m → ec_E hb_X n 264 6 [(0, .inr (.inl 215)), (1, .inl (p : Int)), (2, .inl (m : Int)), (3, .inl (s : Int)), (4, .inl (er_sum (fun i => ef_a w 152 (p + s * i)) i)), (5, .inl (i : Int))] [] w (v, w1) → (v, w1) = (ec_R (er_sum (fun i => ef_a w 152 (p + s * i)) m), w) ∧ ec_W hb_A w := by
    intro k
    induction k with
    | zero =>
      intro i hi h
      have l := eg264_151_6_0 h
      rw [ec_twn (n := m) (by omega), ec_twn (n := i) (by omega)] at l
      obtain ⟨_, hr, hW⟩ := l (by omega)
      have ei : i = m := by omega
      rw [ei] at hr
      exact ⟨hr, hW⟩
    | succ k ih =>
      intro i hi h
      have l := eg264_151_6_1 h
      have b1 : s * i ≤ 10 * 8 := Nat.mul_le_mul hs (by omega)
      have ep : (p : Int) + (s : Int) * (i : Int) = ((p + s * i : Nat) : Int) := by
        rw [Int.natCast_add, Int.natCast_mul]
      rw [ec_twn (n := m) (by omega), ec_twn (n := i) (by omega), ep, ec_twn (n := p + s * i) (by omega), ef_rd w 152 (p + s * i)] at l
      exact ih (i + 1) (by omega) (l (by omega)).2
  obtain ⟨hr, hW⟩ := lp m 0 (by omega) (eg264_151_0_0 h).2
  injection hr with e1 e2
  rw [e2]
  exact ⟨rfl, hW, e1⟩
end ER19
/-! seats .. for: its second number is above 0 -/
theorem er_li_pos {C V : Nat → Int} {H : Bool} {M : Nat → Int} {n0 j a : Nat} {q : er_L} (h : er_li C V H M n0 j = (a, some q)) (h0 : q.1 = 0) : 1 ≤ q.2.2.1 := by
  unfold er_li at h
  by_cases c1 : C j = 310
  · rw [if_pos c1] at h
    split at h
    · split at h
      · split at h
        · rename_i c4
          split at h
          · cases h
            exact c4.2
          · cases h
        · cases h
      · cases h
    · cases h
  · rw [if_neg c1] at h
    by_cases c2 : C j = 312
    · rw [if_pos c2] at h
      cases e : er_fi C 4 0 0 999 (j + 1) with
      | mk b s =>
        rw [e] at h
        cases s with
        | none => cases h
        | some rk =>
          dsimp only at h
          split at h
          · cases h
            exact absurd h0 (by decide : ¬ (1 : Int) = 0)
          · cases h
    · rw [if_neg c2] at h
      by_cases c3 : C j = 314
      · rw [if_pos c3] at h
        by_cases c4 : C (j + 1) = 315
        · rw [if_pos c4] at h
          cases e : er_cd C V H M 4 (j + 2) with
          | mk b s =>
            rw [e] at h
            cases s with
            | none => cases h
            | some s =>
              dsimp only at h
              split at h
              · cases h
                exact absurd h0 (by decide : ¬ (2 : Int) = 0)
              · cases h
        · rw [if_neg c4] at h
          cases h
      · rw [if_neg c3] at h
        cases h
theorem er_rd_pos {C V : Nat → Int} {H : Bool} {M : Nat → Int} : ∀ (f j : Nat) (ls : List er_L) (ss : List Int) (a : Nat) (q : List er_L × List Int), (∀ l ∈ ls, l.1 = 0 → 1 ≤ l.2.2.1) → er_rd C V H M f j ls ss = (a, some q) → ∀ l ∈ q.1, l.1 = 0 → 1 ≤ l.2.2.1
  | 0, j, ls, ss, a, q, hl, h => by
    have erd : er_rd C V H M 0 j ls ss = if C j = 300 then (j, some (ls, ss)) else (j, none) := rfl
    rw [erd] at h
    split at h
    · cases h
      exact hl
    · cases h
  | f + 1, j, ls, ss, a, q, hl, h => by
    have erd : er_rd C V H M (f + 1) j ls ss = if C j = 300 then (j, some (ls, ss)) else (match er_li C V H M ss.length j with
      | (a, none) => (a, none)
      | (a, some q) => er_rd C V H M f a (ls ++ [q]) (ss ++ q.2.2.2.1)) := rfl
    rw [erd] at h
    split at h
    · cases h
      exact hl
    · cases e : er_li C V H M ss.length j with
      | mk b s =>
        rw [e] at h
        cases s with
        | none => cases h
        | some s =>
          refine er_rd_pos f b (ls ++ [s]) (ss ++ s.2.2.2.1) a q (fun l hl' => ?_) h
          rcases List.mem_append.mp hl' with h1 | h1
          · exact hl l h1
          · rw [List.mem_singleton.mp h1]
            exact er_li_pos e
theorem et_lack2 {xs : List Int32} {n : Nat} {w wA wB : px_W} {vA vB : Option Value} {x1 : Int} (hI : hb_I0 w) (hR : et_RR w) (r1 : -2147483648 ≤ x1 ∧ x1 ≤ 2147483647) (hA : ec_F (hb_XL xs) n 157 [.inr (.inl 64), .inl x1] w (vA, wA)) (hB : ec_F (hb_XL xs) n 265 [.inr (.inl 215), .inl x1] wA (vB, wB)) : vA = vB ∧ et_RR wB := by
  obtain ⟨c, hc6, h44', h10', hv⟩ := hR.1.2.1.1
  have h44 : ec_fd w 44 0 = (c : Int) := h44'
  have h10 : ef_a w 152 10 = (c : Int) := h10'
  obtain ⟨b, h8, hb1', hb2', hb3'⟩ := hR.2.1
  have hb1 : ec_fd w 15 10 = (b : Int) := hb1'
  have hb2 : ef_a w 152 5 = (b : Int) := hb2'
  have hb3 : ∀ i, i < b → ef_a w 24 i = ef_a w 152 (216 + 4 * i) := hb3'
  have hrm : eh_r (fun j => ef_a w (1 + j)) (ef_a w 152) := hR.1.1.1.1
  have hr2 : ∀ i, i < 8 → ef_a w 152 (16 + 1 * i) = ef_a w 2 i := fun i hi => by
    have e : 16 + 1 * i = 8 + 8 * 1 + i := by omega
    rw [e]
    exact hrm 1 i (by decide) (by decide) hi (fun z => absurd z (by decide))
  have tx1 : ec_tw x1 = x1 := ec_tw_id r1.1 r1.2
  have t0 : ec_tw 0 = 0 := rfl
  have t5 : ec_tw 5 = ((5 : Nat) : Int) := rfl
  obtain ⟨_, u1, w1, a1, a2⟩ := eg157_0_0_0 (hb_FE hA)
  obtain ⟨i1, W1, e1⟩ := ew_ismA a1
  rw [← i1] at a2 W1
  rw [tx1] at e1
  have a3 := a2 _ e1 W1
  have refQ : wA = w → ec_E hb_X n 265 4 [(0, .inr (.inl 215)), (1, .inl x1)] [.inl (if 0 ≤ x1 ∧ x1 ≤ 999 then 1 else 0)] w (vB, wB) := by
    intro ew
    have hB' := hb_FE hB
    rw [ew] at hB'
    obtain ⟨_, u, y1, b1, b2⟩ := eg265_151_0_0 hB'
    obtain ⟨i, W, e⟩ := ew_ismB b1
    rw [← i] at b2 W
    rw [tx1] at e
    exact b2 _ e W
  by_cases pm : 0 ≤ x1 ∧ x1 ≤ 999
  · rw [if_pos pm] at a3 refQ
    obtain ⟨H0, eH⟩ : ∃ H : Bool, ec_fd w 151 32 = (if H = true then 1 else 0) := ⟨_, ev_h32 hI⟩
    have q45 : ∀ u, u < c → ef_a w 45 u = ef_a w 152 (368 + u) := fun u hu => (hv u hu).1
    have hln : ∀ u, u < c → ef_a w 46 u = (((ef_a w 46 u).toNat : Nat) : Int) ∧ (ef_a w 46 u).toNat ≤ 8 := by
      intro u hu
      obtain ⟨_, N, t, _, _, _, hrd⟩ := hv u hu
      obtain ⟨a, q, erd, kl, _⟩ := hrd H0 (ef_a w 169)
      have hl8 : q.1.length ≤ 8 := er_rd_len 8 0 [] [] a q erd
      have l46 : ef_a w 46 u = (q.1.length : Int) := kl.1
      omega
    -- the class
    obtain ⟨_, u2, w2, a4, a5⟩ := eg157_0_4_0 a3 (by decide)
    obtain ⟨i2, W2, e2⟩ := ew_room a4
    rw [← i2] at a5 W2
    obtain ⟨_, u3, w3, a6, a7⟩ := eg157_0_21_0 (a5 _ e2 W2)
    have sd : ∃ z : Int, u3 = ec_R z ∧ w3 = w ∧ ec_W hb_A w ∧ ∀ q : List er_L × List Int, ((er_vm (fun u => ef_a w 152 (368 + u)) x1 c = none ∧ q = ([], [])) ∨ ∃ u, u < c ∧ er_vm (fun u => ef_a w 152 (368 + u)) x1 c = some u ∧ q.1.length ≤ 8 ∧ er_KLp (fun k p => ef_a w (k + 0) p) u q.1 ∧ ∀ l ∈ q.1, l.1 = 0 → 1 ≤ l.2.2.1) → z = (er_se q.1).1 * ec_dv (er_sum (ef_a w 2) 8) (er_se q.1).2 := by
      obtain ⟨_, u4, w4, b1, b2⟩ := eg79_44_0_0 a6
      obtain ⟨i4, W4, m4⟩ := ew_lln (Ln := fun u => (ef_a w 46 u).toNat) hc6 h44 hln b1
      rw [← i4] at b2 W4
      rw [tx1, t0] at m4
      have evm : er_vm (ef_a w 45) x1 c = er_vm (fun u => ef_a w 152 (368 + u)) x1 c := er_vm_cg c q45
      rw [evm] at m4
      have m4 : (er_vm (fun u => ef_a w 152 (368 + u)) x1 c = none ∧ u4 = ec_R (-1)) ∨ ∃ u, er_vm (fun u => ef_a w 152 (368 + u)) x1 c = some u ∧ u < c ∧ u4 = ec_R (er_ol u (er_ll (fun i => ef_a w 47 (u * 8 + i)) 0 (ef_a w 46 u).toNat)) := m4
      have zer : ∀ s0 : Int, ec_tw s0 < 0 → u4 = ec_R s0 → (u3, w3) = (ec_R 0, w) ∧ ec_W hb_A w := by
        intro s0 hs es
        have l := eg79_44_6_0 (b2 _ es W4)
        rw [t0] at l
        obtain ⟨_, hr, hW⟩ := l hs
        exact ⟨hr, hW⟩
      rcases m4 with ⟨m5, e4⟩ | ⟨u, m5, hu, e4⟩
      · obtain ⟨hr, hW⟩ := zer (-1) (by decide) e4
        injection hr with f1 f2
        refine ⟨0, f1, f2, hW, fun q hq => ?_⟩
        rcases hq with ⟨_, eq⟩ | ⟨u, _, g6, _⟩
        · rw [eq]
          exact (Int.zero_mul _).symm
        · rw [m5] at g6
          cases g6
      · have go : ∀ q : List er_L, er_KLp (fun k p => ef_a w (k + 0) p) u q → (ef_a w 46 u).toNat = q.length ∧ er_ll (fun i => ef_a w 47 (u * 8 + i)) 0 (ef_a w 46 u).toNat = er_ll (fun i => (q.map (fun q => q.1)).getD i 0) 0 q.length := by
          intro q kq
          have l46 : ef_a w 46 u = (q.length : Int) := kq.1
          have el : (ef_a w 46 u).toNat = q.length := by omega
          rw [el]
          exact ⟨rfl, er_ll_cg q.length (fun i hi => (kq.2 i hi).1)⟩
        cases el : er_ll (fun i => ef_a w 47 (u * 8 + i)) 0 (ef_a w 46 u).toNat with
        | none =>
          rw [el] at e4
          obtain ⟨hr, hW⟩ := zer (-1) (by decide) e4
          injection hr with f1 f2
          refine ⟨0, f1, f2, hW, fun q hq => ?_⟩
          rcases hq with ⟨g6, _⟩ | ⟨u', _, g6, g7, g8, _⟩
          · rw [m5] at g6
            cases g6
          · rw [m5] at g6
            cases g6
            obtain ⟨_, go2⟩ := go q.1 g8
            rw [el] at go2
            rcases er_lst er_se 0 (0, 1) (fun q => (q.2.1, q.2.2.1)) rfl er_se_s q.1 with ⟨_, g⟩ | ⟨i, _, g, _⟩
            · rw [g]
              exact (Int.zero_mul _).symm
            · rw [g] at go2
              cases go2
        | some i =>
          rw [el] at e4
          have e4' : u4 = ec_R ((u * 8 + i : Nat) : Int) := e4
          obtain ⟨_, N, t, _, _, _, hrd⟩ := hv u hu
          obtain ⟨a, q0, erd0, kl0, _⟩ := hrd H0 (ef_a w 169)
          have h80 : q0.1.length ≤ 8 := er_rd_len 8 0 [] [] a q0 erd0
          have pos0 := er_rd_pos 8 0 [] [] a q0 (fun l hl => absurd hl List.not_mem_nil) erd0
          have atq : ∀ q : List er_L, er_KLp (fun k p => ef_a w (k + 0) p) u q → (∀ l ∈ q, l.1 = 0 → 1 ≤ l.2.2.1) → i < q.length ∧ ef_a w 48 (u * 8 + i) = (er_se q).1 ∧ ef_a w 49 (u * 8 + i) = (er_se q).2 ∧ 1 ≤ (er_se q).2 := by
            intro q kq pos
            obtain ⟨_, go2⟩ := go q kq
            rw [el] at go2
            rcases er_lst er_se 0 (0, 1) (fun q => (q.2.1, q.2.2.1)) rfl er_se_s q with ⟨g, _⟩ | ⟨i', ql, g, gi, gq, g1, gv⟩
            · rw [g] at go2
              cases go2
            · rw [g] at go2
              cases go2
              have o1 : ef_a w 48 (u * 8 + i) = (q.map er_o1).getD i 0 := (kq.2 i gi).2.1
              have o2 : ef_a w 49 (u * 8 + i) = (q.map er_o2).getD i 0 := (kq.2 i gi).2.2
              rw [er_mg gq] at o1 o2
              have p1 : er_o1 ql = ql.2.1 := by
                unfold er_o1
                rw [if_neg (by omega)]
              have p2 : er_o2 ql = ql.2.2.1 := by
                unfold er_o2
                rw [if_neg (by omega)]
              rw [gv]
              exact ⟨gi, o1.trans p1, o2.trans p2, pos ql (List.mem_of_getElem? gq) g1⟩
          obtain ⟨hi0, _, s2, s3⟩ := atq q0.1 kl0 pos0
          have l := eg79_44_6_1 (b2 _ e4' W4)
          rw [t0, ec_twn (n := u * 8 + i) (by omega), ef_rd w 49 (u * 8 + i), ef_rd w 48 (u * 8 + i), ef_tw w 49 (u * 8 + i)] at l
          obtain ⟨_, hr, hW⟩ := l (by omega) (by omega)
          injection hr with f1 f2
          refine ⟨_, f1, f2, hW, fun q hq => ?_⟩
          rcases hq with ⟨g6, _⟩ | ⟨u', _, g6, g7, g8, g9⟩
          · rw [m5] at g6
            cases g6
          · rw [m5] at g6
            cases g6
            obtain ⟨_, z1, z2, _⟩ := atq q.1 g8 g9
            rw [z1, z2]
    obtain ⟨z, e3, i3, W3, hz⟩ := sd
    rw [i3] at a7
    obtain ⟨_, u5, w5, a8, a9⟩ := eg157_0_24_0 (a7 _ e3 W3)
    obtain ⟨i5, W5, e5⟩ := ew_seats h8 hb1 a8
    rw [← i5] at a9 W5
    obtain ⟨_, hr, _⟩ := eg157_0_31_0 (a9 _ e5 W5)
    injection hr with f1 g1
    -- the reference
    obtain ⟨_, u6, w6, c1, c2⟩ := eg265_151_4_0 (refQ g1) (by decide)
    obtain ⟨g2, g3, g4, g5, q, g6, g7⟩ := ew_rdf hc6 h10 (fun u hu => (hv u hu).2) hR.1.2.2.2 eH c1
    rw [tx1] at g7
    have d6 : ef_a w6 152 = ef_a w 152 := ef_s_a g4 (by decide)
    have zq := hz q (by
      rcases g7 with g7 | ⟨u, m1, m2, m3, m4, _, N, t, a, _, _, erd⟩
      · exact .inl g7
      · exact .inr ⟨u, m1, m2, m3, m4, er_rd_pos 8 0 [] [] a q (fun l hl => absurd hl List.not_mem_nil) erd⟩)
    obtain ⟨_, u7, w7, c3, c4⟩ := eg265_151_14_0 (c2 g2 g3)
    obtain ⟨i7, W7, e7⟩ := ew_sumOf (p := 16) (s := 1) (m := 8) (by decide) (by decide) (by decide) c3
    rw [← i7] at c4 W7
    have s7 : er_sum (fun i => ef_a w6 152 (16 + 1 * i)) 8 = er_sum (ef_a w 2) 8 := er_sum_cg 8 (fun i hi => by rw [d6]; exact hr2 i hi)
    rw [s7] at e7
    have l27 := eg265_151_27_0 (c4 _ e7 W7)
    rw [t5, ef_rd w6 152 5, d6, hb2] at l27
    obtain ⟨_, u8, w8, c5, c6⟩ := l27
    obtain ⟨i8, W8, e8⟩ := ew_sumOf (p := 216) (s := 4) (m := b) (by decide) (by decide) h8 c5
    rw [← i8] at c6 W8
    have s8 : er_sum (fun i => ef_a w6 152 (216 + 4 * i)) b = er_sum (ef_a w 24) b := er_sum_cg b (fun i hi => by rw [d6]; exact (hb3 i hi).symm)
    rw [s8] at e8
    have m := c6 _ e8 W8
    rw [g6.2.1.1, g6.2.1.2, ← zq] at m
    have R6 : et_RR w6 := ⟨ek_f g4 g5 hR.1, es_f g4 g5 hR.2⟩
    have mx : ec_mx 0 (z - er_sum (ef_a w 24) b) = if 0 < ec_tw (z - er_sum (ef_a w 24) b) then z - er_sum (ef_a w 24) b else 0 := rfl
    rw [mx] at f1
    by_cases pz : 0 < ec_tw (z - er_sum (ef_a w 24) b)
    · rw [if_pos pz] at f1
      have k := eg265_151_47_1 m
      rw [t0] at k
      obtain ⟨_, hr9, _⟩ := k pz
      injection hr9 with f9 g9
      rw [g9]
      exact ⟨f1.trans f9.symm, R6⟩
    · rw [if_neg pz] at f1
      have k := eg265_151_47_0 m
      rw [t0] at k
      obtain ⟨_, hr9, _⟩ := k (by omega)
      injection hr9 with f9 g9
      rw [g9]
      exact ⟨f1.trans f9.symm, R6⟩
  · rw [if_neg pm] at a3 refQ
    obtain ⟨_, hr, _⟩ := eg157_0_4_1 a3 rfl
    injection hr with f1 g1
    obtain ⟨_, hr2, _⟩ := eg265_151_4_1 (refQ g1) rfl
    injection hr2 with f2 g2
    rw [g2]
    exact ⟨f1.trans f2.symm, hR⟩

end
