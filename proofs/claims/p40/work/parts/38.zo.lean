noncomputable section
/-! RULES: the class's reader, its blocks -/
/-- the steps of slot c -/
def er_Cs (w : px_W) (c : Nat) (L : List Int) : Prop := ef_a w 51 c = ((min 64 L.length : Nat) : Int) ∧ ∀ i, i < min 64 L.length → ef_a w 50 (c * 64 + i) = L.getD i 0
/-- what may change while a condition is read into slot c -/
def er_kf (c : Nat) (w w' : px_W) : Prop := ef_s [137, 50, 51] w w' ∧ (∀ f, f ≠ 6 → f ≠ 7 → ec_fd w' 137 f = ec_fd w 137 f) ∧ (∀ v, v ≠ c → ef_a w' 51 v = ef_a w 51 v) ∧ ∀ i, (i < c * 64 ∨ c * 64 + 64 ≤ i) → ef_a w' 50 i = ef_a w 50 i
theorem er_kf_r {c : Nat} {w : px_W} : er_kf c w w := ⟨ef_s_refl, fun _ _ _ => rfl, fun _ _ => rfl, fun _ _ => rfl⟩
theorem er_kf_t {c : Nat} {w w1 w2 : px_W} (h1 : er_kf c w w1) (h2 : er_kf c w1 w2) : er_kf c w w2 := ⟨ef_s_trans h1.1 h2.1, fun f a b => (h2.2.1 f a b).trans (h1.2.1 f a b), fun v a => (h2.2.2.1 v a).trans (h1.2.2.1 v a), fun i a => (h2.2.2.2 i a).trans (h1.2.2.2 i a)⟩
/-- the class stands at token j, and there was no FAULT; L: the steps so far -/
def er_K (w : px_W) (C V : Nat → Int) (P : Nat → Nat) (J c : Nat) (L : List Int) (j : Nat) : Prop := ((∀ j, j ≤ J → ef_a w 139 j = C j ∧ ef_a w 140 j = (P j : Int) ∧ ef_a w 141 j = V j) ∧ ec_fd w 44 0 = (c : Int)) ∧ ec_fd w 137 6 = (j : Int) ∧ j ≤ J ∧ ec_fd w 137 7 = -1 ∧ er_Cs w c L
theorem er_K_s {w w' : px_W} {C V : Nat → Int} {P : Nat → Nat} {J c j k : Nat} {L L' : List Int} (h : er_K w C V P J c L j) (hf : er_kf c w w') (h6 : ec_fd w' 137 6 = (k : Int)) (hk : k ≤ J) (h7 : ec_fd w' 137 7 = -1) (hs : er_Cs w' c L') : er_K w' C V P J c L' k := by
  refine ⟨⟨fun j hj => ?_, (ef_s_f hf.1 (by decide) 0).trans h.1.2⟩, h6, hk, h7, hs⟩
  rw [ef_s_a hf.1 (by decide), ef_s_a hf.1 (by decide), ef_s_a hf.1 (by decide)]
  exact h.1.1 j hj
section ER9
variable {C V : Nat → Int} {P : Nat → Nat} {J c : Nat} {L : List Int}
theorem er_Cs_s {w w' : px_W} (s : ef_s [137] w w') (h : er_Cs w c L) : er_Cs w' c L := by
  unfold er_Cs
  rw [ef_s_a s (by decide), ef_s_a s (by decide)]
  exact h
/-- what it reads at its token -/
theorem er_K_at {w : px_W} {j : Nat} (hJ2 : J ≤ 200) (h : er_K w C V P J c L j) : ec_rd w 139 (ec_tw (ec_fd w 137 6)) = C j ∧ ec_rd w 140 (ec_tw (ec_fd w 137 6)) = (P j : Int) ∧ ec_rd w 141 (ec_tw (ec_fd w 137 6)) = V j ∧ ec_tw (C j) = C j ∧ ec_tw (V j) = V j ∧ ec_tw (P j : Int) = (P j : Int) := by
  obtain ⟨⟨ha, _⟩, h6, hj, _, _⟩ := h
  have q := ha j hj
  have e : ec_tw (ec_fd w 137 6) = (j : Int) := by
    rw [ec_tw_fd]
    exact h6
  rw [e]
  refine ⟨q.1, q.2.1, q.2.2, ?_, ?_, ?_⟩
  · rw [← q.1]
    exact ef_tw _ _ _
  · rw [← q.2.2]
    exact ef_tw _ _ _
  · rw [← q.2.1]
    exact ef_tw _ _ _
theorem ew_adv {w : px_W} {j : Nat} (hJ2 : J ≤ 200) (hJ : C J = 300) (hW : ec_W hb_A w) (h : er_K w C V P J c L j) (hc : C j ≠ 300) : ec_W hb_A (ec_pf w 137 6 (ec_fd w 137 6 + 1)) ∧ er_kf c w (ec_pf w 137 6 (ec_fd w 137 6 + 1)) ∧ er_K (ec_pf w 137 6 (ec_fd w 137 6 + 1)) C V P J c L (j + 1) := by
  have hlt : j < J := by
    have hj := h.2.2.1
    have hne : j ≠ J := fun e => hc (by rw [e]; exact hJ)
    omega
  have h6 := h.2.1
  have F : ∀ g, ec_fd (ec_pf w 137 6 (ec_fd w 137 6 + 1)) 137 g = if g = 6 then ec_tw (ec_fd w 137 6 + 1) else ec_fd w 137 g := fun g => ec_fd_pf (k := 137) (f := 6) hW rfl (by decide)
  have s0 : ef_s [137] w (ec_pf w 137 6 (ec_fd w 137 6 + 1)) := ef_s_pf (by decide)
  have kf : er_kf c w (ec_pf w 137 6 (ec_fd w 137 6 + 1)) := ⟨ef_s_mono s0 (by decide), fun f a _ => by rw [F f, if_neg a], fun v _ => by rw [ef_s_a s0 (by decide)], fun i _ => by rw [ef_s_a s0 (by decide)]⟩
  refine ⟨ec_W_pf (k := 137) (f := 6) rfl rfl hW, kf, er_K_s h kf ?_ (by omega) ?_ (er_Cs_s s0 h.2.2.2.2)⟩
  · rw [F 6, if_pos rfl, h6]
    exact ec_twn (n := j + 1) (by omega)
  · rw [F 7, if_neg (by decide)]
    exact h.2.2.2.1
/-- the place of its token is the FAULT -/
theorem ew_flt {w : px_W} {j : Nat} (hJ2 : J ≤ 200) (hW : ec_W hb_A w) (h : er_K w C V P J c L j) : er_kf c w (ec_pf w 137 7 (ec_rd w 140 (ec_tw (ec_fd w 137 6)))) ∧ ec_fd (ec_pf w 137 7 (ec_rd w 140 (ec_tw (ec_fd w 137 6)))) 137 7 = (P j : Int) := by
  obtain ⟨_, a2, _, _, _, a6⟩ := er_K_at hJ2 h
  have F : ∀ g, ec_fd (ec_pf w 137 7 (ec_rd w 140 (ec_tw (ec_fd w 137 6)))) 137 g = if g = 7 then ec_tw (ec_rd w 140 (ec_tw (ec_fd w 137 6))) else ec_fd w 137 g := fun g => ec_fd_pf (k := 137) (f := 7) hW rfl (by decide)
  have s0 : ef_s [137] w (ec_pf w 137 7 (ec_rd w 140 (ec_tw (ec_fd w 137 6)))) := ef_s_pf (by decide)
  refine ⟨⟨ef_s_mono s0 (by decide), fun f _ a => by rw [F f, if_neg a], fun v _ => by rw [ef_s_a s0 (by decide)], fun i _ => by rw [ef_s_a s0 (by decide)]⟩, ?_⟩
  rw [F 7, if_pos rfl, a2]
  exact a6
theorem ew_fh {n j : Nat} {w w1 : px_W} {v : Option Value} (hJ2 : J ≤ 200) (hK : er_K w C V P J c L j) (h : ec_E hb_X n 61 0 [(0, .inr (.inl 201))] [] w (v, w1)) : v = ec_R 0 ∧ ec_W hb_A w1 ∧ er_kf c w w1 ∧ ec_fd w1 137 7 = (P j : Int) := by
  obtain ⟨f1, f2⟩ := ew_flt hJ2 h.1 hK
  obtain ⟨_, hr, hW⟩ := eg61_137_0_0 h
  injection hr with e1 e2
  rw [e2]
  exact ⟨e1, hW, f1, f2⟩
theorem ew_tkn {n j : Nat} {w w1 : px_W} {v : Option Value} {x : Int} (hJ2 : J ≤ 200) (hJ : C J = 300) (hK : er_K w C V P J c L j) (tx : ec_tw x = x) (hx : x ≠ 300) (h : ec_E hb_X n 62 0 [(0, .inr (.inl 201)), (1, .inl x)] [] w (v, w1)) : ∃ z : Int, v = ec_R z ∧ ec_W hb_A w1 ∧ er_kf c w w1 ∧ (C j = x → z = 1 ∧ er_K w1 C V P J c L (j + 1)) ∧ (C j ≠ x → z = 0 ∧ ec_fd w1 137 7 = (P j : Int)) := by
  have hW := h.1
  obtain ⟨a1, a2, a3, a4, a5, a6⟩ := er_K_at hJ2 hK
  have t3 : ec_tw 300 = 300 := rfl
  have k0 := eg62_137_0_0 h
  have k1 := eg62_137_0_1 h
  rw [a1, a4, tx] at k0 k1
  rw [t3] at k1
  by_cases q : C j = x
  · obtain ⟨_, hr, hW'⟩ := k1 q hx
    obtain ⟨b1, b2, b3⟩ := ew_adv hJ2 hJ hW hK (by rw [q]; exact hx)
    injection hr with e1 e2
    rw [e2]
    exact ⟨_, e1, hW', b2, fun _ => ⟨rfl, b3⟩, fun e => absurd q e⟩
  · obtain ⟨f1, f2⟩ := ew_flt hJ2 hW hK
    obtain ⟨_, hr, hW'⟩ := k0 q
    injection hr with e1 e2
    rw [e2]
    exact ⟨_, e1, hW', f1, fun e => absurd e q, fun _ => ⟨rfl, f2⟩⟩
theorem ew_tnm {n j : Nat} {w w1 : px_W} {v : Option Value} {z : Int} (hJ2 : J ≤ 200) (hJ : C J = 300) (hK : er_K w C V P J c L j) (tz : ec_tw z = z) (h : ec_E hb_X n 63 0 [(0, .inr (.inl 201)), (1, .inl z)] [] w (v, w1)) : ∃ x : Int, v = ec_R x ∧ ec_W hb_A w1 ∧ er_kf c w w1 ∧ ((C j = 301 ∧ z ≤ V j) → x = V j ∧ er_K w1 C V P J c L (j + 1)) ∧ (¬ (C j = 301 ∧ z ≤ V j) → x = -1 ∧ ec_fd w1 137 7 = (P j : Int)) := by
  have hW := h.1
  obtain ⟨a1, a2, a3, a4, a5, a6⟩ := er_K_at hJ2 hK
  have t3 : ec_tw 301 = 301 := rfl
  have k0 := eg63_137_0_0 h
  have k1 := eg63_137_0_1 h
  have k2 := eg63_137_0_2 h
  rw [a1, a4, t3] at k0 k1 k2
  rw [a3, a5, tz] at k1 k2
  by_cases q : C j = 301
  · by_cases q2 : z ≤ V j
    · obtain ⟨_, hr, hW'⟩ := k1 q q2
      obtain ⟨b1, b2, b3⟩ := ew_adv hJ2 hJ hW hK (by rw [q]; decide)
      have F6 : ec_fd (ec_pf w 137 6 (ec_fd w 137 6 + 1)) 137 6 = ((j + 1 : Nat) : Int) := b3.2.1
      have es : (((j + 1 : Nat) : Int) - 1) = (j : Int) := by omega
      have hj := hK.2.2.1
      have er : ec_rd (ec_pf w 137 6 (ec_fd w 137 6 + 1)) 141 (j : Int) = V j := (b3.1.1 j hj).2.2
      rw [F6, es, ec_twn (n := j) (by omega), er] at hr
      injection hr with e1 e2
      rw [e2]
      exact ⟨_, e1, hW', b2, fun _ => ⟨rfl, b3⟩, fun e => absurd ⟨q, q2⟩ e⟩
    · obtain ⟨f1, f2⟩ := ew_flt hJ2 hW hK
      obtain ⟨_, hr, hW'⟩ := k2 q (by omega)
      injection hr with e1 e2
      rw [e2]
      exact ⟨_, e1, hW', f1, fun e => absurd e.2 q2, fun _ => ⟨rfl, f2⟩⟩
  · obtain ⟨f1, f2⟩ := ew_flt hJ2 hW hK
    obtain ⟨_, hr, hW'⟩ := k0 q
    injection hr with e1 e2
    rw [e2]
    exact ⟨_, e1, hW', f1, fun e => absurd e.1 q, fun _ => ⟨rfl, f2⟩⟩
theorem ew_ast {n j : Nat} {w w1 : px_W} {v : Option Value} {x : Int} (hc6 : c ≤ 6) (hK : er_K w C V P J c L j) (tx : ec_tw x = x) (h : ec_E hb_X n 76 0 [(0, .inr (.inl 108)), (1, .inl x)] [] w (v, w1)) : v = none ∧ ec_W hb_A w1 ∧ er_kf c w w1 ∧ er_K w1 C V P J c (L ++ [x]) j := by
  have hW := h.1
  have ll : (L ++ [x]).length = L.length + 1 := by
    rw [List.length_append]
    rfl
  have tc : ec_tw (ec_fd w 44 0) = (c : Int) := by
    rw [ec_tw_fd]
    exact hK.1.2
  have t64 : ec_tw 64 = 64 := rfl
  have r51 : ec_rd w 51 (c : Int) = ((min 64 L.length : Nat) : Int) := hK.2.2.2.2.1
  have k0 := eg76_44_0_0 h
  have k1 := eg76_44_0_1 h
  have g1 : ∀ (i z : Int), ec_fd (ec_wr w 50 i z) 44 0 = ec_fd w 44 0 := fun _ _ => ec_fd_wr_o (by decide)
  have g2 : ∀ (i z y : Int), ec_rd (ec_wr w 50 i z) 51 y = ec_rd w 51 y := fun _ _ _ => ec_rd_wr_o (by decide)
  simp only [g1, g2, tc, r51, t64] at k0 k1
  rw [ec_twn (n := min 64 L.length) (by omega)] at k0 k1
  by_cases q : L.length < 64
  · have em : min 64 L.length = L.length := by omega
    have em2 : min 64 (L ++ [x]).length = L.length + 1 := by
      rw [ll]
      omega
    have ep : ec_fd w 44 0 * 64 + ((min 64 L.length : Nat) : Int) = ((c * 64 + L.length : Nat) : Int) := by
      rw [hK.1.2, em]
      omega
    rw [ep, ec_twn (n := c * 64 + L.length) (by omega)] at k1
    obtain ⟨_, hr, hW'⟩ := k1 (by omega)
    injection hr with e1 e2
    have Wa : ec_W hb_A (ec_wr w 50 ((c * 64 + L.length : Nat) : Int) x) := ec_W_wr hW
    have s0 : ef_s [137, 50, 51] w (ec_wr (ec_wr w 50 ((c * 64 + L.length : Nat) : Int) x) 51 (c : Int) (((min 64 L.length : Nat) : Int) + 1)) := ef_s_trans (ef_s_wr (by decide)) (ef_s_wr (by decide))
    have r50 : ∀ i, ef_a (ec_wr (ec_wr w 50 ((c * 64 + L.length : Nat) : Int) x) 51 (c : Int) (((min 64 L.length : Nat) : Int) + 1)) 50 i = if i = c * 64 + L.length then x else ef_a w 50 i := by
      intro i
      rw [ef_a_wr_o (by decide), ef_a_wr (n := 448) hW rfl (by omega) (by omega), tx]
      unfold ef_u
      rw [Int.toNat_natCast]
    have r51' : ∀ i, ef_a (ec_wr (ec_wr w 50 ((c * 64 + L.length : Nat) : Int) x) 51 (c : Int) (((min 64 L.length : Nat) : Int) + 1)) 51 i = if i = c then ((min 64 (L ++ [x]).length : Nat) : Int) else ef_a w 51 i := by
      intro i
      have ev : ec_tw (((min 64 L.length : Nat) : Int) + 1) = ((min 64 (L ++ [x]).length : Nat) : Int) := by
        rw [em2, em]
        exact ec_twn (n := L.length + 1) (by omega)
      rw [ef_a_wr (n := 7) Wa rfl (by omega) (by omega), ev, ef_a_wr_o (by decide)]
      unfold ef_u
      rw [Int.toNat_natCast]
    have kf : er_kf c w (ec_wr (ec_wr w 50 ((c * 64 + L.length : Nat) : Int) x) 51 (c : Int) (((min 64 L.length : Nat) : Int) + 1)) := ⟨s0, fun f _ _ => by rw [ec_fd_wr_o (by decide), ec_fd_wr_o (by decide)], fun v hv => by rw [r51' v, if_neg hv], fun i hi => by rw [r50 i, if_neg (by omega)]⟩
    rw [e2]
    refine ⟨e1, hW', kf, er_K_s hK kf (by rw [ec_fd_wr_o (by decide), ec_fd_wr_o (by decide)]; exact hK.2.1) hK.2.2.1 (by rw [ec_fd_wr_o (by decide), ec_fd_wr_o (by decide)]; exact hK.2.2.2.1) ⟨by rw [r51' c, if_pos rfl], fun i hi => ?_⟩⟩
    rw [em2] at hi
    rw [r50 (c * 64 + i)]
    by_cases e : i = L.length
    · rw [if_pos (by rw [e]), e, List.getD_eq_getElem?_getD, List.getElem?_append_right (Nat.le_refl _), Nat.sub_self]
      rfl
    · rw [if_neg (by omega), hK.2.2.2.2.2 i (by omega), List.getD_eq_getElem?_getD, List.getD_eq_getElem?_getD, List.getElem?_append_left (by omega)]
  · obtain ⟨_, hr, hW'⟩ := k0 (by omega)
    injection hr with e1 e2
    rw [e2]
    have em : min 64 L.length = 64 := by omega
    have em2 : min 64 (L ++ [x]).length = 64 := by
      rw [ll]
      omega
    refine ⟨e1, hW', er_kf_r, hK.1, hK.2.1, hK.2.2.1, hK.2.2.2.1, by rw [em2, hK.2.2.2.2.1, em], fun i hi => ?_⟩
    rw [em2] at hi
    rw [hK.2.2.2.2.2 i (by omega), List.getD_eq_getElem?_getD, List.getD_eq_getElem?_getD, List.getElem?_append_left (by omega)]
end ER9

end
