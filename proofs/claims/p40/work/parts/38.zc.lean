noncomputable section
/-! RULES: the reference's tokens -/
/-- where its bytes stand -/
def er_Sr (w : px_W) (N : Nat) (t : Nat → Int) : Prop := ec_fd w 151 25 = (N : Int) ∧ ((ec_fd w 151 24 < 0 ∧ ∀ y, y < N → ef_a w 154 y = t y) ∨ ∃ f : Nat, ec_fd w 151 24 = (f : Int) ∧ f ≤ 1380 ∧ ∀ y, y < N → ef_a w 152 (f + y) = t y)
theorem er_Sr_s {w w' : px_W} {N : Nat} {t : Nat → Int} (h : er_Sr w N t) (s : ef_s [151] w w') (f1 : ec_fd w' 151 25 = ec_fd w 151 25) (f2 : ec_fd w' 151 24 = ec_fd w 151 24) : er_Sr w' N t := by
  refine ⟨f1.trans h.1, ?_⟩
  rcases h.2 with ⟨a, b⟩ | ⟨f, a, b, d⟩
  · refine .inl ⟨by rw [f2]; exact a, ?_⟩
    rw [ef_s_a s (by decide)]
    exact b
  · refine .inr ⟨f, f2.trans a, b, ?_⟩
    rw [ef_s_a s (by decide)]
    exact d
section ER2
variable {N : Nat} {t : Nat → Int}
theorem ew_by {k n : Nat} {w w1 : px_W} {v : Option Value} (hN : N ≤ 200) (hk : k ≤ 2000) (h : er_Sr w N t) (hE : ec_E hb_X n 248 0 [(0, .inr (.inl 215)), (1, .inl (k : Int))] [] w (v, w1)) : w = w1 ∧ ec_W hb_A w1 ∧ v = ec_R (if k < N then t k else -1) := by
  have tk : ec_tw (k : Int) = k := ec_twn (by omega)
  have tN : ec_tw (N : Int) = N := ec_twn (by omega)
  have t0 : ec_tw 0 = 0 := rfl
  obtain ⟨h1, h2⟩ := h
  have k0 := eg248_151_0_0 hE
  have k1 := eg248_151_0_1 hE
  have k2 := eg248_151_0_2 hE
  rw [h1, tk, tN] at k0 k1 k2
  by_cases c : k < N
  · rw [if_pos c]
    rcases h2 with ⟨a, b⟩ | ⟨f, a, b, d⟩
    · rw [ec_tw_fd, t0] at k1
      obtain ⟨_, hr, hW⟩ := k1 (by omega) a
      injection hr with e1 e2
      rw [ef_rd w 154 k, b k c] at e1
      rw [e2]
      exact ⟨rfl, hW, e1⟩
    · have es : (f : Int) + (k : Int) = ((f + k : Nat) : Int) := rfl
      rw [a, t0, ec_twn (n := f) (by omega), es, ec_twn (n := f + k) (by omega)] at k0
      obtain ⟨_, hr, hW⟩ := k0 (by omega) (by omega)
      injection hr with e1 e2
      rw [ef_rd w 152 (f + k), d k c] at e1
      rw [e2]
      exact ⟨rfl, hW, e1⟩
  · rw [if_neg c]
    obtain ⟨_, hr, hW⟩ := k2 (by omega)
    injection hr with e1 e2
    rw [e2]
    exact ⟨rfl, hW, e1⟩
end ER2
/-! which word it is -/
def er_wf (t : Nat → Int) (b e : Nat) : List Int → Nat → Nat → Bool → Option Nat → Option Nat
  | [], _, _, _, m => m
  | c :: l, k, i, s, m => if c = 0 then er_wf t b e l (k + 1) b true (if s = true ∧ i = e then some k else m) else er_wf t b e l k (i + 1) (s && decide (i < e ∧ t i = c)) m
theorem er_wf_w {t : Nat → Int} {b e : Nat} {l : List Int} : ∀ (a : List Int) (k i : Nat) (s : Bool) (m : Option Nat), (∀ c ∈ a, c ≠ 0) → er_wf t b e (a ++ 0 :: l) k i s m = er_wf t b e l (k + 1) b true (if s = true ∧ (∀ y, y < a.length → t (i + y) = a.getD y 0) ∧ i + a.length = e then some k else m)
  | [], k, i, s, m, _ => by
    show (if (0 : Int) = 0 then er_wf t b e l (k + 1) b true (if s = true ∧ i = e then some k else m) else _) = _
    rw [if_pos rfl]
    by_cases q : s = true ∧ i = e
    · rw [if_pos q, if_pos ⟨q.1, fun y hy => absurd hy (Nat.not_lt_zero _), q.2⟩]
    · rw [if_neg q, if_neg (fun x => q ⟨x.1, x.2.2⟩)]
  | c :: a, k, i, s, m, h => by
    have hc := h c List.mem_cons_self
    show (if c = 0 then _ else er_wf t b e (a ++ 0 :: l) k (i + 1) (s && decide (i < e ∧ t i = c)) m) = _
    rw [if_neg hc, er_wf_w a k (i + 1) _ m (fun d hd => h d (List.mem_cons_of_mem _ hd))]
    have iff : ((s && decide (i < e ∧ t i = c)) = true ∧ (∀ y, y < a.length → t (i + 1 + y) = a.getD y 0) ∧ i + 1 + a.length = e) ↔ (s = true ∧ (∀ y, y < (c :: a).length → t (i + y) = (c :: a).getD y 0) ∧ i + (c :: a).length = e) := by
      have hl : (c :: a).length = a.length + 1 := rfl
      rw [Bool.and_eq_true, decide_eq_true_iff, hl]
      constructor
      · rintro ⟨⟨h1, h2, h3⟩, h4, h5⟩
        refine ⟨h1, fun y hy => ?_, by omega⟩
        cases y with
        | zero => exact h3
        | succ y =>
          have h6 := h4 y (by omega)
          have e1 : i + (y + 1) = i + 1 + y := by omega
          rw [e1]
          exact h6
      · rintro ⟨h1, h2, h3⟩
        refine ⟨⟨h1, by omega, h2 0 (by omega)⟩, fun y hy => ?_, by omega⟩
        have h6 := h2 (y + 1) (by omega)
        have e1 : i + (y + 1) = i + 1 + y := by omega
        rw [e1] at h6
        exact h6
    by_cases q : s = true ∧ (∀ y, y < (c :: a).length → t (i + y) = (c :: a).getD y 0) ∧ i + (c :: a).length = e
    · rw [if_pos q, if_pos (iff.mpr q)]
    · rw [if_neg q, if_neg (fun x => q (iff.mp x))]
def er_fw (s : List Int) : List (List Int) → Nat → Option Nat → Option Nat
  | [], _, m => m
  | a :: r, k, m => er_fw s r (k + 1) (if s = a then some k else m)
theorem er_fw_no {s : List Int} : ∀ (l : List (List Int)) (k : Nat) (m : Option Nat), (∀ a ∈ l, s ≠ a) → er_fw s l k m = m
  | [], _, _, _ => rfl
  | a :: r, k, m, h => by
    show er_fw s r (k + 1) (if s = a then some k else m) = m
    rw [if_neg (h a List.mem_cons_self)]
    exact er_fw_no r (k + 1) m (fun c hc => h c (List.mem_cons_of_mem _ hc))
theorem er_fw_ix {s : List Int} : ∀ (l : List (List Int)) (k : Nat) (m : Option Nat), l.Nodup → er_fw s l k m = if er_ix l s k < k + l.length then some (er_ix l s k) else m
  | [], k, m, _ => by
    show m = if k < k + 0 then some k else m
    rw [if_neg (by omega)]
  | a :: r, k, m, h => by
    have h1 := List.nodup_cons.mp h
    have hl : (a :: r).length = r.length + 1 := rfl
    show er_fw s r (k + 1) (if s = a then some k else m) = if (if s = a then k else er_ix r s (k + 1)) < k + (a :: r).length then some (if s = a then k else er_ix r s (k + 1)) else m
    rw [hl]
    by_cases q : s = a
    · rw [if_pos q, if_pos q, if_pos (by omega), er_fw_no r (k + 1) (some k) (fun c hc e => h1.1 (by rw [← q, e]; exact hc))]
    · rw [if_neg q, if_neg q, er_fw_ix r (k + 1) m h1.2]
      have e : k + 1 + r.length = k + (r.length + 1) := by omega
      rw [e]
theorem er_wf_ws {t : Nat → Int} {b e : Nat} (hbe : b ≤ e) : ∀ (ws : List (List Int)) (k : Nat) (m : Option Nat), (∀ a ∈ ws, ∀ c ∈ a, c ≠ 0) → er_wf t b e (ws.flatMap (fun a => a ++ [0])) k b true m = er_fw (er_bs t b e) ws k m
  | [], _, _, _ => rfl
  | a :: r, k, m, h => by
    have e1 : (a :: r).flatMap (fun a => a ++ [0]) = a ++ 0 :: r.flatMap (fun a => a ++ [0]) := by
      rw [List.flatMap_cons, List.append_assoc]
      rfl
    rw [e1, er_wf_w a k b true m (h a List.mem_cons_self), er_wf_ws hbe r (k + 1) _ (fun c hc => h c (List.mem_cons_of_mem _ hc))]
    show _ = er_fw (er_bs t b e) r (k + 1) (if er_bs t b e = a then some k else m)
    by_cases q : er_bs t b e = a
    · have hl : a.length = e - b := by rw [← q, er_bs_len]
      have he : b + a.length = e := by omega
      have q2 := q
      rw [← he] at q2
      rw [if_pos q, if_pos ⟨rfl, er_bs_is.mp q2, he⟩]
    · rw [if_neg q, if_neg (fun x => q (by
        have q2 := (er_bs_is (t := t) (i := b) (l := a)).mpr x.2.1
        rw [x.2.2] at q2
        exact q2))]
def er_la : List Int := er_ws.flatMap (fun a => a ++ [0])
theorem er_wf_la {t : Nat → Int} {b e : Nat} (hbe : b ≤ e) : er_wf t b e er_la 0 b true none = if er_wk (er_bs t b e) < 16 then some (er_wk (er_bs t b e)) else none := by
  unfold er_la
  rw [er_wf_ws hbe er_ws 0 none (by decide +kernel), er_fw_ix er_ws 0 none (by decide +kernel)]
  rfl
/-- a row that is the letters -/
def er_Le (w : px_W) : Prop := ∀ x, x < 82 → ef_a w 168 x = er_la.getD x 0
def er_mm (m : Option Nat) : Int := match m with
  | none => 1
  | some _ => 2
section ER3
variable {N : Nat} {t : Nat → Int}
theorem ew_wd17 {b e : Nat} (hN : N ≤ 200) (hb : b ≤ 200) (he : e ≤ N) : ∀ (l : List Int) (n x k i : Nat) (s : Bool) (m : Option Nat) (w : px_W) (r : Option Value × px_W), x + l.length = 82 → er_la.drop x = l → k ≤ x → i + l.length ≤ 282 → ec_W hb_A w → er_Le w → er_Sr w N t → ec_fd w 151 26 = (e : Int) → ec_fd w 151 27 = (b : Int) → ec_fd w 151 28 = er_mm m → (∀ q, m = some q → ec_fd w 151 29 = (q : Int)) → ec_E hb_X n 250 17 [(0, .inr (.inl 215)), (1, .inl (k : Int)), (2, .inl (i : Int)), (3, .inl (if s = true then 1 else 0)), (4, .inl (x : Int))] [] w r → ∃ w' : px_W, r = (none, w') ∧ ec_W hb_A w' ∧ ef_s [151] w w' ∧ (∀ f, f ≠ 28 → f ≠ 29 → ec_fd w' 151 f = ec_fd w 151 f) ∧ ec_fd w' 151 28 = er_mm (er_wf t b e l k i s m) ∧ ∀ q, er_wf t b e l k i s m = some q → ec_fd w' 151 29 = (q : Int) := by
  have t0 : ec_tw 0 = 0 := rfl
  have t1 : ec_tw 1 = 1 := rfl
  have t82 : ec_tw 82 = 82 := rfl
  intro l
  induction l with
  | nil =>
    intro n x k i s m w r hx hd hk hi hW hL hS f26 f27 f28 f29 h
    have ex : x = 82 := by
      have : x + 0 = 82 := hx
      omega
    rw [ex] at h
    obtain ⟨_, hr, _⟩ := eg250_151_17_0 h (Int.le_refl _)
    exact ⟨w, hr, hW, ef_s_refl, fun _ _ _ => rfl, f28, f29⟩
  | cons c l ih =>
    intro n x k i s m w r hx hd hk hi hW hL hS f26 f27 f28 f29 h
    have hl : (c :: l).length = l.length + 1 := rfl
    rw [hl] at hx hi
    have hx82 : x < 82 := by omega
    have hc : er_la.getD x 0 = c := by
      have h1 : (er_la.drop x)[0]? = some c := by rw [hd]; rfl
      rw [List.getElem?_drop, Nat.add_zero] at h1
      rw [List.getD_eq_getElem?_getD, h1]
      rfl
    have hd2 : er_la.drop (x + 1) = l := by
      rw [← List.drop_drop, hd]
      rfl
    have cin : ∀ x : Nat, x < 82 → 0 ≤ er_la.getD x 0 ∧ er_la.getD x 0 ≤ 200 := by decide +kernel
    have cr := cin x hx82
    rw [hc] at cr
    have tx : ec_tw (x : Int) = x := ec_twn (by omega)
    have ti : ec_tw (i : Int) = i := ec_twn (by omega)
    have te : ec_tw (e : Int) = e := ec_twn (by omega)
    have tc : ec_tw c = c := ec_tw_id (by omega) (by omega)
    have rdx : ec_rd w 168 (x : Int) = c := (hL x hx82).trans hc
    -- on to the next letter
    have nx : ∀ (k2 i2 : Nat) (s2 : Bool) (m2 : Option Nat) (w2 : px_W), k2 ≤ x + 1 → i2 + l.length ≤ 282 → ec_W hb_A w2 → ef_s [151] w w2 → (∀ f, f ≠ 28 → f ≠ 29 → ec_fd w2 151 f = ec_fd w 151 f) → ec_fd w2 151 28 = er_mm m2 → (∀ q, m2 = some q → ec_fd w2 151 29 = (q : Int)) → ec_E hb_X n 250 108 [(0, .inr (.inl 215)), (1, .inl (k2 : Int)), (2, .inl (i2 : Int)), (3, .inl (if s2 = true then 1 else 0)), (4, .inl (x : Int))] [] w2 r → ∃ w' : px_W, r = (none, w') ∧ ec_W hb_A w' ∧ ef_s [151] w w' ∧ (∀ f, f ≠ 28 → f ≠ 29 → ec_fd w' 151 f = ec_fd w 151 f) ∧ ec_fd w' 151 28 = er_mm (er_wf t b e l k2 i2 s2 m2) ∧ ∀ q, er_wf t b e l k2 i2 s2 m2 = some q → ec_fd w' 151 29 = (q : Int) := by
      intro k2 i2 s2 m2 w2 hk2 hi2 W2 S2 F2 g28 g29 h2
      obtain ⟨w', q1, q2, q3, q4, q5, q6⟩ := ih n (x + 1) k2 i2 s2 m2 w2 r (by omega) hd2 hk2 hi2 W2 (fun y hy => by rw [ef_s_a S2 (by decide)]; exact hL y hy) (er_Sr_s hS S2 (F2 25 (by decide) (by decide)) (F2 24 (by decide) (by decide))) ((F2 26 (by decide) (by decide)).trans f26) ((F2 27 (by decide) (by decide)).trans f27) g28 g29 (eg250_151_108_0 h2).2
      exact ⟨w', q1, q2, ef_s_trans S2 q3, fun f a1 a2 => (q4 f a1 a2).trans (F2 f a1 a2), q5, q6⟩
    have hw : er_wf t b e (c :: l) k i s m = if c = 0 then er_wf t b e l (k + 1) b true (if s = true ∧ i = e then some k else m) else er_wf t b e l k (i + 1) (s && decide (i < e ∧ t i = c)) m := rfl
    rw [hw]
    by_cases q0 : c = 0
    · rw [if_pos q0]
      -- the end of a word
      have done : ∀ (m2 : Option Nat) (w2 : px_W), ec_W hb_A w2 → ef_s [151] w w2 → (∀ f, f ≠ 28 → f ≠ 29 → ec_fd w2 151 f = ec_fd w 151 f) → ec_fd w2 151 28 = er_mm m2 → (∀ q, m2 = some q → ec_fd w2 151 29 = (q : Int)) → ec_E hb_X n 250 59 [(0, .inr (.inl 215)), (1, .inl (k : Int)), (2, .inl (i : Int)), (3, .inl (if s = true then 1 else 0)), (4, .inl (x : Int))] [] w2 r → ∃ w' : px_W, r = (none, w') ∧ ec_W hb_A w' ∧ ef_s [151] w w' ∧ (∀ f, f ≠ 28 → f ≠ 29 → ec_fd w' 151 f = ec_fd w 151 f) ∧ ec_fd w' 151 28 = er_mm (er_wf t b e l (k + 1) b true m2) ∧ ∀ q, er_wf t b e l (k + 1) b true m2 = some q → ec_fd w' 151 29 = (q : Int) := by
        intro m2 w2 W2 S2 F2 g28 g29 h2
        have h3 := (eg250_151_59_0 h2).2
        rw [F2 27 (by decide) (by decide), f27] at h3
        exact nx (k + 1) b true m2 w2 (by omega) (by omega) W2 S2 F2 g28 g29 h3
      have k4 := eg250_151_17_4 h
      have k5 := eg250_151_17_5 h
      have k6 := eg250_151_17_6 h
      rw [tx, t82, rdx, tc, t0] at k4 k5 k6
      rw [ti, f26, te] at k5 k6
      cases s with
      | false =>
        rw [if_neg (fun x => by cases x.1)]
        exact done m w hW ef_s_refl (fun _ _ _ => rfl) f28 f29 (k4 (by omega) q0 rfl).2
      | true =>
        by_cases qe : i = e
        · rw [if_pos ⟨rfl, qe⟩]
          have Wa : ec_W hb_A (ec_pf w 151 28 2) := ec_W_pf (k := 151) (f := 28) rfl rfl hW
          have Wb : ec_W hb_A (ec_pf (ec_pf w 151 28 2) 151 29 (k : Int)) := ec_W_pf (k := 151) (f := 29) rfl rfl Wa
          have F : ∀ g, ec_fd (ec_pf (ec_pf w 151 28 2) 151 29 (k : Int)) 151 g = if g = 29 then ec_tw (k : Int) else if g = 28 then ec_tw 2 else ec_fd w 151 g := by
            intro g
            rw [ec_fd_pf (k := 151) (f := 29) Wa rfl (by decide), ec_fd_pf (k := 151) (f := 28) hW rfl (by decide)]
          refine done (some k) _ Wb (ef_s_trans (ef_s_pf (by decide)) (ef_s_pf (by decide))) (fun f a1 a2 => by rw [F f, if_neg a2, if_neg a1]) (by rw [F 28, if_neg (by decide), if_pos rfl]; rfl) (fun q hq => ?_) (k6 (by omega) q0 (by decide) (by omega)).2
          injection hq with hq
          rw [F 29, if_pos rfl, ← hq]
          exact ec_twn (by omega)
        · rw [if_neg (fun x => qe x.2)]
          exact done m w hW ef_s_refl (fun _ _ _ => rfl) f28 f29 (k5 (by omega) q0 (by decide) (by omega)).2
    · rw [if_neg q0]
      -- a letter
      have no : (s && decide (i < e ∧ t i = c)) = false → ec_E hb_X n 250 103 [(0, .inr (.inl 215)), (1, .inl (k : Int)), (2, .inl (i : Int)), (3, .inl (if s = true then 1 else 0)), (4, .inl (x : Int))] [] w r → ∃ w' : px_W, r = (none, w') ∧ ec_W hb_A w' ∧ ef_s [151] w w' ∧ (∀ f, f ≠ 28 → f ≠ 29 → ec_fd w' 151 f = ec_fd w 151 f) ∧ ec_fd w' 151 28 = er_mm (er_wf t b e l k (i + 1) (s && decide (i < e ∧ t i = c)) m) ∧ ∀ q, er_wf t b e l k (i + 1) (s && decide (i < e ∧ t i = c)) m = some q → ec_fd w' 151 29 = (q : Int) := by
        intro hf h2
        rw [hf]
        exact nx k (i + 1) false m w (by omega) (by omega) hW ef_s_refl (fun _ _ _ => rfl) f28 f29 (eg250_151_104_0 (eg250_151_103_0 h2).2).2
      have k1 := eg250_151_17_1 h
      have k2 := eg250_151_17_2 h
      have k3 := eg250_151_17_3 h
      rw [tx, t82, rdx, tc, t0] at k1 k2 k3
      rw [ti, f26, te] at k2 k3
      cases s with
      | false => exact no rfl (k1 (by omega) q0 rfl).2
      | true =>
        by_cases qe : i < e
        · obtain ⟨_, u, w1, a1, a2⟩ := k3 (by omega) q0 (by decide) (by omega)
          obtain ⟨i1, W1, e1⟩ := ew_by hN (by omega) hS a1
          rw [← i1] at a2 W1
          rw [if_pos (by omega)] at e1
          have b1 := a2 _ e1 W1
          have n0 := eg250_151_89_0 b1
          have n1 := eg250_151_89_1 b1
          have tt : ec_tw (t i) = t i := by
            rcases hS.2 with ⟨_, d⟩ | ⟨f, _, _, d⟩
            · rw [← d i (by omega)]
              exact ef_tw _ _ _
            · rw [← d i (by omega)]
              exact ef_tw _ _ _
          rw [tx, rdx, tc, tt] at n0 n1
          by_cases qt : t i = c
          · have hs : (true && decide (i < e ∧ t i = c)) = true := by
              rw [Bool.true_and]
              exact decide_eq_true ⟨qe, qt⟩
            rw [hs]
            exact nx k (i + 1) true m w (by omega) (by omega) hW ef_s_refl (fun _ _ _ => rfl) f28 f29 (eg250_151_104_0 (n1 qt).2).2
          · exact no (by rw [Bool.true_and]; exact decide_eq_false (fun x => qt x.2)) (n0 qt).2
        · exact no (by rw [Bool.true_and]; exact decide_eq_false (fun x => qe x.1)) (k2 (by omega) q0 (by decide) (by omega)).2
theorem ew_word {b e n : Nat} {w w1 : px_W} {v : Option Value} (hN : N ≤ 200) (hbe : b ≤ e) (he : e ≤ N) (hL : er_Le w) (hS : er_Sr w N t) (f26 : ec_fd w 151 26 = (e : Int)) (f27 : ec_fd w 151 27 = (b : Int)) (h : ec_E hb_X n 250 0 [(0, .inr (.inl 215))] [] w (v, w1)) : v = none ∧ ec_W hb_A w1 ∧ ef_s [151] w w1 ∧ (∀ f, f ≠ 28 → f ≠ 29 → ec_fd w1 151 f = ec_fd w 151 f) ∧ ec_fd w1 151 28 = (if er_wk (er_bs t b e) < 16 then 2 else 1) ∧ (er_wk (er_bs t b e) < 16 → ec_fd w1 151 29 = (er_wk (er_bs t b e) : Int)) := by
  have hW : ec_W hb_A w := h.1
  have a := (eg250_151_0_0 h).2
  have Wa : ec_W hb_A (ec_pf w 151 28 1) := ec_W_pf (k := 151) (f := 28) rfl rfl hW
  have F : ∀ g, ec_fd (ec_pf w 151 28 1) 151 g = if g = 28 then ec_tw 1 else ec_fd w 151 g := fun g => ec_fd_pf (k := 151) (f := 28) hW rfl (by decide)
  have s0 : ef_s [151] w (ec_pf w 151 28 1) := ef_s_pf (by decide)
  have Fo : ∀ f, f ≠ 28 → ec_fd (ec_pf w 151 28 1) 151 f = ec_fd w 151 f := fun f hf => by rw [F f, if_neg hf]
  rw [Fo 27 (by decide), f27] at a
  have ll : er_la.length = 82 := by decide +kernel
  obtain ⟨w', q1, q2, q3, q4, q5, q6⟩ := ew_wd17 (b := b) (e := e) hN (by omega) he er_la n 0 0 b true none _ _ (by omega) rfl (Nat.le_refl _) (by omega) Wa (fun y hy => by rw [ef_s_a s0 (by decide)]; exact hL y hy) (er_Sr_s hS s0 (Fo 25 (by decide)) (Fo 24 (by decide))) ((Fo 26 (by decide)).trans f26) ((Fo 27 (by decide)).trans f27) (by rw [F 28, if_pos rfl]; rfl) (fun q hq => by cases hq) a
  injection q1 with e1 i1
  subst i1
  rw [er_wf_la hbe] at q5 q6
  refine ⟨e1, q2, ef_s_trans s0 q3, fun f a1 a2 => (q4 f a1 a2).trans (Fo f a1), ?_, fun hk => ?_⟩
  · by_cases hk : er_wk (er_bs t b e) < 16
    · rw [if_pos hk] at q5 ⊢
      exact q5
    · rw [if_neg hk] at q5 ⊢
      exact q5
  · exact q6 _ (by rw [if_pos hk])
end ER3

end
