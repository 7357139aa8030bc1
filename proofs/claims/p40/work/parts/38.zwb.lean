noncomputable section
/-! RULES: steps as a machine over bits -/
def er_T (H : Bool) (M : Nat → Int) (z : Int) : Bool := if z % 8 = 0 then H else er_sg (60 + z / 8 % 4) (M (z % 8 - 1).toNat) (z / 32)
def er_st (H : Bool) (M : Nat → Int) (z : Int) (B : Nat) : Option Nat := if B < 16777216 then some (if z % 8 = 4 then B / 4 * 2 + B % 2 * (B / 2 % 2) else if z % 8 = 5 then B / 4 * 2 + max (B % 2) (B / 2 % 2) else if z % 8 = 6 then B / 2 * 2 + (1 - B % 2) else 2 * B + (if er_T H M z = true then 1 else 0)) else none
def er_mb (H : Bool) (M : Nat → Int) : List Int → Nat → Option Nat
  | [], B => some B
  | z :: r, B => (er_st H M z B).bind (er_mb H M r)
theorem er_mb_app {H : Bool} {M : Nat → Int} : ∀ (a b : List Int) (B : Nat), er_mb H M (a ++ b) B = (er_mb H M a B).bind (er_mb H M b)
  | [], b, B => rfl
  | z :: r, b, B => by
    show (er_st H M z B).bind (er_mb H M (r ++ b)) = ((er_st H M z B).bind (er_mb H M r)).bind (er_mb H M b)
    cases er_st H M z B with
    | none => rfl
    | some x => exact er_mb_app r b x
/-- steps whose run puts one value behind the bits -/
def er_MQ (H : Bool) (M : Nat → Int) (q : List Int × Bool) (e : Nat) : Prop := (∀ z ∈ q.1, 0 ≤ z ∧ z ≤ 10000000 ∧ z % 8 < 7) ∧ ∀ B k : Nat, B < 2 ^ k → k + e ≤ 24 → er_mb H M q.1 B = some (2 * B + (if q.2 = true then 1 else 0))
theorem er_MQ_m {H : Bool} {M : Nat → Int} {q : List Int × Bool} {e e' : Nat} (he : e ≤ e') (h : er_MQ H M q e) : er_MQ H M q e' := ⟨h.1, fun B k hB hk => h.2 B k hB (by omega)⟩
theorem er_p24 {B k : Nat} (h : B < 2 ^ k) (hk : k ≤ 24) : B < 16777216 := by
  have h1 : 2 ^ k ≤ 2 ^ 24 := Nat.pow_le_pow_right (by decide) hk
  have h2 : (2 : Nat) ^ 24 = 16777216 := rfl
  omega
theorem er_p2s {B k b : Nat} (h : B < 2 ^ k) (hb : b ≤ 1) : 2 * B + b < 2 ^ (k + 1) := by
  rw [Nat.pow_succ]
  omega
section ES3
variable {C V : Nat → Int} {H : Bool} {M : Nat → Int}
theorem er_ts_M (hVr : ∀ j, -100000 ≤ V j ∧ V j ≤ 100000) {j a : Nat} {q : List Int × Bool} (h : er_ts C V H M j = (a, some q)) : er_MQ H M q 1 := by
  have one : ∀ (z : Int) (b : Bool), 0 ≤ z → z ≤ 10000000 → z % 8 < 4 → er_T H M z = b → er_MQ H M ([z], b) 1 := by
    intro z b h0 h1 h2 hT
    refine ⟨fun x hx => ?_, fun B k hB hk => ?_⟩
    · rw [List.mem_singleton.mp hx]
      exact ⟨h0, h1, by omega⟩
    · show (er_st H M z B).bind (er_mb H M []) = some (2 * B + (if b = true then 1 else 0))
      have e : er_st H M z B = some (2 * B + (if b = true then 1 else 0)) := by
        unfold er_st
        rw [if_pos (er_p24 hB (by omega)), if_neg (by omega), if_neg (by omega), if_neg (by omega), hT]
      rw [e]
      rfl
  unfold er_ts at h
  by_cases c1 : C j = 323
  · rw [if_pos c1] at h
    cases h
    exact one 0 H (by decide) (by decide) (by decide) rfl
  · rw [if_neg c1] at h
    by_cases c2 : 324 ≤ C j ∧ C j ≤ 326
    · rw [if_pos c2] at h
      by_cases c3 : 60 ≤ C (j + 1) ∧ C (j + 1) ≤ 62
      · rw [if_pos c3] at h
        by_cases c4 : C (j + 2) = 301 ∧ 0 ≤ V (j + 2)
        · rw [if_pos c4] at h
          cases h
          have v := hVr (j + 2)
          refine one _ _ (by omega) (by omega) (by omega) ?_
          have e1 : (C j - 323 + 8 * (C (j + 1) - 60) + 32 * V (j + 2)) % 8 = C j - 323 := by omega
          have e2 : (C j - 323 + 8 * (C (j + 1) - 60) + 32 * V (j + 2)) / 8 % 4 = C (j + 1) - 60 := by omega
          have e3 : (C j - 323 + 8 * (C (j + 1) - 60) + 32 * V (j + 2)) / 32 = V (j + 2) := by omega
          unfold er_T
          rw [e1, e2, e3, if_neg (by omega)]
          have e4 : 60 + (C (j + 1) - 60) = C (j + 1) := by omega
          have e5 : C j - 323 - 1 = C j - 324 := by omega
          rw [e4, e5]
        · rw [if_neg c4] at h
          cases h
      · rw [if_neg c3] at h
        cases h
    · rw [if_neg c2] at h
      cases h
theorem er_in_M {e : Nat} {g : Option (Nat → er_R)} (hg : ∀ f, g = some f → ∀ (j a : Nat) (q : List Int × Bool), f j = (a, some q) → er_MQ H M q e) {k a : Nat} {q : List Int × Bool} (h : er_in C g k = (a, some q)) : er_MQ H M q e := by
  unfold er_in at h
  cases g with
  | none => cases h
  | some f =>
    dsimp only at h
    cases e : f (k + 1) with
    | mk b r =>
      rw [e] at h
      cases r with
      | none => cases h
      | some r =>
        dsimp only at h
        by_cases c : C b = 41
        · rw [if_pos c] at h
          have es : r = q := Option.some.inj (congrArg Prod.snd h)
          rw [← es]
          exact hg f rfl (k + 1) b r e
        · rw [if_neg c] at h
          cases h
theorem er_on_M (hVr : ∀ j, -100000 ≤ V j ∧ V j ≤ 100000) {e : Nat} (he : 1 ≤ e) {g : Option (Nat → er_R)} (hg : ∀ f, g = some f → ∀ (j a : Nat) (q : List Int × Bool), f j = (a, some q) → er_MQ H M q e) {j a : Nat} {q : List Int × Bool} (h : er_on C V H M g j = (a, some q)) : er_MQ H M q e := by
  unfold er_on at h
  obtain ⟨k, hk⟩ : ∃ k, er_nt C 200 j = k := ⟨_, rfl⟩
  rw [hk] at h
  cases ee : (if C k = 40 then er_in C g k else er_ts C V H M k) with
  | mk b r =>
    rw [ee] at h
    cases r with
    | none => cases h
    | some r =>
      dsimp only at h
      have hr : er_MQ H M r e := by
        by_cases c : C k = 40
        · rw [if_pos c] at ee
          exact er_in_M hg ee
        · rw [if_neg c] at ee
          exact er_MQ_m he (er_ts_M hVr ee)
      by_cases pr : (k - j) % 2 = 1
      · rw [if_pos pr] at h
        cases h
        refine ⟨fun z hz => ?_, fun B i hB hi => ?_⟩
        · rcases List.mem_append.mp hz with hz | hz
          · exact hr.1 z hz
          · rw [List.mem_singleton.mp hz]
            decide
        · rw [er_mb_app, hr.2 B i hB hi]
          have hb : 2 * B + (if r.2 = true then 1 else 0) < 16777216 := er_p24 (er_p2s hB (by split <;> omega)) (by omega)
          show (er_st H M 6 (2 * B + (if r.2 = true then 1 else 0))).bind (er_mb H M []) = _
          have e6 : er_st H M 6 (2 * B + (if r.2 = true then 1 else 0)) = some (2 * B + (if (!r.2) = true then 1 else 0)) := by
            unfold er_st
            rw [if_pos hb, if_neg (by decide), if_neg (by decide), if_pos (by decide)]
            cases r.2 with
            | true =>
              congr 1
              show (2 * B + 1) / 2 * 2 + (1 - (2 * B + 1) % 2) = 2 * B + 0
              omega
            | false =>
              congr 1
              show (2 * B + 0) / 2 * 2 + (1 - (2 * B + 0) % 2) = 2 * B + 1
              omega
          rw [e6]
          rfl
      · rw [if_neg pr] at h
        cases h
        exact hr
theorem er_lp_M {e : Nat} (he : 1 ≤ e) {one : Nat → er_R} {code step : Int} {op : Bool → Bool → Bool} (hs : (step = 4 ∧ op = and) ∨ (step = 5 ∧ op = or)) (h1 : ∀ (j a : Nat) (q : List Int × Bool), one j = (a, some q) → er_MQ H M q e) : ∀ (f j : Nat) (s : List Int) (b : Bool) (a : Nat) (q : List Int × Bool), er_MQ H M (s, b) (e + 1) → er_lp C one code step op f j s b = (a, some q) → er_MQ H M q (e + 1)
  | 0, j, s, b, a, q, hq, h => by
    have h' : (j, some (s, b)) = (a, some q) := h
    cases h'
    exact hq
  | f + 1, j, s, b, a, q, hq, h => by
    have ee : er_lp C one code step op (f + 1) j s b = if C j = code then (match one (j + 1) with
      | (a, none) => (a, none)
      | (a, some q) => er_lp C one code step op f a (s ++ q.1 ++ [step]) (op b q.2)) else (j, some (s, b)) := rfl
    rw [ee] at h
    by_cases c : C j = code
    · rw [if_pos c] at h
      cases e1 : one (j + 1) with
      | mk x r =>
        rw [e1] at h
        cases r with
        | none => cases h
        | some r =>
          dsimp only at h
          have hr := h1 (j + 1) x r e1
          refine er_lp_M he hs h1 f x (s ++ r.1 ++ [step]) (op b r.2) a q ⟨fun z hz => ?_, fun B k hB hk => ?_⟩ h
          · rcases List.mem_append.mp hz with hz | hz
            · rcases List.mem_append.mp hz with hz | hz
              · exact hq.1 z hz
              · exact hr.1 z hz
            · rw [List.mem_singleton.mp hz]
              rcases hs with ⟨hs, _⟩ | ⟨hs, _⟩
              · rw [hs]
                decide
              · rw [hs]
                decide
          · have q1 : er_mb H M s B = some (2 * B + (if b = true then 1 else 0)) := hq.2 B k hB hk
            have b1 : 2 * B + (if b = true then 1 else 0) < 2 ^ (k + 1) := er_p2s hB (by split <;> omega)
            have q2 := hr.2 (2 * B + (if b = true then 1 else 0)) (k + 1) b1 (by omega)
            have b2 : 2 * (2 * B + (if b = true then 1 else 0)) + (if r.2 = true then 1 else 0) < 16777216 := er_p24 (er_p2s b1 (by split <;> omega)) (by omega)
            show er_mb H M (s ++ r.1 ++ [step]) B = some (2 * B + (if op b r.2 = true then 1 else 0))
            rw [er_mb_app, er_mb_app, q1]
            show ((er_mb H M r.1 (2 * B + (if b = true then 1 else 0))).bind (er_mb H M [step])) = _
            rw [q2]
            show (er_st H M step (2 * (2 * B + (if b = true then 1 else 0)) + (if r.2 = true then 1 else 0))).bind (er_mb H M []) = _
            have e6 : er_st H M step (2 * (2 * B + (if b = true then 1 else 0)) + (if r.2 = true then 1 else 0)) = some (2 * B + (if op b r.2 = true then 1 else 0)) := by
              unfold er_st
              rw [if_pos b2]
              have m1 : ∀ x y : Nat, x ≤ 1 → y ≤ 1 → (2 * (2 * B + x) + y) / 4 * 2 = 2 * B ∧ (2 * (2 * B + x) + y) % 2 = y ∧ (2 * (2 * B + x) + y) / 2 % 2 = x := by
                intro x y hx hy
                omega
              obtain ⟨n1, n2, n3⟩ := m1 (if b = true then 1 else 0) (if r.2 = true then 1 else 0) (by split <;> omega) (by split <;> omega)
              rw [n1, n2, n3]
              rcases hs with ⟨hs, ho⟩ | ⟨hs, ho⟩
              · rw [hs, ho, if_pos (by decide)]
                cases b <;> cases r.2 <;> rfl
              · rw [hs, ho, if_neg (by decide), if_pos (by decide)]
                cases b <;> cases r.2 <;> rfl
            rw [e6]
            rfl
    · rw [if_neg c] at h
      cases h
      exact hq
theorem er_al_M (hVr : ∀ j, -100000 ≤ V j ∧ V j ≤ 100000) {e : Nat} (he : 1 ≤ e) {g : Option (Nat → er_R)} (hg : ∀ f, g = some f → ∀ (j a : Nat) (q : List Int × Bool), f j = (a, some q) → er_MQ H M q e) {j a : Nat} {q : List Int × Bool} (h : er_al C V H M g j = (a, some q)) : er_MQ H M q (e + 1) := by
  unfold er_al at h
  cases ee : er_on C V H M g j with
  | mk b r =>
    rw [ee] at h
    cases r with
    | none => cases h
    | some r =>
      dsimp only at h
      exact er_lp_M he (.inl ⟨rfl, rfl⟩) (fun j a q hq => er_on_M hVr he hg hq) 200 b r.1 r.2 a q (er_MQ_m (Nat.le_succ _) (er_on_M hVr he hg ee)) h
theorem er_co2_M (hVr : ∀ j, -100000 ≤ V j ∧ V j ≤ 100000) {e : Nat} (he : 1 ≤ e) {g : Option (Nat → er_R)} (hg : ∀ f, g = some f → ∀ (j a : Nat) (q : List Int × Bool), f j = (a, some q) → er_MQ H M q e) {j a : Nat} {q : List Int × Bool} (h : er_co2 C V H M g j = (a, some q)) : er_MQ H M q (e + 2) := by
  unfold er_co2 at h
  cases ee : er_al C V H M g j with
  | mk b r =>
    rw [ee] at h
    cases r with
    | none => cases h
    | some r =>
      dsimp only at h
      exact er_lp_M (e := e + 1) (by omega) (.inr ⟨rfl, rfl⟩) (fun j a q hq => er_al_M hVr he hg hq) 200 b r.1 r.2 a q (er_MQ_m (Nat.le_succ _) (er_al_M hVr he hg ee)) h
theorem er_cd_M (hVr : ∀ j, -100000 ≤ V j ∧ V j ≤ 100000) : ∀ (l j a : Nat) (q : List Int × Bool), er_cd C V H M l j = (a, some q) → er_MQ H M q (3 + 2 * l)
  | 0, j, a, q, h => er_co2_M (e := 1) hVr (Nat.le_refl _) (g := none) (fun f e => by cases e) h
  | l + 1, j, a, q, h => by
    have h' : er_co2 C V H M (some (er_cd C V H M l)) j = (a, some q) := h
    have := er_co2_M (e := 3 + 2 * l) hVr (by omega) (fun f e => by
      cases e
      exact fun j a q hq => er_cd_M hVr l j a q hq) h'
    exact er_MQ_m (by omega) this
/-- the lines of a TEXT, and where their steps stand -/
def er_LS (H : Bool) (M : Nat → Int) (l : er_L) (ss : List Int) : Prop := (l.1 ≠ 2 → l.2.2.2.2 = false) ∧ (l.1 = 2 → ∃ n0 : Nat, l.2.1 = (n0 : Int) ∧ l.2.2.1 = ((n0 + l.2.2.2.1.length : Nat) : Int) ∧ n0 + l.2.2.2.1.length ≤ ss.length ∧ (∀ i, i < l.2.2.2.1.length → ss.getD (n0 + i) 0 = l.2.2.2.1.getD i 0) ∧ er_MQ H M (l.2.2.2.1, l.2.2.2.2) 11)
theorem er_LS_app {l : er_L} {ss r : List Int} (h : er_LS H M l ss) : er_LS H M l (ss ++ r) := by
  refine ⟨h.1, fun e => ?_⟩
  obtain ⟨n0, h1, h2, h3, h4, h5⟩ := h.2 e
  refine ⟨n0, h1, h2, by rw [List.length_append]; omega, fun i hi => ?_, h5⟩
  rw [List.getD_eq_getElem?_getD, List.getElem?_append_left (by omega), ← List.getD_eq_getElem?_getD]
  exact h4 i hi
theorem er_li_LS (hVr : ∀ j, -100000 ≤ V j ∧ V j ≤ 100000) {ss : List Int} {j a : Nat} {q : er_L} (h : er_li C V H M ss.length j = (a, some q)) : er_LS H M q (ss ++ q.2.2.2.1) := by
  unfold er_li at h
  by_cases c1 : C j = 310
  · rw [if_pos c1] at h
    split at h
    · split at h
      · split at h
        · split at h
          · cases h
            exact ⟨fun _ => rfl, fun e => absurd e (by decide : ¬ (0 : Int) = 2)⟩
          · cases h
        · cases h
      · cases h
    · cases h
  · rw [if_neg c1] at h
    by_cases c2 : C j = 312
    · rw [if_pos c2] at h
      cases e : er_fi C 4 0 0 999 (j + 1) with
      | mk b s =>
        rw [e] at h
        cases s with
        | none => cases h
        | some rk =>
          dsimp only at h
          split at h
          · cases h
            exact ⟨fun _ => rfl, fun e => absurd e (by decide : ¬ (1 : Int) = 2)⟩
          · cases h
    · rw [if_neg c2] at h
      by_cases c3 : C j = 314
      · rw [if_pos c3] at h
        by_cases c4 : C (j + 1) = 315
        · rw [if_pos c4] at h
          cases e : er_cd C V H M 4 (j + 2) with
          | mk b s =>
            rw [e] at h
            cases s with
            | none => cases h
            | some s =>
              dsimp only at h
              split at h
              · cases h
                refine ⟨fun z => absurd rfl z, fun _ => ⟨ss.length, rfl, rfl, ?_, fun i hi => ?_, er_cd_M hVr 4 (j + 2) b s e⟩⟩
                · show ss.length + s.1.length ≤ (ss ++ s.1).length
                  rw [List.length_append]
                  exact Nat.le_refl _
                · show (ss ++ s.1).getD (ss.length + i) 0 = s.1.getD i 0
                  rw [List.getD_eq_getElem?_getD, List.getElem?_append_right (by omega), List.getD_eq_getElem?_getD]
                  congr 2
                  omega
              · cases h
        · rw [if_neg c4] at h
          cases h
      · rw [if_neg c3] at h
        cases h
theorem er_rd_LS (hVr : ∀ j, -100000 ≤ V j ∧ V j ≤ 100000) : ∀ (f j : Nat) (ls : List er_L) (ss : List Int) (a : Nat) (q : List er_L × List Int), (∀ l ∈ ls, er_LS H M l ss) → er_rd C V H M f j ls ss = (a, some q) → ∀ l ∈ q.1, er_LS H M l q.2
  | 0, j, ls, ss, a, q, hl, h => by
    have erd : er_rd C V H M 0 j ls ss = if C j = 300 then (j, some (ls, ss)) else (j, none) := rfl
    rw [erd] at h
    split at h
    · cases h
      exact hl
    · cases h
  | f + 1, j, ls, ss, a, q, hl, h => by
    have erd : er_rd C V H M (f + 1) j ls ss = if C j = 300 then (j, some (ls, ss)) else (match er_li C V H M ss.length j with
      | (a, none) => (a, none)
      | (a, some q) => er_rd C V H M f a (ls ++ [q]) (ss ++ q.2.2.2.1)) := rfl
    rw [erd] at h
    split at h
    · cases h
      exact hl
    · cases e : er_li C V H M ss.length j with
      | mk b s =>
        rw [e] at h
        cases s with
        | none => cases h
        | some s =>
          dsimp only at h
          refine er_rd_LS hVr f b (ls ++ [s]) (ss ++ s.2.2.2.1) a q (fun l hl' => ?_) h
          rcases List.mem_append.mp hl' with h1 | h1
          · exact er_LS_app (hl l h1)
          · rw [List.mem_singleton.mp h1]
            exact er_li_LS hVr e
theorem er_dc_any : ∀ ls : List er_L, er_dc ls = ls.any (fun q => q.2.2.2.2) := by
  intro ls
  have g : ∀ (l : List er_L) (a : Bool), l.foldl (fun a q => a || q.2.2.2.2) a = (a || l.any (fun q => q.2.2.2.2)) := by
    intro l
    induction l with
    | nil =>
      intro a
      exact (Bool.or_false a).symm
    | cons x r ih =>
      intro a
      show r.foldl (fun a q => a || q.2.2.2.2) (a || x.2.2.2.2) = (a || (x.2.2.2.2 || r.any (fun q => q.2.2.2.2)))
      rw [ih, Bool.or_assoc]
  show ls.foldl (fun a q => a || q.2.2.2.2) false = _
  rw [g, Bool.false_or]
end ES3

end
