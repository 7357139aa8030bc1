noncomputable section
/-! RULES: each step costs four bytes at least -/
theorem er_end_stop {p : Nat → Bool} {n : Nat} : ∀ (k i : Nat), i + k = n → er_end p n i < n → p (er_end p n i) = false
  | 0, i, h, hl => by
    rw [er_end_n (fun q => by omega)] at hl
    omega
  | k + 1, i, h, hl => by
    by_cases q : p i = true
    · rw [er_end_y (by omega) q] at hl ⊢
      exact er_end_stop k (i + 1) (by omega) hl
    · have q' : p i = false := by
        cases t : p i with
        | false => rfl
        | true => exact absurd t q
      rw [er_end_n (fun _ => q')]
      exact q'
theorem er_ix_ge : ∀ (l : List (List Int)) (b : List Int) (k : Nat), k ≤ er_ix l b k
  | [], _, k => Nat.le_refl _
  | a :: r, b, k => by
    show k ≤ if b = a then k else er_ix r b (k + 1)
    have := er_ix_ge r b (k + 1)
    split <;> omega
theorem er_ix_at : ∀ (l : List (List Int)) (b : List Int) (k : Nat), er_ix l b k < k + l.length → b = l.getD (er_ix l b k - k) []
  | [], b, k, h => by
    have h' : k < k + 0 := h
    omega
  | a :: r, b, k, h => by
    have e : er_ix (a :: r) b k = if b = a then k else er_ix r b (k + 1) := rfl
    have hl : (a :: r).length = r.length + 1 := rfl
    rw [e, hl] at h
    rw [e]
    by_cases q : b = a
    · rw [if_pos q, Nat.sub_self]
      exact q
    · rw [if_neg q] at h
      rw [if_neg q]
      have ih := er_ix_at r b (k + 1) (by omega)
      have ge := er_ix_ge r b (k + 1)
      have es : er_ix r b (k + 1) - k = (er_ix r b (k + 1) - (k + 1)) + 1 := by omega
      rw [es]
      exact ih
def er_ln (k : Nat) : Nat := (er_ws.getD k []).length
theorem er_lnc : ∀ k : Nat, k < 16 → (er_cc k = 323 → er_ln k = 5) ∧ (324 ≤ er_cc k ∧ er_cc k ≤ 326 → 3 ≤ er_ln k) ∧ (er_cc k = 320 → er_ln k = 2) ∧ (er_cc k = 321 → er_ln k = 3) ∧ (er_cc k = 322 → er_ln k = 3) := by decide +kernel
section ES1
variable {t : Nat → Int} {N : Nat}
theorem er_tok_l (hb : ∀ i, i < N → 0 ≤ t i ∧ t i ≤ 255) {i : Nat} (h : 302 ≤ er_co t N i) : i < N ∧ er_lt (t i) = true := by
  unfold er_co at h
  by_cases c : i < N
  · rw [if_pos c] at h
    by_cases d : er_lt (t i) = true
    · exact ⟨c, d⟩
    · rw [if_neg d] at h
      have := hb i c
      split at h <;> omega
  · rw [if_neg c] at h
    omega
theorem er_tok_w (hb : ∀ i, i < N → 0 ≤ t i ∧ t i ≤ 255) {i : Nat} (h : 302 < er_co t N i) : ∃ k, k < 16 ∧ er_co t N i = er_cc k ∧ er_en t N i = i + er_ln k := by
  obtain ⟨c, d⟩ := er_tok_l hb (Int.le_of_lt h)
  have e : er_co t N i = er_cc (er_wk (er_bs t i (er_en t N i))) := by
    unfold er_co
    rw [if_pos c, if_pos d]
  have k17 := er_wk_lt (er_bs t i (er_en t N i))
  have k16 : er_wk (er_bs t i (er_en t N i)) < 16 := by
    by_cases q : er_wk (er_bs t i (er_en t N i)) = 16
    · rw [e, q] at h
      exact absurd h (by decide)
    · omega
  refine ⟨er_wk (er_bs t i (er_en t N i)), k16, e, ?_⟩
  have hx := er_ix_at er_ws (er_bs t i (er_en t N i)) 0 (by
    have : er_ws.length = 16 := rfl
    have k16' : er_ix er_ws (er_bs t i (er_en t N i)) 0 < 16 := k16
    omega)
  have hl : (er_bs t i (er_en t N i)).length = er_ln (er_wk (er_bs t i (er_en t N i))) := congrArg List.length hx
  rw [er_bs_len] at hl
  have := er_en_b (t := t) c
  omega
theorem er_p_le (j : Nat) : er_p t N j ≤ er_p t N (j + 1) := by
  by_cases c : er_p t N j < N
  · exact Nat.le_of_lt (er_p_lt c)
  · have e : er_p t N (j + 1) = N := if_neg c
    rw [e]
    exact er_p_b j
theorem er_p_w (hb : ∀ i, i < N → 0 ≤ t i ∧ t i ≤ 255) {j : Nat} (h : 302 < er_co t N (er_p t N j)) : ∃ k, k < 16 ∧ er_co t N (er_p t N j) = er_cc k ∧ er_p t N j + er_ln k + (if 302 ≤ er_co t N (er_p t N (j + 1)) then 1 else 0) ≤ er_p t N (j + 1) := by
  obtain ⟨k, k16, e, el⟩ := er_tok_w hb h
  obtain ⟨c, d⟩ := er_tok_l hb (Int.le_of_lt h)
  refine ⟨k, k16, e, ?_⟩
  have es := er_p_s c
  have eb := er_en_b (t := t) c
  have sb := er_sk_b (t := t) eb.2
  rw [← es] at sb
  by_cases q : 302 ≤ er_co t N (er_p t N (j + 1))
  · rw [if_pos q]
    obtain ⟨c2, d2⟩ := er_tok_l hb q
    have ne : er_p t N (j + 1) ≠ er_en t N (er_p t N j) := by
      intro z
      have ee : er_en t N (er_p t N j) = er_end (fun i => er_lt (t i)) N (er_p t N j + 1) := if_pos d
      rw [z, ee] at c2 d2
      have st : er_lt (t (er_end (fun i => er_lt (t i)) N (er_p t N j + 1))) = false := er_end_stop (p := fun i => er_lt (t i)) (N - (er_p t N j + 1)) (er_p t N j + 1) (by omega) c2
      rw [st] at d2
      cases d2
    omega
  · rw [if_neg q]
    omega
/-- what is used of the places of tokens -/
def er_PF (C : Nat → Int) (P : Nat → Nat) : Prop := (∀ j, P j ≤ P (j + 1)) ∧ (∀ j, C j ≠ 300 → P j + 1 ≤ P (j + 1)) ∧ (∀ j, C j = 323 → P j + 5 ≤ P (j + 1)) ∧ (∀ j, 324 ≤ C j → C j ≤ 326 → P j + 3 ≤ P (j + 1)) ∧ (∀ j, (C j = 320 ∨ C j = 321) → P j + 2 + (if 302 ≤ C (j + 1) then 1 else 0) ≤ P (j + 1)) ∧ ∀ j, C j = 322 → P j + 3 + (if 302 ≤ C (j + 1) then 1 else 0) ≤ P (j + 1)
theorem er_PF_ok (hb : ∀ i, i < N → 0 ≤ t i ∧ t i ≤ 255) : er_PF (fun j => er_co t N (er_p t N j)) (er_p t N) := by
  have W : ∀ j, 302 < er_co t N (er_p t N j) → ∃ k, k < 16 ∧ er_co t N (er_p t N j) = er_cc k ∧ er_p t N j + er_ln k + (if 302 ≤ er_co t N (er_p t N (j + 1)) then 1 else 0) ≤ er_p t N (j + 1) := fun j h => er_p_w hb h
  refine ⟨er_p_le, fun j h => ?_, fun j h => ?_, fun j h1 h2 => ?_, fun j h => ?_, fun j h => ?_⟩
  · exact er_p_lt (Nat.lt_of_not_le (fun z => h ((er_co_end hb).mpr z)))
  · have h' : er_co t N (er_p t N j) = 323 := h
    obtain ⟨k, k16, e, hp⟩ := W j (by omega)
    have := (er_lnc k k16).1 (by omega)
    omega
  · have h1' : 324 ≤ er_co t N (er_p t N j) := h1
    have h2' : er_co t N (er_p t N j) ≤ 326 := h2
    obtain ⟨k, k16, e, hp⟩ := W j (by omega)
    have := (er_lnc k k16).2.1 ⟨by omega, by omega⟩
    omega
  · have h' : er_co t N (er_p t N j) = 320 ∨ er_co t N (er_p t N j) = 321 := h
    obtain ⟨k, k16, e, hp⟩ := W j (by omega)
    show er_p t N j + 2 + (if 302 ≤ er_co t N (er_p t N (j + 1)) then 1 else 0) ≤ er_p t N (j + 1)
    rcases h' with h' | h'
    · have := (er_lnc k k16).2.2.1 (by omega)
      omega
    · have := (er_lnc k k16).2.2.2.1 (by omega)
      omega
  · have h' : er_co t N (er_p t N j) = 322 := h
    obtain ⟨k, k16, e, hp⟩ := W j (by omega)
    show er_p t N j + 3 + (if 302 ≤ er_co t N (er_p t N (j + 1)) then 1 else 0) ≤ er_p t N (j + 1)
    have := (er_lnc k k16).2.2.2.2 (by omega)
    omega
end ES1
section ES2
variable {C V : Nat → Int} {H : Bool} {M : Nat → Int} {P : Nat → Nat}
theorem er_PF_m (hF : er_PF C P) : ∀ (d j : Nat), P j ≤ P (j + d)
  | 0, j => Nat.le_refl _
  | d + 1, j => Nat.le_trans (er_PF_m hF d j) (hF.1 (j + d))
def er_Qb (C : Nat → Int) (P : Nat → Nat) (j : Nat) (r : er_R) : Prop := ∀ (a : Nat) (s : List Int × Bool), r = (a, some s) → (C j = 40 ∨ (322 ≤ C j ∧ C j ≤ 326)) ∧ P j + 4 * s.1.length + (if C j = 40 then 2 else 1) ≤ P a
theorem er_ts_Q (hF : er_PF C P) {j : Nat} : er_Qb C P j (er_ts C V H M j) := by
  intro a s h
  unfold er_ts at h
  by_cases c1 : C j = 323
  · rw [if_pos c1] at h
    cases h
    have := hF.2.2.1 j c1
    refine ⟨.inr ⟨by omega, by omega⟩, ?_⟩
    rw [if_neg (by omega)]
    show P j + 4 * 1 + 1 ≤ P (j + 1)
    omega
  · rw [if_neg c1] at h
    by_cases c2 : 324 ≤ C j ∧ C j ≤ 326
    · rw [if_pos c2] at h
      by_cases c3 : 60 ≤ C (j + 1) ∧ C (j + 1) ≤ 62
      · rw [if_pos c3] at h
        by_cases c4 : C (j + 2) = 301 ∧ 0 ≤ V (j + 2)
        · rw [if_pos c4] at h
          cases h
          have h1 := hF.2.2.2.1 j c2.1 c2.2
          have h2 : P (j + 1) + 1 ≤ P (j + 2) := hF.2.1 (j + 1) (by omega)
          have h3 : P (j + 2) + 1 ≤ P (j + 3) := hF.2.1 (j + 2) (by omega)
          refine ⟨.inr ⟨by omega, by omega⟩, ?_⟩
          rw [if_neg (by omega)]
          show P j + 4 * 1 + 1 ≤ P (j + 3)
          omega
        · rw [if_neg c4] at h
          cases h
      · rw [if_neg c3] at h
        cases h
    · rw [if_neg c2] at h
      cases h
theorem er_in_Q (hF : er_PF C P) {g : Option (Nat → er_R)} (hg : ∀ f, g = some f → ∀ j, er_Qb C P j (f j)) {k : Nat} (hk : C k = 40) : er_Qb C P k (er_in C g k) := by
  intro a s h
  unfold er_in at h
  cases g with
  | none => cases h
  | some f =>
    dsimp only at h
    cases e : f (k + 1) with
    | mk b r =>
      rw [e] at h
      cases r with
      | none => cases h
      | some r =>
        dsimp only at h
        by_cases c : C b = 41
        · rw [if_pos c] at h
          have ea : b + 1 = a := congrArg Prod.fst h
          have es : r = s := Option.some.inj (congrArg Prod.snd h)
          rw [← ea, ← es]
          have q := (hg f rfl (k + 1) b r e).2
          have h1 := hF.2.1 k (by omega)
          have h2 := hF.2.1 b (by omega)
          refine ⟨.inl hk, ?_⟩
          rw [if_pos hk]
          split at q <;> omega
        · rw [if_neg c] at h
          cases h
theorem er_nt_in : ∀ (f j m : Nat), j ≤ m → m < er_nt C f j → C m = 322
  | 0, j, m, h1, h2 => by
    have h2' : m < j := h2
    omega
  | f + 1, j, m, h1, h2 => by
    have e : er_nt C (f + 1) j = if C j = 322 then er_nt C f (j + 1) else j := rfl
    rw [e] at h2
    by_cases c : C j = 322
    · rw [if_pos c] at h2
      by_cases q : m = j
      · rw [q]
        exact c
      · exact er_nt_in f (j + 1) m (by omega) h2
    · rw [if_neg c] at h2
      omega
theorem er_on_Q (hF : er_PF C P) {g : Option (Nat → er_R)} (hg : ∀ f, g = some f → ∀ j, er_Qb C P j (f j)) {j : Nat} : er_Qb C P j (er_on C V H M g j) := by
  intro a s h
  unfold er_on at h
  obtain ⟨k, hk⟩ : ∃ k, er_nt C 200 j = k := ⟨_, rfl⟩
  have hin : ∀ m, j ≤ m → m < k → C m = 322 := fun m h1 h2 => er_nt_in 200 j m h1 (by rw [hk]; exact h2)
  have hjk : j ≤ k := by
    rw [← hk]
    exact (er_nt_ov 200 j).1
  rw [hk] at h
  have hq : er_Qb C P k (if C k = 40 then er_in C g k else er_ts C V H M k) := by
    by_cases c : C k = 40
    · rw [if_pos c]
      exact er_in_Q hF hg c
    · rw [if_neg c]
      exact er_ts_Q hF
  cases e : (if C k = 40 then er_in C g k else er_ts C V H M k) with
  | mk b r =>
    rw [e] at h
    cases r with
    | none => cases h
    | some r =>
      dsimp only at h
      obtain ⟨q1, q2⟩ := hq b r e
      by_cases ej : k = j
      · rw [ej] at h q1 q2
        rw [if_neg (by omega)] at h
        cases h
        exact ⟨q1, q2⟩
      · have cj : C j = 322 := hin j (Nat.le_refl _) (by omega)
        have ck : C (k - 1) = 322 := hin (k - 1) (by omega) (by omega)
        have h1 := hF.2.2.2.2.2 (k - 1) ck
        have ek : k - 1 + 1 = k := by omega
        rw [ek] at h1
        have hm := er_PF_m hF (k - 1 - j) j
        have em : j + (k - 1 - j) = k - 1 := by omega
        rw [em] at hm
        have tot : P j + 4 * (r.1.length + 1) + 1 ≤ P b := by
          by_cases c : C k = 40
          · rw [if_pos c] at q2
            split at h1 <;> omega
          · rw [if_neg c] at q2
            rw [if_pos (by omega)] at h1
            omega
        refine ⟨.inr ⟨by omega, by omega⟩, ?_⟩
        rw [if_neg (by omega)]
        by_cases pr : (k - j) % 2 = 1
        · rw [if_pos pr] at h
          have ea : b = a := congrArg Prod.fst h
          have es : (r.1 ++ [6], !r.2) = s := Option.some.inj (congrArg Prod.snd h)
          rw [← ea, ← es]
          show P j + 4 * (r.1 ++ [6]).length + 1 ≤ P b
          rw [List.length_append]
          exact tot
        · rw [if_neg pr] at h
          cases h
          omega
theorem er_lp_Q (hF : er_PF C P) {one : Nat → er_R} {code step : Int} {op : Bool → Bool → Bool} (hc : code = 320 ∨ code = 321) (h1 : ∀ j, er_Qb C P j (one j)) {j0 w0 : Nat} : ∀ (f j : Nat) (s : List Int) (b : Bool) (a : Nat) (q : List Int × Bool), P j0 + 4 * s.length + w0 ≤ P j → er_lp C one code step op f j s b = (a, some q) → P j0 + 4 * q.1.length + w0 ≤ P a
  | 0, j, s, b, a, q, hs, h => by
    have h' : (j, some (s, b)) = (a, some q) := h
    cases h'
    exact hs
  | f + 1, j, s, b, a, q, hs, h => by
    have e : er_lp C one code step op (f + 1) j s b = if C j = code then (match one (j + 1) with
      | (a, none) => (a, none)
      | (a, some q) => er_lp C one code step op f a (s ++ q.1 ++ [step]) (op b q.2)) else (j, some (s, b)) := rfl
    rw [e] at h
    by_cases c : C j = code
    · rw [if_pos c] at h
      cases e1 : one (j + 1) with
      | mk x r =>
        rw [e1] at h
        cases r with
        | none => cases h
        | some r =>
          dsimp only at h
          obtain ⟨q1, q2⟩ := h1 (j + 1) x r e1
          have h2 := hF.2.2.2.2.1 j (by rw [c]; exact hc)
          refine er_lp_Q hF hc h1 f x (s ++ r.1 ++ [step]) (op b r.2) a q ?_ h
          have el : (s ++ r.1 ++ [step]).length = s.length + r.1.length + 1 := by
            rw [List.length_append, List.length_append]
            rfl
          rw [el]
          by_cases d : C (j + 1) = 40
          · rw [if_pos d] at q2
            split at h2 <;> omega
          · rw [if_neg d] at q2
            rw [if_pos (by omega)] at h2
            omega
    · rw [if_neg c] at h
      cases h
      exact hs
theorem er_al_Q (hF : er_PF C P) {g : Option (Nat → er_R)} (hg : ∀ f, g = some f → ∀ j, er_Qb C P j (f j)) {j : Nat} : er_Qb C P j (er_al C V H M g j) := by
  intro a s h
  unfold er_al at h
  cases e : er_on C V H M g j with
  | mk b r =>
    rw [e] at h
    cases r with
    | none => cases h
    | some r =>
      dsimp only at h
      obtain ⟨q1, q2⟩ := er_on_Q hF hg b r e
      exact ⟨q1, er_lp_Q hF (.inr rfl) (fun j => er_on_Q hF hg) 200 b r.1 r.2 a s q2 h⟩
theorem er_co2_Q (hF : er_PF C P) {g : Option (Nat → er_R)} (hg : ∀ f, g = some f → ∀ j, er_Qb C P j (f j)) {j : Nat} : er_Qb C P j (er_co2 C V H M g j) := by
  intro a s h
  unfold er_co2 at h
  cases e : er_al C V H M g j with
  | mk b r =>
    rw [e] at h
    cases r with
    | none => cases h
    | some r =>
      dsimp only at h
      obtain ⟨q1, q2⟩ := er_al_Q hF hg b r e
      exact ⟨q1, er_lp_Q hF (.inl rfl) (fun j => er_al_Q hF hg) 200 b r.1 r.2 a s q2 h⟩
theorem er_cd_Q (hF : er_PF C P) : ∀ (l j : Nat), er_Qb C P j (er_cd C V H M l j)
  | 0, j => er_co2_Q hF (fun f e => by cases e)
  | l + 1, j => er_co2_Q hF (fun f e => by
    cases e
    exact fun j => er_cd_Q hF l j)
theorem er_li_Q (hF : er_PF C P) {n0 j a : Nat} {q : er_L} (h : er_li C V H M n0 j = (a, some q)) : P j + 4 * q.2.2.2.1.length ≤ P a := by
  have ov : er_ov C j a := by
    have := er_li_ov (C := C) (V := V) (H := H) (M := M) (n0 := n0) (j := j)
    rw [h] at this
    exact this
  have mono : P j ≤ P a := by
    have := er_PF_m hF (a - j) j
    have e : j + (a - j) = a := by
      have := ov.1
      omega
    rw [e] at this
    exact this
  unfold er_li at h
  by_cases c1 : C j = 310
  · rw [if_pos c1] at h
    split at h
    · split at h
      · split at h
        · split at h
          · cases h
            exact mono
          · cases h
        · cases h
      · cases h
    · cases h
  · rw [if_neg c1] at h
    by_cases c2 : C j = 312
    · rw [if_pos c2] at h
      cases e : er_fi C 4 0 0 999 (j + 1) with
      | mk b s =>
        rw [e] at h
        cases s with
        | none => cases h
        | some rk =>
          dsimp only at h
          split at h
          · cases h
            exact mono
          · cases h
    · rw [if_neg c2] at h
      by_cases c3 : C j = 314
      · rw [if_pos c3] at h
        by_cases c4 : C (j + 1) = 315
        · rw [if_pos c4] at h
          cases e : er_cd C V H M 4 (j + 2) with
          | mk b s =>
            rw [e] at h
            cases s with
            | none => cases h
            | some s =>
              dsimp only at h
              split at h
              · cases h
                obtain ⟨_, q2⟩ := er_cd_Q hF 4 (j + 2) b s e
                have h1 := er_PF_m hF 2 j
                have h2 := hF.1 b
                show P j + 4 * s.1.length ≤ P (b + 1)
                split at q2 <;> omega
              · cases h
        · rw [if_neg c4] at h
          cases h
      · rw [if_neg c3] at h
        cases h
theorem er_rd_Q (hF : er_PF C P) : ∀ (f j : Nat) (ls : List er_L) (ss : List Int) (a : Nat) (q : List er_L × List Int), 4 * ss.length ≤ P j → er_rd C V H M f j ls ss = (a, some q) → 4 * q.2.length ≤ P a
  | 0, j, ls, ss, a, q, hs, h => by
    have erd : er_rd C V H M 0 j ls ss = if C j = 300 then (j, some (ls, ss)) else (j, none) := rfl
    rw [erd] at h
    split at h
    · cases h
      exact hs
    · cases h
  | f + 1, j, ls, ss, a, q, hs, h => by
    have erd : er_rd C V H M (f + 1) j ls ss = if C j = 300 then (j, some (ls, ss)) else (match er_li C V H M ss.length j with
      | (a, none) => (a, none)
      | (a, some q) => er_rd C V H M f a (ls ++ [q]) (ss ++ q.2.2.2.1)) := rfl
    rw [erd] at h
    split at h
    · cases h
      exact hs
    · cases e : er_li C V H M ss.length j with
      | mk b s =>
        rw [e] at h
        cases s with
        | none => cases h
        | some s =>
          dsimp only at h
          refine er_rd_Q hF f b (ls ++ [s]) (ss ++ s.2.2.2.1) a q ?_ h
          have := er_li_Q hF e
          rw [List.length_append]
          omega
end ES2
theorem er_rd_50 {t : Nat → Int} {N : Nat} {H : Bool} {M : Nat → Int} {a : Nat} {q : List er_L × List Int} (hN : N ≤ 200) (hb : ∀ i, i < N → 0 ≤ t i ∧ t i ≤ 255) (h : er_rd (fun j => er_co t N (er_p t N j)) (fun j => er_va t N (er_p t N j)) H M 8 0 [] [] = (a, some q)) : q.2.length ≤ 50 := by
  have h1 := er_rd_Q (er_PF_ok hb) 8 0 [] [] a q (Nat.zero_le _) h
  have h2 := er_p_b (t := t) (n := N) a
  omega

end
