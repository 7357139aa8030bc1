noncomputable section
/-! RULES: the tokens of a TEXT -/
def er_lt (c : Int) : Bool := decide (97 ≤ c) && decide (c ≤ 122)
def er_dg (c : Int) : Bool := decide (48 ≤ c) && decide (c ≤ 57)
theorem er_lt_ok {c : Int} : er_lt c = true ↔ 97 ≤ c ∧ c ≤ 122 := by
  unfold er_lt
  rw [Bool.and_eq_true, decide_eq_true_iff, decide_eq_true_iff]
theorem er_dg_ok {c : Int} : er_dg c = true ↔ 48 ≤ c ∧ c ≤ 57 := by
  unfold er_dg
  rw [Bool.and_eq_true, decide_eq_true_iff, decide_eq_true_iff]
/-- the end of a run of bytes of a sort -/
def er_run (p : Nat → Bool) (n : Nat) : Nat → Nat → Nat
  | 0, i => i
  | k + 1, i => if i < n ∧ p i = true then er_run p n k (i + 1) else i
def er_end (p : Nat → Bool) (n i : Nat) : Nat := er_run p n (n - i) i
theorem er_end_s {p : Nat → Bool} {n i : Nat} : er_end p n i = if i < n ∧ p i = true then er_end p n (i + 1) else i := by
  unfold er_end
  by_cases h : i < n
  · have e : n - i = (n - (i + 1)) + 1 := by omega
    rw [e]
    rfl
  · have e : n - i = 0 := by omega
    rw [e, if_neg (fun x => h x.1)]
    rfl
theorem er_end_y {p : Nat → Bool} {n i : Nat} (h : i < n) (hp : p i = true) : er_end p n i = er_end p n (i + 1) := by
  rw [er_end_s, if_pos ⟨h, hp⟩]
theorem er_end_n {p : Nat → Bool} {n i : Nat} (h : i < n → p i = false) : er_end p n i = i := by
  rw [er_end_s, if_neg (fun x => by
    have := h x.1
    rw [x.2] at this
    cases this)]
theorem er_end_b {p : Nat → Bool} {n : Nat} : ∀ (k i : Nat), i + k = n → i ≤ er_end p n i ∧ er_end p n i ≤ n
  | 0, i, h => by
    rw [er_end_n (fun q => by omega)]
    omega
  | k + 1, i, h => by
    have ih := er_end_b (p := p) (n := n) k (i + 1) (by omega)
    by_cases q : p i = true
    · rw [er_end_y (by omega) q]
      omega
    · rw [er_end_n (fun _ => by
        cases t : p i with
        | false => rfl
        | true => exact absurd t q)]
      omega
/-- inside a run -/
theorem er_end_in {p : Nat → Bool} {n : Nat} : ∀ (k i j : Nat), i + k = n → i ≤ j → j < er_end p n i → p j = true
  | 0, i, j, h, h1, h2 => by
    rw [er_end_n (fun q => by omega)] at h2
    omega
  | k + 1, i, j, h, h1, h2 => by
    by_cases q : p i = true
    · by_cases e : j = i
      · rw [e]
        exact q
      · rw [er_end_y (by omega) q] at h2
        exact er_end_in k (i + 1) j (by omega) (by omega) h2
    · rw [er_end_n (fun _ => by
        cases t : p i with
        | false => rfl
        | true => exact absurd t q)] at h2
      omega
def er_sk (t : Nat → Int) (n i : Nat) : Nat := er_end (fun i => decide (t i = 32)) n i
def er_en (t : Nat → Int) (n i : Nat) : Nat := if er_lt (t i) = true then er_end (fun i => er_lt (t i)) n (i + 1) else if er_dg (t i) = true then er_end (fun i => er_dg (t i)) n (i + 1) else i + 1
theorem er_en_b {t : Nat → Int} {n i : Nat} (h : i < n) : i < er_en t n i ∧ er_en t n i ≤ n := by
  unfold er_en
  have h1 := er_end_b (p := fun i => er_lt (t i)) (n := n) (n - (i + 1)) (i + 1) (by omega)
  have h2 := er_end_b (p := fun i => er_dg (t i)) (n := n) (n - (i + 1)) (i + 1) (by omega)
  split
  · omega
  · split <;> omega
theorem er_sk_b {t : Nat → Int} {n i : Nat} (h : i ≤ n) : i ≤ er_sk t n i ∧ er_sk t n i ≤ n := er_end_b (n - i) i (by omega)
def er_bs (t : Nat → Int) (i e : Nat) : List Int := (List.range (e - i)).map (fun k => t (i + k))
theorem er_bs_len {t : Nat → Int} {i e : Nat} : (er_bs t i e).length = e - i := by
  unfold er_bs
  rw [List.length_map, List.length_range]
theorem er_bs_at {t : Nat → Int} {i e y : Nat} (h : y < e - i) : (er_bs t i e).getD y 0 = t (i + y) := by
  unfold er_bs
  rw [List.getD_eq_getElem?_getD, List.getElem?_map, List.getElem?_range h]
  rfl
theorem er_bs_is {t : Nat → Int} {i : Nat} {l : List Int} : er_bs t i (i + l.length) = l ↔ ∀ y, y < l.length → t (i + y) = l.getD y 0 := by
  constructor
  · intro h y hy
    rw [← er_bs_at (t := t) (i := i) (e := i + l.length) (by omega), h]
  · intro h
    refine List.ext_getElem? (fun y => ?_)
    by_cases q : y < l.length
    · have h1 := h y q
      have h2 := er_bs_at (t := t) (i := i) (e := i + l.length) (y := y) (by omega)
      rw [h1, List.getD_eq_getElem?_getD, List.getD_eq_getElem?_getD] at h2
      have q2 : y < (er_bs t i (i + l.length)).length := by
        rw [er_bs_len]
        omega
      rw [List.getElem?_eq_getElem q2, List.getElem?_eq_getElem q] at h2 ⊢
      exact congrArg some h2
    · rw [List.getElem?_eq_none (l := er_bs t i (i + l.length)) (by rw [er_bs_len]; omega), List.getElem?_eq_none (l := l) (by omega)]
def er_nb (t : Nat → Int) (i : Nat) : Nat → Int
  | 0 => 0
  | c + 1 => er_nb t i c * 10 + t (i + c) - 48
def er_va (t : Nat → Int) (n i : Nat) : Int := if i < n ∧ er_dg (t i) = true then (if 3 < er_en t n i - i then -1 else er_nb t i (er_en t n i - i)) else 0
/-- the words, as the reference numbers them -/
def er_ws : List (List Int) := [[115, 101, 97, 116, 115], [102, 105, 114, 115, 116], [99, 111, 109, 101], [102, 111, 114], [116, 104, 101, 110], [105, 102], [111, 114], [97, 110, 100], [110, 111, 116], [104, 101, 97, 114, 100], [102, 97, 114], [115, 112, 101, 101, 100], [109, 105, 110, 117, 116, 101], [99, 104, 105, 108, 100, 114, 101, 110], [119, 111, 109, 101, 110], [109, 101, 110]]
def er_ix : List (List Int) → List Int → Nat → Nat
  | [], _, k => k
  | a :: r, b, k => if b = a then k else er_ix r b (k + 1)
def er_wk (b : List Int) : Nat := er_ix er_ws b 0
def er_cc (k : Nat) : Int := [310, 312, 314, 311, 313, 315, 320, 321, 322, 323, 324, 325, 326, 330, 331, 332].getD k 302
def er_co (t : Nat → Int) (n i : Nat) : Int := if i < n then (if er_lt (t i) = true then er_cc (er_wk (er_bs t i (er_en t n i))) else if er_dg (t i) = true then 301 else t i) else 300
/-- where the j-th token begins -/
def er_p (t : Nat → Int) (n : Nat) : Nat → Nat
  | 0 => er_sk t n 0
  | j + 1 => if er_p t n j < n then er_sk t n (er_en t n (er_p t n j)) else n
theorem er_p_b {t : Nat → Int} {n : Nat} : ∀ j, er_p t n j ≤ n
  | 0 => (er_sk_b (Nat.zero_le _)).2
  | j + 1 => by
    show (if er_p t n j < n then er_sk t n (er_en t n (er_p t n j)) else n) ≤ n
    split
    · rename_i h
      exact (er_sk_b (er_en_b h).2).2
    · exact Nat.le_refl _
theorem er_p_s {t : Nat → Int} {n j : Nat} (h : er_p t n j < n) : er_p t n (j + 1) = er_sk t n (er_en t n (er_p t n j)) := if_pos h
theorem er_p_lt {t : Nat → Int} {n j : Nat} (h : er_p t n j < n) : er_p t n j < er_p t n (j + 1) := by
  rw [er_p_s h]
  have h1 := er_en_b (t := t) h
  have h2 := er_sk_b (t := t) h1.2
  omega
theorem er_cc_in : ∀ k : Nat, k < 17 → 302 ≤ er_cc k ∧ er_cc k ≤ 332 := by decide +kernel
theorem er_ix_le : ∀ (l : List (List Int)) (b : List Int) (k : Nat), er_ix l b k ≤ k + l.length
  | [], _, k => Nat.le_refl _
  | a :: r, b, k => by
    show (if b = a then k else er_ix r b (k + 1)) ≤ k + (r.length + 1)
    have := er_ix_le r b (k + 1)
    split <;> omega
theorem er_wk_lt (b : List Int) : er_wk b < 17 := by
  have := er_ix_le er_ws b 0
  have e : er_ws.length = 16 := rfl
  unfold er_wk
  omega
/-- END is where the bytes end -/
theorem er_co_end {t : Nat → Int} {n i : Nat} (ht : ∀ i, i < n → 0 ≤ t i ∧ t i ≤ 255) : er_co t n i = 300 ↔ n ≤ i := by
  unfold er_co
  by_cases h : i < n
  · rw [if_pos h]
    have h1 := ht i h
    have h2 := er_cc_in _ (er_wk_lt (er_bs t i (er_en t n i)))
    constructor
    · intro e
      split at e
      · omega
      · split at e <;> omega
    · intro e
      omega
  · rw [if_neg h]
    constructor
    · intro _
      omega
    · intro _
      rfl
theorem er_nb_in {N : Nat} {t : Nat → Int} (ht : ∀ i, i < N → 0 ≤ t i ∧ t i ≤ 255) {i : Nat} (c : Nat) (hc : c ≤ 3) (hi : i + c ≤ N) : -100000 ≤ er_nb t i c ∧ er_nb t i c ≤ 100000 := by
  have q : c = 0 ∨ c = 1 ∨ c = 2 ∨ c = 3 := by omega
  rcases q with rfl | rfl | rfl | rfl
  · exact ⟨by show (-100000 : Int) ≤ 0; omega, by show (0 : Int) ≤ 100000; omega⟩
  · have a := ht i (by omega)
    show -100000 ≤ (0 : Int) * 10 + t (i + 0) - 48 ∧ (0 : Int) * 10 + t (i + 0) - 48 ≤ 100000
    rw [Nat.add_zero]
    omega
  · have a := ht i (by omega)
    have b := ht (i + 1) (by omega)
    show -100000 ≤ ((0 : Int) * 10 + t (i + 0) - 48) * 10 + t (i + 1) - 48 ∧ ((0 : Int) * 10 + t (i + 0) - 48) * 10 + t (i + 1) - 48 ≤ 100000
    rw [Nat.add_zero]
    omega
  · have a := ht i (by omega)
    have b := ht (i + 1) (by omega)
    have d := ht (i + 2) (by omega)
    show -100000 ≤ (((0 : Int) * 10 + t (i + 0) - 48) * 10 + t (i + 1) - 48) * 10 + t (i + 2) - 48 ∧ (((0 : Int) * 10 + t (i + 0) - 48) * 10 + t (i + 1) - 48) * 10 + t (i + 2) - 48 ≤ 100000
    rw [Nat.add_zero]
    omega

end
