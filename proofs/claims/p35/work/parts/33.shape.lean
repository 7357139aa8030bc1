noncomputable section
/-! A SHAPE IS CHECKED BY PROGRAM -/
def sy_inB (q : Int × Int) (x : Int32) : Bool := decide (q.1 ≤ x.toInt) && decide (x.toInt ≤ q.2)
theorem sy_inB_ok {q : Int × Int} {x : Int32} (h : sy_inB q x = true) : sy_in q x := by
  unfold sy_inB at h
  simp only [Bool.and_eq_true, decide_eq_true_eq] at h
  exact h
def sy_aI (sg : sy_Sg) : Nat → List Int32 → Bool
  | _, [] => true
  | n, x :: r => sy_inB (sy_seg sg n) x && sy_aI sg (n + 1) r
theorem sy_aI_ok {sg : sy_Sg} : ∀ (l : List Int32) (n : Nat), sy_aI sg n l = true → ∀ (i : Nat) (x : Int32), l[i]? = some x → sy_in (sy_seg sg (n + i)) x
  | [], _, _, i, x, hx => by simp at hx
  | y :: r, n, h, i, x, hx => by
    unfold sy_aI at h
    rw [Bool.and_eq_true] at h
    cases i with
    | zero =>
      rw [List.getElem?_cons_zero] at hx
      cases hx
      exact sy_inB_ok h.1
    | succ i =>
      rw [List.getElem?_cons_succ] at hx
      have := sy_aI_ok r (n + 1) h.2 i x hx
      rw [show n + 1 + i = n + (i + 1) by omega] at this
      exact this
def sy_sl : List ((Int × Int) ⊕ Nat) → List Value → Bool
  | [], [] => true
  | .inl r :: s, .int x :: t => sy_inB r x && sy_sl s t
  | .inr a :: s, .ref b :: t => decide (a = b) && sy_sl s t
  | _, _ => false
theorem sy_sl_ok : ∀ (s : List ((Int × Int) ⊕ Nat)) (t : List Value), sy_sl s t = true → t.length = s.length ∧ (∀ (i : Nat) (r : Int × Int), s[i]? = some (.inl r) → ∃ x, t[i]? = some (.int x) ∧ sy_in r x) ∧ ∀ (i a : Nat), s[i]? = some (.inr a) → t[i]? = some (.ref a)
  | [], [], _ => ⟨rfl, fun i r h => by simp at h, fun i a h => by simp at h⟩
  | .inl r :: s, .int x :: t, h => by
    unfold sy_sl at h
    rw [Bool.and_eq_true] at h
    obtain ⟨h1, h2, h3⟩ := sy_sl_ok s t h.2
    refine ⟨by rw [List.length_cons, List.length_cons, h1], fun i r2 hr => ?_, fun i a ha => ?_⟩
    · cases i with
      | zero =>
        rw [List.getElem?_cons_zero] at hr
        cases hr
        exact ⟨x, rfl, sy_inB_ok h.1⟩
      | succ i =>
        rw [List.getElem?_cons_succ] at hr ⊢
        exact h2 i r2 hr
    · cases i with
      | zero =>
        rw [List.getElem?_cons_zero] at ha
        cases ha
      | succ i =>
        rw [List.getElem?_cons_succ] at ha ⊢
        exact h3 i a ha
  | .inr b :: s, .ref c :: t, h => by
    unfold sy_sl at h
    rw [Bool.and_eq_true] at h
    obtain ⟨h1, h2, h3⟩ := sy_sl_ok s t h.2
    have hbc : b = c := of_decide_eq_true h.1
    refine ⟨by rw [List.length_cons, List.length_cons, h1], fun i r2 hr => ?_, fun i a ha => ?_⟩
    · cases i with
      | zero =>
        rw [List.getElem?_cons_zero] at hr
        cases hr
      | succ i =>
        rw [List.getElem?_cons_succ] at hr ⊢
        exact h2 i r2 hr
    · cases i with
      | zero =>
        rw [List.getElem?_cons_zero] at ha
        cases ha
        rw [List.getElem?_cons_zero, hbc]
      | succ i =>
        rw [List.getElem?_cons_succ] at ha ⊢
        exact h3 i a ha
  | [], _ :: _, h => by simp [sy_sl] at h
  | .inl _ :: _, [], h => by simp [sy_sl] at h
  | .inr _ :: _, [], h => by simp [sy_sl] at h
  | .inl _ :: _, .ref _ :: _, h => by simp [sy_sl] at h
  | .inl _ :: _, .long _ :: _, h => by simp [sy_sl] at h
  | .inl _ :: _, .null :: _, h => by simp [sy_sl] at h
  | .inr _ :: _, .int _ :: _, h => by simp [sy_sl] at h
  | .inr _ :: _, .long _ :: _, h => by simp [sy_sl] at h
  | .inr _ :: _, .null :: _, h => by simp [sy_sl] at h
  | .inl _ :: _, .float _ :: _, h => by simp [sy_sl] at h
  | .inl _ :: _, .double _ :: _, h => by simp [sy_sl] at h
  | .inr _ :: _, .float _ :: _, h => by simp [sy_sl] at h
  | .inr _ :: _, .double _ :: _, h => by simp [sy_sl] at h
def sy_ceB (a : sy_Ce) (c : px_E) : Bool := match a, c with
  | .inl (n, sg), .inl l => decide (l.length = n) && sy_aI sg 0 l
  | .inr (.inl n), .inr (.inl l) => decide (l.length = n)
  | .inr (.inr (k, sl)), .inr (.inr o) => decide (o.1 = k) && sy_sl sl o.2
  | _, _ => false
theorem sy_ceB_ok {a : sy_Ce} {c : px_E} (h : sy_ceB a c = true) : sy_ce a c := by
  unfold sy_ceB at h
  unfold sy_ce
  split at h
  · rw [Bool.and_eq_true] at h
    refine ⟨of_decide_eq_true h.1, fun i x hx => ?_⟩
    have := sy_aI_ok _ 0 h.2 i x hx
    rw [Nat.zero_add] at this
    exact this
  · exact of_decide_eq_true h
  · rw [Bool.and_eq_true] at h
    obtain ⟨h1, h2, h3⟩ := sy_sl_ok _ _ h.2
    exact ⟨of_decide_eq_true h.1, h1, h2, h3⟩
  · cases h
def sy_WB : List sy_Ce → px_W → Bool
  | [], [] => true
  | a :: r, c :: s => sy_ceB a c && sy_WB r s
  | _, _ => false
theorem sy_WB_ok : ∀ {A : List sy_Ce} {w : px_W}, sy_WB A w = true → sy_W A w
  | [], [], _ => ⟨rfl, fun k a h => by simp at h⟩
  | a :: r, c :: s, h => by
    unfold sy_WB at h
    rw [Bool.and_eq_true] at h
    obtain ⟨h1, h2⟩ := sy_WB_ok h.2
    refine ⟨by rw [List.length_cons, List.length_cons, h1], fun k a2 hk => ?_⟩
    cases k with
    | zero =>
      rw [List.getElem?_cons_zero] at hk
      cases hk
      exact ⟨c, rfl, sy_ceB_ok h.1⟩
    | succ k =>
      rw [List.getElem?_cons_succ] at hk ⊢
      exact h2 k a2 hk
  | [], _ :: _, h => by simp [sy_WB] at h
  | _ :: _, [], h => by simp [sy_WB] at h

end
