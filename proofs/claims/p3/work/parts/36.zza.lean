noncomputable section
/-! RUNS THAT END: what must hold of them, path by path. An int is written as the Int whose rest it is. -/
abbrev ec_V : Type := Int ⊕ (Nat ⊕ Int64)
def ec_v (a : ec_V) : Value := match a with
  | .inl e => .int (Int32.ofInt e)
  | .inr (.inl k) => .ref k
  | .inr (.inr x) => .long x
def ec_ct (a : ec_V) : Nat := match a with
  | .inr (.inr _) => 2
  | _ => 1
/-- the int that a number gives -/
def ec_tw (a : Int) : Int := (Int32.ofInt a).toInt
theorem ec_tw_id {a : Int} (h : -2147483648 ≤ a) (h' : a ≤ 2147483647) : ec_tw a = a := Int32.toInt_ofInt_of_le (by omega) (by omega)
theorem ec_tw_in (a : Int) : -2147483648 ≤ ec_tw a ∧ ec_tw a ≤ 2147483647 := by
  have h1 := Int32.le_toInt (Int32.ofInt a)
  have h2 := Int32.toInt_lt (Int32.ofInt a)
  unfold ec_tw
  omega
theorem ec_tw_tw (a : Int) : ec_tw (ec_tw a) = ec_tw a := ec_tw_id (ec_tw_in a).1 (ec_tw_in a).2
theorem ec_of_tw (a : Int) : Int32.ofInt (ec_tw a) = Int32.ofInt a := Int32.ofInt_toInt _
def ec_R (a : Int) : Option Value := some (.int (Int32.ofInt a))
theorem ec_R_inj {a b : Int} (h : ec_R a = ec_R b) : ec_tw a = ec_tw b := by
  unfold ec_R at h
  injection h with h
  injection h with h
  unfold ec_tw
  rw [h]
/-! cells -/
def ec_rd (w : px_W) (k : Nat) (i : Int) : Int := match w[k]? with
  | some (.inl l) => (l.getD i.toNat 0).toInt
  | _ => 0
def ec_fd (w : px_W) (k f : Nat) : Int := match w[k]? with
  | some (.inr (.inr o)) => (match o.2[f]? with
    | some (.int x) => x.toInt
    | _ => 0)
  | _ => 0
def ec_wr (w : px_W) (k : Nat) (i z : Int) : px_W := match w[k]? with
  | some (.inl l) => w.set k (.inl (l.set i.toNat (Int32.ofInt z)))
  | _ => w
def ec_pf (w : px_W) (k f : Nat) (z : Int) : px_W := match w[k]? with
  | some (.inr (.inr o)) => w.set k (.inr (.inr (o.1, o.2.set f (.int (Int32.ofInt z)))))
  | _ => w
def ec_cp (w : px_W) (a b : Nat) (sp dp n : Int) : px_W := match w[a]?, w[b]? with
  | some (.inl la), some (.inl lb) => w.set b (.inl (px_cpy la lb sp.toNat dp.toNat n.toNat))
  | _, _ => w
/-- the shape without ranges -/
def ec_ce (a : sy_Ce) (c : px_E) : Prop := match a, c with
  | .inl (n, _), .inl l => l.length = n
  | .inr (.inl n), .inr (.inl l) => l.length = n
  | .inr (.inr (k, sl)), .inr (.inr o) => o.1 = k ∧ o.2.length = sl.length ∧ (∀ (i : Nat) (r : Int × Int), sl[i]? = some (.inl r) → ∃ x, o.2[i]? = some (.int x)) ∧ ∀ (i a : Nat), sl[i]? = some (.inr a) → o.2[i]? = some (.ref a)
  | _, _ => False
def ec_W (A : List sy_Ce) (w : px_W) : Prop := w.length = A.length ∧ ∀ (k : Nat) (a : sy_Ce), A[k]? = some a → ∃ c, w[k]? = some c ∧ ec_ce a c
theorem ec_W_of {A : List sy_Ce} {w : px_W} (h : sy_W A w) : ec_W A w := by
  refine ⟨h.1, fun k a ha => ?_⟩
  obtain ⟨c, hc, h2⟩ := h.2 k a ha
  refine ⟨c, hc, ?_⟩
  unfold sy_ce at h2
  unfold ec_ce
  split at h2
  · exact h2.1
  · exact h2
  · obtain ⟨e1, e2, e3, e4⟩ := h2
    refine ⟨e1, e2, fun i r hi => ?_, e4⟩
    obtain ⟨x, hx, _⟩ := e3 i r hi
    exact ⟨x, hx⟩
  · exact h2.elim
section EC1
variable {A : List sy_Ce} {w : px_W} {k k' f f' n : Nat} {i i' z : Int} {sg : sy_Sg}
theorem ec_W_row (h : ec_W A w) (ha : A[k]? = some (.inl (n, sg))) : ∃ l, w[k]? = some (.inl l) ∧ l.length = n := by
  obtain ⟨c, hc, h2⟩ := h.2 k _ ha
  match c, h2 with
  | .inl l, h2 => exact ⟨l, hc, h2⟩
theorem ec_W_obj {ci : Nat} {sl : List ((Int × Int) ⊕ Nat)} (h : ec_W A w) (ha : A[k]? = some (.inr (.inr (ci, sl)))) : ∃ o : Nat × List Value, w[k]? = some (.inr (.inr o)) ∧ o.1 = ci ∧ o.2.length = sl.length ∧ (∀ (i : Nat) (r : Int × Int), sl[i]? = some (.inl r) → ∃ x, o.2[i]? = some (.int x)) ∧ ∀ (i a : Nat), sl[i]? = some (.inr a) → o.2[i]? = some (.ref a) := by
  obtain ⟨c, hc, h2⟩ := h.2 k _ ha
  match c, h2 with
  | .inr (.inr o), h2 => exact ⟨o, hc, h2⟩
theorem ec_W_set {c : px_E} (h : ec_W A w) (hc : ∀ a, A[k]? = some a → ec_ce a c) : ec_W A (w.set k c) := by
  refine ⟨by rw [List.length_set]; exact h.1, fun j a ha => ?_⟩
  by_cases hj : k = j
  · subst hj
    obtain ⟨c0, h0, _⟩ := h.2 k a ha
    exact ⟨c, List.getElem?_set_self (List.getElem?_eq_some_iff.mp h0).1, hc a ha⟩
  · obtain ⟨c0, h0, h1⟩ := h.2 j a ha
    exact ⟨c0, by rw [List.getElem?_set_ne hj]; exact h0, h1⟩
theorem ec_W_wr (h : ec_W A w) : ec_W A (ec_wr w k i z) := by
  unfold ec_wr
  split
  · rename_i l hl
    refine ec_W_set h (fun a ha => ?_)
    obtain ⟨c, hc, h2⟩ := h.2 k a ha
    rw [hl] at hc
    cases hc
    match a, h2 with
    | .inl (n, _), h2 =>
      show (l.set _ _).length = n
      rw [List.length_set]
      exact h2
  · exact h
theorem ec_W_pf {ci : Nat} {sl : List ((Int × Int) ⊕ Nat)} {rg : Int × Int} (ha : A[k]? = some (.inr (.inr (ci, sl)))) (hf : sl[f]? = some (.inl rg)) (h : ec_W A w) : ec_W A (ec_pf w k f z) := by
  unfold ec_pf
  split
  · rename_i o ho
    refine ec_W_set h (fun a ha' => ?_)
    rw [ha] at ha'
    cases ha'
    obtain ⟨o', ho', e1, e2, e3, e4⟩ := ec_W_obj h ha
    rw [ho] at ho'
    cases ho'
    refine ⟨e1, by rw [List.length_set]; exact e2, fun i r hi => ?_, fun i a hi => ?_⟩
    · by_cases hfi : f = i
      · subst hfi
        obtain ⟨x, hx⟩ := e3 f r hi
        exact ⟨_, List.getElem?_set_self (List.getElem?_eq_some_iff.mp hx).1⟩
      · show ∃ x, (o.2.set f _)[i]? = _
        rw [List.getElem?_set_ne hfi]
        exact e3 i r hi
    · have hfi : f ≠ i := by
        rintro rfl
        rw [hf] at hi
        cases hi
      show (o.2.set f _)[i]? = _
      rw [List.getElem?_set_ne hfi]
      exact e4 i a hi
  · exact h
theorem ec_rd_in (w : px_W) (k : Nat) (i : Int) : -2147483648 ≤ ec_rd w k i ∧ ec_rd w k i ≤ 2147483647 := by
  unfold ec_rd
  split
  · rename_i l _
    have h1 := Int32.le_toInt (l.getD i.toNat 0)
    have h2 := Int32.toInt_lt (l.getD i.toNat 0)
    omega
  · omega
theorem ec_fd_in (w : px_W) (k f : Nat) : -2147483648 ≤ ec_fd w k f ∧ ec_fd w k f ≤ 2147483647 := by
  unfold ec_fd
  split
  · split
    · rename_i x _
      have h1 := Int32.le_toInt x
      have h2 := Int32.toInt_lt x
      omega
    · omega
  · omega
theorem ec_tw_rd (w : px_W) (k : Nat) (i : Int) : ec_tw (ec_rd w k i) = ec_rd w k i := ec_tw_id (ec_rd_in w k i).1 (ec_rd_in w k i).2
theorem ec_tw_fd (w : px_W) (k f : Nat) : ec_tw (ec_fd w k f) = ec_fd w k f := ec_tw_id (ec_fd_in w k f).1 (ec_fd_in w k f).2
theorem ec_wr_ne (h : k ≠ k') : (ec_wr w k i z)[k']? = w[k']? := by
  unfold ec_wr
  split
  · rw [List.getElem?_set_ne h]
  · rfl
theorem ec_pf_ne (h : k ≠ k') : (ec_pf w k f z)[k']? = w[k']? := by
  unfold ec_pf
  split
  · rw [List.getElem?_set_ne h]
  · rfl
theorem ec_cp_ne {a b : Nat} {sp dp n : Int} (h : b ≠ k') : (ec_cp w a b sp dp n)[k']? = w[k']? := by
  unfold ec_cp
  split
  · rw [List.getElem?_set_ne h]
  · rfl
theorem ec_rd_cg {w' : px_W} (h : w'[k]? = w[k]?) : ec_rd w' k i = ec_rd w k i := by
  unfold ec_rd
  rw [h]
theorem ec_fd_cg {w' : px_W} (h : w'[k]? = w[k]?) : ec_fd w' k f = ec_fd w k f := by
  unfold ec_fd
  rw [h]
theorem ec_rd_wr_o (h : k ≠ k') : ec_rd (ec_wr w k i z) k' i' = ec_rd w k' i' := ec_rd_cg (ec_wr_ne h)
theorem ec_rd_pf_o (h : k ≠ k') : ec_rd (ec_pf w k f z) k' i' = ec_rd w k' i' := ec_rd_cg (ec_pf_ne h)
theorem ec_fd_wr_o (h : k ≠ k') : ec_fd (ec_wr w k i z) k' f' = ec_fd w k' f' := ec_fd_cg (ec_wr_ne h)
theorem ec_fd_pf_o (h : k ≠ k') : ec_fd (ec_pf w k f z) k' f' = ec_fd w k' f' := ec_fd_cg (ec_pf_ne h)
theorem ec_rd_wr (hW : ec_W A w) (ha : A[k]? = some (.inl (n, sg))) (h0 : 0 ≤ i) (h1 : i < (n : Int)) (h2 : 0 ≤ i') : ec_rd (ec_wr w k i z) k i' = if i' = i then ec_tw z else ec_rd w k i' := by
  obtain ⟨l, hl, hn⟩ := ec_W_row hW ha
  unfold ec_rd ec_wr
  rw [hl]
  dsimp only
  rw [List.getElem?_set_self (List.getElem?_eq_some_iff.mp hl).1]
  dsimp only
  by_cases he : i' = i
  · subst he
    rw [if_pos rfl, List.getD_eq_getElem?_getD, List.getElem?_set_self (by omega)]
    rfl
  · rw [if_neg he, List.getD_eq_getElem?_getD, List.getElem?_set_ne (by omega), List.getD_eq_getElem?_getD]
theorem ec_fd_pf {ci : Nat} {sl : List ((Int × Int) ⊕ Nat)} (hW : ec_W A w) (ha : A[k]? = some (.inr (.inr (ci, sl)))) (h1 : f < sl.length) : ec_fd (ec_pf w k f z) k f' = if f' = f then ec_tw z else ec_fd w k f' := by
  obtain ⟨o, ho, e1, e2, _, _⟩ := ec_W_obj hW ha
  unfold ec_fd ec_pf
  rw [ho]
  dsimp only
  rw [List.getElem?_set_self (List.getElem?_eq_some_iff.mp ho).1]
  dsimp only
  by_cases he : f' = f
  · subst he
    rw [if_pos rfl, List.getElem?_set_self (by omega)]
    rfl
  · rw [if_neg he, List.getElem?_set_ne (fun q => he q.symm)]
end EC1
/-! locals -/
def ec_lk (L : List (Nat × ec_V)) (k : Nat) : Option ec_V := match L with
  | [] => none
  | q :: r => if q.1 = k then some q.2 else ec_lk r k
/-- a local that stays when k is written -/
def ec_kp (k : Nat) (z : Nat × ec_V) : Bool := !(Nat.beq z.1 k) && !(Nat.beq (z.1 + 1) k && Nat.beq (ec_ct z.2) 2)
def ec_set (L : List (Nat × ec_V)) (k : Nat) (v : ec_V) : List (Nat × ec_V) := match L with
  | [] => [(k, v)]
  | q :: r => cond (Nat.beq q.1 k) ((k, v) :: r.filter (ec_kp k)) (cond (Nat.ble q.1 k) (cond (ec_kp k q) (q :: ec_set r k v) (ec_set r k v)) ((k, v) :: q :: r.filter (ec_kp k)))
def ec_ok (L : List (Nat × ec_V)) (lc : List (Nat × Value)) : Prop := ∀ q ∈ L, px_look lc q.1 = some (ec_v q.2)
theorem ec_lk_mem : ∀ {L : List (Nat × ec_V)} {k : Nat} {v : ec_V}, ec_lk L k = some v → (k, v) ∈ L
  | [], _, _, h => by cases h
  | q :: r, k, v, h => by
    unfold ec_lk at h
    split at h
    · rename_i e
      cases h
      subst e
      exact List.mem_cons_self
    · exact List.mem_cons_of_mem _ (ec_lk_mem h)
theorem ec_set_mem : ∀ {L : List (Nat × ec_V)} {k : Nat} {v : ec_V} {q : Nat × ec_V}, q ∈ ec_set L k v → q = (k, v) ∨ (q ∈ L ∧ ec_kp k q = true)
  | [], k, v, q, h => .inl (List.mem_singleton.mp h)
  | p :: r, k, v, q, h => by
    unfold ec_set at h
    cases h1 : Nat.beq p.1 k with
    | true =>
      rw [h1] at h
      rcases List.mem_cons.mp h with h | h
      · exact .inl h
      · have := List.mem_filter.mp h
        exact .inr ⟨List.mem_cons_of_mem _ this.1, this.2⟩
    | false =>
      rw [h1] at h
      have hne := Nat.ne_of_beq_eq_false h1
      cases h2 : Nat.ble p.1 k with
      | true =>
        rw [h2] at h
        cases h3 : ec_kp k p with
        | true =>
          rw [h3] at h
          rcases List.mem_cons.mp h with h | h
          · subst h
            exact .inr ⟨List.mem_cons_self, h3⟩
          · rcases ec_set_mem h with h | h
            · exact .inl h
            · exact .inr ⟨List.mem_cons_of_mem _ h.1, h.2⟩
        | false =>
          rw [h3] at h
          rcases ec_set_mem h with h | h
          · exact .inl h
          · exact .inr ⟨List.mem_cons_of_mem _ h.1, h.2⟩
      | false =>
        rw [h2] at h
        rcases List.mem_cons.mp h with h | h
        · exact .inl h
        · rcases List.mem_cons.mp h with h | h
          · subst h
            refine .inr ⟨List.mem_cons_self, ?_⟩
            have hlt : ¬ q.1 ≤ k := fun e => by rw [Nat.ble_eq_true_of_le e] at h2; cases h2
            unfold ec_kp
            rw [h1]
            have h4 : Nat.beq (q.1 + 1) k = false := by
              cases h5 : Nat.beq (q.1 + 1) k with
              | false => rfl
              | true =>
                have := Nat.eq_of_beq_eq_true h5
                omega
            rw [h4]
            rfl
          · have := List.mem_filter.mp h
            exact .inr ⟨List.mem_cons_of_mem _ this.1, this.2⟩
theorem ec_cat (a : ec_V) : (ec_v a).category = ec_ct a := by
  match a with
  | .inl _ => rfl
  | .inr (.inl _) => rfl
  | .inr (.inr _) => rfl
theorem ec_look_flt {p : Nat × Value → Bool} {j : Nat} {u : Value} (hp : p (j, u) = true) : ∀ {lc : List (Nat × Value)}, px_look lc j = some u → px_look (lc.filter p) j = some u
  | [], h => h
  | q :: r, h => by
    rw [px_look_cons] at h
    split at h
    · rename_i e
      cases h
      subst e
      rw [List.filter_cons_of_pos hp, px_look_cons, if_pos rfl]
    · rename_i e
      have ih := ec_look_flt hp h
      by_cases hq : p q = true
      · rw [List.filter_cons_of_pos hq, px_look_cons, if_neg e]
        exact ih
      · rw [List.filter_cons_of_neg hq]
        exact ih
theorem ec_look_sto {lc : List (Nat × Value)} {k j : Nat} {v u : Value} (hj : j ≠ k) (hu : ¬ (j + 1 = k ∧ u.category = 2)) (h : px_look lc j = some u) : px_look (px_sto lc k v) j = some u := by
  unfold px_sto
  rw [px_look_cons, if_neg (fun e => hj e.symm)]
  refine ec_look_flt ?_ h
  show (!(j == k) && !(j + 1 == k && u.category == 2)) = true
  rw [beq_eq_false_iff_ne.mpr hj]
  simp only [Bool.not_false, Bool.true_and, Bool.not_eq_true', Bool.and_eq_false_imp, beq_iff_eq, beq_eq_false_iff_ne]
  exact fun e1 e2 => hu ⟨e1, e2⟩
theorem ec_sto_ok {L : List (Nat × ec_V)} {lc : List (Nat × Value)} (h : ec_ok L lc) (k : Nat) (v : ec_V) : ec_ok (ec_set L k v) (px_sto lc k (ec_v v)) := by
  intro q hq
  rcases ec_set_mem hq with rfl | ⟨h1, h2⟩
  · unfold px_sto
    rw [px_look_cons, if_pos rfl]
  · unfold ec_kp at h2
    simp only [Bool.and_eq_true, Bool.not_eq_true', Bool.and_eq_false_imp] at h2
    refine ec_look_sto (Nat.ne_of_beq_eq_false h2.1) (fun e => ?_) (h q h1)
    have h3 := h2.2 (by rw [e.1]; exact Nat.beq_refl _)
    rw [ec_cat] at e
    rw [e.2] at h3
    cases h3
def ec_args : Nat → List ec_V → List (Nat × ec_V)
  | _, [] => []
  | i, a :: r => (i, a) :: ec_args (i + ec_ct a) r
theorem ec_ct_pos (a : ec_V) : 1 ≤ ec_ct a := by
  match a with
  | .inl _ => exact Nat.le_refl _
  | .inr (.inl _) => exact Nat.le_refl _
  | .inr (.inr _) => exact Nat.le_succ _
theorem ec_args_ge : ∀ (as : List ec_V) (i : Nat), ∀ q ∈ ec_args i as, i ≤ q.1
  | [], _, q, h => absurd h List.not_mem_nil
  | a :: r, i, q, h => by
    rcases List.mem_cons.mp h with rfl | h
    · exact Nat.le_refl _
    · have := ec_args_ge r _ q h
      omega
theorem ec_args_ok : ∀ (as : List ec_V) (i : Nat), ec_ok (ec_args i as) (lv_args i (as.map ec_v))
  | [], _, q, h => absurd h List.not_mem_nil
  | a :: r, i, q, h => by
    have e : lv_args i ((a :: r).map ec_v) = (i, ec_v a) :: lv_args (i + ec_ct a) (r.map ec_v) := by
      match a with
      | .inl _ => rfl
      | .inr (.inl _) => rfl
      | .inr (.inr _) => rfl
    rw [e, px_look_cons]
    rcases List.mem_cons.mp h with rfl | h
    · rw [if_pos rfl]
    · have := ec_args_ge r _ q h
      have := ec_ct_pos a
      rw [if_neg (by omega)]
      exact ec_args_ok r (i + ec_ct a) q h

end
