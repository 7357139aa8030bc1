noncomputable section
/-! RULES: which VERSION speaks of a minute; the latest LINE of a sort -/
def er_vm (F : Nat → Int) (m : Int) : Nat → Option Nat
  | 0 => none
  | c + 1 => if F c ≤ m then some c else er_vm F m c
theorem er_vm_lt {F : Nat → Int} {m : Int} : ∀ (c v : Nat), er_vm F m c = some v → v < c
  | 0, v, h => by cases h
  | c + 1, v, h => by
    have e : er_vm F m (c + 1) = if F c ≤ m then some c else er_vm F m c := rfl
    rw [e] at h
    split at h
    · cases h
      exact Nat.lt_succ_self _
    · exact Nat.lt_succ_of_lt (er_vm_lt c v h)
theorem er_vm_cg {F G : Nat → Int} {m : Int} : ∀ c : Nat, (∀ v, v < c → F v = G v) → er_vm F m c = er_vm G m c
  | 0, _ => rfl
  | c + 1, h => by
    show (if F c ≤ m then some c else er_vm F m c) = if G c ≤ m then some c else er_vm G m c
    rw [h c (Nat.lt_succ_self _), er_vm_cg c (fun v hv => h v (Nat.lt_succ_of_lt hv))]
def er_oi : Option Nat → Int
  | none => -1
  | some v => (v : Int)
theorem er_oi_in {F : Nat → Int} {m : Int} {c : Nat} : -1 ≤ er_oi (er_vm F m c) ∧ er_oi (er_vm F m c) ≤ (c : Int) := by
  cases e : er_vm F m c with
  | none =>
    show -1 ≤ (-1 : Int) ∧ (-1 : Int) ≤ (c : Int)
    omega
  | some v =>
    have := er_vm_lt c v e
    show -1 ≤ (v : Int) ∧ (v : Int) ≤ (c : Int)
    omega
def er_ll (s : Nat → Int) (x : Int) : Nat → Option Nat
  | 0 => none
  | n + 1 => if s n = x then some n else er_ll s x n
theorem er_ll_cg {s s' : Nat → Int} {x : Int} : ∀ n : Nat, (∀ i, i < n → s i = s' i) → er_ll s x n = er_ll s' x n
  | 0, _ => rfl
  | n + 1, h => by
    show (if s n = x then some n else er_ll s x n) = if s' n = x then some n else er_ll s' x n
    rw [h n (Nat.lt_succ_self _), er_ll_cg n (fun i hi => h i (Nat.lt_succ_of_lt hi))]
theorem er_mg {α : Type} {ls : List er_L} {i : Nat} {q : er_L} (h : ls[i]? = some q) (f : er_L → α) (d : α) : (ls.map f).getD i d = f q := by
  rw [List.getD_eq_getElem?_getD, List.getElem?_map, h]
  rfl
/-- what the latest LINE of a sort tells -/
theorem er_lst {α : Type} (g : List er_L → α) (x : Int) (d : α) (val : er_L → α) (h0 : g [] = d) (hs : ∀ (l : List er_L) (q : er_L), g (l ++ [q]) = if q.1 = x then val q else g l) (ls : List er_L) : (er_ll (fun i => (ls.map (fun q => q.1)).getD i 0) x ls.length = none ∧ g ls = d) ∨ ∃ (i : Nat) (q : er_L), er_ll (fun i => (ls.map (fun q => q.1)).getD i 0) x ls.length = some i ∧ i < ls.length ∧ ls[i]? = some q ∧ q.1 = x ∧ g ls = val q := by
  have main : ∀ n, n ≤ ls.length → (er_ll (fun i => (ls.map (fun q => q.1)).getD i 0) x n = none ∧ g (ls.take n) = d) ∨ ∃ (i : Nat) (q : er_L), er_ll (fun i => (ls.map (fun q => q.1)).getD i 0) x n = some i ∧ i < n ∧ ls[i]? = some q ∧ q.1 = x ∧ g (ls.take n) = val q := by
    intro n
    induction n with
    | zero =>
      intro _
      exact .inl ⟨rfl, by rw [List.take_zero]; exact h0⟩
    | succ n ih =>
      intro hn
      obtain ⟨q, hq⟩ : ∃ q, ls[n]? = some q := ⟨ls[n], List.getElem?_eq_getElem (by omega)⟩
      have et : ls.take (n + 1) = ls.take n ++ [q] := by
        rw [List.take_succ, hq]
        rfl
      have el : er_ll (fun i => (ls.map (fun q => q.1)).getD i 0) x (n + 1) = if q.1 = x then some n else er_ll (fun i => (ls.map (fun q => q.1)).getD i 0) x n := by
        show (if (ls.map (fun q => q.1)).getD n 0 = x then some n else er_ll (fun i => (ls.map (fun q => q.1)).getD i 0) x n) = _
        rw [er_mg hq]
      rw [et, hs, el]
      by_cases e : q.1 = x
      · rw [if_pos e, if_pos e]
        exact .inr ⟨n, q, rfl, Nat.lt_succ_self _, hq, e, rfl⟩
      · rw [if_neg e, if_neg e]
        rcases ih (by omega) with h | ⟨i, q', h1, h2, h3⟩
        · exact .inl h
        · exact .inr ⟨i, q', h1, by omega, h3⟩
  have h := main ls.length (Nat.le_refl _)
  rw [List.take_length] at h
  exact h
theorem er_rd_e {C V : Nat → Int} {H : Bool} {M : Nat → Int} {f j : Nat} {ls : List er_L} {ss : List Int} (h : C j = 300) : er_rd C V H M f j ls ss = (j, some (ls, ss)) := by
  cases f with
  | zero => exact if_pos h
  | succ f => exact if_pos h
section ER18
variable {c n : Nat} {w w1 : px_W} {v : Option Value}
theorem ew_vat {x1 : Int} (hc : c ≤ 6) (h44 : ec_fd w 44 0 = (c : Int)) (h : ec_E hb_X n 82 0 [(0, .inr (.inl 108)), (1, .inl x1)] [] w (v, w1)) : w = w1 ∧ ec_W hb_A w1 ∧ v = ec_R (er_oi (er_vm (ef_a w 45) (ec_tw x1) c)) := by
  have t0 : ec_tw 0 = 0 := rfl
  have lp : ∀ (k : Nat), k ≤ c → ec_E hb_X n 82 7 [(0, .inr (.inl 108)), (1, .inl x1), (2, .inl ((k : Int) - 1))] [] w (v, w1) → (v, w1) = (ec_R (er_oi (er_vm (ef_a w 45) (ec_tw x1) k)), w) ∧ ec_W hb_A w := by
    intro k
    induction k with
    | zero =>
      intro _ h
      obtain ⟨_, hr, hW⟩ := eg82_44_7_0 h (by decide)
      exact ⟨hr, hW⟩
    | succ k ih =>
      intro hk h
      have e : ((k + 1 : Nat) : Int) - 1 = (k : Int) := by omega
      rw [e] at h
      have l1 := eg82_44_7_1 h
      have l2 := eg82_44_7_2 h
      rw [t0, ec_twn (n := k) (by omega), ef_rd w 45 k, ef_tw w 45 k] at l1 l2
      have ev : er_vm (ef_a w 45) (ec_tw x1) (k + 1) = if ef_a w 45 k ≤ ec_tw x1 then some k else er_vm (ef_a w 45) (ec_tw x1) k := rfl
      rw [ev]
      by_cases q : ef_a w 45 k ≤ ec_tw x1
      · rw [if_pos q]
        obtain ⟨_, hr, hW⟩ := l2 (by omega) q
        exact ⟨hr, hW⟩
      · rw [if_neg q]
        exact ih (by omega) (l1 (by omega) (by omega)).2
  have a := (eg82_44_0_0 h).2
  rw [h44] at a
  obtain ⟨hr, hW⟩ := lp c (Nat.le_refl _) a
  injection hr with e1 e2
  rw [e2]
  exact ⟨rfl, hW, e1⟩
def er_ol (u : Nat) : Option Nat → Int
  | none => -1
  | some i => ((u * 8 + i : Nat) : Int)
theorem ew_lln {Ln : Nat → Nat} {x1 x2 : Int} (hc : c ≤ 6) (h44 : ec_fd w 44 0 = (c : Int)) (hl : ∀ u, u < c → ef_a w 46 u = (Ln u : Int) ∧ Ln u ≤ 8) (h : ec_E hb_X n 83 0 [(0, .inr (.inl 108)), (1, .inl x1), (2, .inl x2)] [] w (v, w1)) : w = w1 ∧ ec_W hb_A w1 ∧ ((er_vm (ef_a w 45) (ec_tw x2) c = none ∧ v = ec_R (-1)) ∨ ∃ u, er_vm (ef_a w 45) (ec_tw x2) c = some u ∧ u < c ∧ v = ec_R (er_ol u (er_ll (fun i => ef_a w 47 (u * 8 + i)) (ec_tw x1) (Ln u)))) := by
  have t0 : ec_tw 0 = 0 := rfl
  obtain ⟨_, u2, w2, a1, a2⟩ := eg83_44_0_0 h
  obtain ⟨i2, W2, e2⟩ := ew_vat hc h44 a1
  rw [← i2] at a2 W2
  have b := a2 _ e2 W2
  cases ev : er_vm (ef_a w 45) (ec_tw x2) c with
  | none =>
    rw [ev] at b
    obtain ⟨_, hr, hW⟩ := eg83_44_5_1 b (by decide)
    injection hr with f1 f2
    rw [f2]
    exact ⟨rfl, hW, .inl ⟨rfl, f1⟩⟩
  | some u =>
    have hu := er_vm_lt c u ev
    obtain ⟨l1, l2⟩ := hl u hu
    rw [ev] at b
    have b' : ec_E hb_X n 83 5 [(0, .inr (.inl 108)), (1, .inl x1), (2, .inl x2)] [.inl (u : Int)] w (v, w1) := b
    have k := eg83_44_5_0 b'
    rw [t0, ec_twn (n := u) (by omega), ef_rd w 46 u, l1] at k
    have lp : ∀ (k : Nat), k ≤ 8 → ec_E hb_X n 83 22 [(0, .inr (.inl 108)), (1, .inl x1), (2, .inl x2), (3, .inl (u : Int)), (4, .inl ((k : Int) - 1))] [] w (v, w1) → (v, w1) = (ec_R (er_ol u (er_ll (fun i => ef_a w 47 (u * 8 + i)) (ec_tw x1) k)), w) ∧ ec_W hb_A w := by
      intro k
      induction k with
      | zero =>
        intro _ h
        obtain ⟨_, hr, hW⟩ := eg83_44_22_0 h (by decide)
        exact ⟨hr, hW⟩
      | succ k ih =>
        intro hk h
        have e : ((k + 1 : Nat) : Int) - 1 = (k : Int) := by omega
        rw [e] at h
        have m1 := eg83_44_22_1 h
        have m2 := eg83_44_22_2 h
        have ep : (u : Int) * 8 + (k : Int) = ((u * 8 + k : Nat) : Int) := by omega
        rw [t0, ec_twn (n := k) (by omega), ep, ec_twn (n := u * 8 + k) (by omega), ef_rd w 47 (u * 8 + k), ef_tw w 47 (u * 8 + k)] at m1 m2
        have el : er_ll (fun i => ef_a w 47 (u * 8 + i)) (ec_tw x1) (k + 1) = if ef_a w 47 (u * 8 + k) = ec_tw x1 then some k else er_ll (fun i => ef_a w 47 (u * 8 + i)) (ec_tw x1) k := rfl
        rw [el]
        by_cases q : ef_a w 47 (u * 8 + k) = ec_tw x1
        · rw [if_pos q]
          obtain ⟨_, hr, hW⟩ := m2 (by omega) q
          exact ⟨hr, hW⟩
        · rw [if_neg q]
          exact ih (by omega) (m1 (by omega) q).2
    obtain ⟨hr, hW⟩ := lp (Ln u) l2 (k (by omega)).2
    injection hr with f1 f2
    rw [f2]
    exact ⟨rfl, hW, .inr ⟨u, rfl, hu, f1⟩⟩
/-- the reference reads the VERSION that speaks of a minute -/
theorem ew_rdf {x1 : Int} {H : Bool} (hc : c ≤ 6) (h10 : ef_a w 152 10 = (c : Int)) (hv : ∀ u, u < c → er_VS (fun k p => ef_a w (k + 0) p) (fun p => ef_a w 152 p) u) (hL : er_Le w) (hH : ec_fd w 151 32 = (if H = true then 1 else 0)) (h : ec_E hb_X n 263 0 [(0, .inr (.inl 215)), (1, .inl x1)] [] w (v, w1)) : v = none ∧ ec_W hb_A w1 ∧ ef_s [151, 169, 170, 171] w w1 ∧ (∀ g, g < 24 → ec_fd w1 151 g = ec_fd w 151 g) ∧ ∃ q : List er_L × List Int, er_RS w1 q.1 ∧ ((er_vm (fun u => ef_a w 152 (368 + u)) (ec_tw x1) c = none ∧ q = ([], [])) ∨ ∃ u, u < c ∧ er_vm (fun u => ef_a w 152 (368 + u)) (ec_tw x1) c = some u ∧ q.1.length ≤ 8 ∧ er_KLp (fun k p => ef_a w (k + 0) p) u q.1 ∧ er_Csp (fun k p => ef_a w (k + 0) p) u q.2 ∧ ∃ (N : Nat) (t : Nat → Int) (a : Nat), N ≤ 200 ∧ (∀ y, y < N → 0 ≤ t y ∧ t y ≤ 255) ∧ er_rd (fun j => er_co t N (er_p t N j)) (fun j => er_va t N (er_p t N j)) H (ef_a w 169) 8 0 [] [] = (a, some q)) := by
  have t0 : ec_tw 0 = 0 := rfl
  have t10 : ec_tw 10 = ((10 : Nat) : Int) := rfl
  have hW := h.1
  have lp : ∀ (k i : Nat), i + k = c → ec_E hb_X n 263 4 [(0, .inr (.inl 215)), (1, .inl x1), (2, .inl (er_oi (er_vm (fun u => ef_a w 152 (368 + u)) (ec_tw x1) i))), (3, .inl (i : Int))] [] w (v, w1) → ec_E hb_X n 263 41 [(0, .inr (.inl 215)), (1, .inl x1), (2, .inl (er_oi (er_vm (fun u => ef_a w 152 (368 + u)) (ec_tw x1) c)))] [] w (v, w1) := by
    intro k
    induction k with
    | zero =>
      intro i hi h
      have l := eg263_151_4_0 h
      rw [t10, ef_rd w 152 10, h10, ec_twn (n := c) (by omega), ec_twn (n := i) (by omega)] at l
      have ei : i = c := by omega
      rw [ei] at l
      exact (l (Int.le_refl _)).2
    | succ k ih =>
      intro i hi h
      have l1 := eg263_151_4_1 h
      have l2 := eg263_151_4_2 h
      have ep : 368 + (i : Int) = ((368 + i : Nat) : Int) := by omega
      rw [t10, ef_rd w 152 10, h10, ec_twn (n := c) (by omega), ec_twn (n := i) (by omega), ep, ec_twn (n := 368 + i) (by omega), ef_rd w 152 (368 + i), ef_tw w 152 (368 + i)] at l1 l2
      have ev : er_vm (fun u => ef_a w 152 (368 + u)) (ec_tw x1) (i + 1) = if ef_a w 152 (368 + i) ≤ ec_tw x1 then some i else er_vm (fun u => ef_a w 152 (368 + u)) (ec_tw x1) i := rfl
      have ih' := ih (i + 1) (by omega)
      rw [ev] at ih'
      by_cases q : ef_a w 152 (368 + i) ≤ ec_tw x1
      · rw [if_pos q] at ih'
        exact ih' (eg263_151_34_0 (l2 (by omega) q).2).2
      · rw [if_neg q] at ih'
        exact ih' (eg263_151_34_0 (l1 (by omega) (by omega)).2).2
  have b := lp c 0 (by omega) (eg263_151_0_0 h).2
  cases ev : er_vm (fun u => ef_a w 152 (368 + u)) (ec_tw x1) c with
  | none =>
    rw [ev] at b
    obtain ⟨_, u2, w2, a1, a2⟩ := eg263_151_41_3 b (by decide) (by decide)
    have e0 : er_rd (fun j => er_co (fun _ => 0) 0 (er_p (fun _ => 0) 0 j)) (fun j => er_va (fun _ => 0) 0 (er_p (fun _ => 0) 0 j)) H (ef_a w 169) 8 0 [] [] = (0, some ([], [])) := er_rd_e ((er_co_end (t := fun _ => 0) (n := 0) (fun i hi => absurd hi (Nat.not_lt_zero _))).mpr (Nat.zero_le _))
    obtain ⟨r1, r2, r3, r4, r5⟩ := ew_rv (N := 0) (v := 0) (t := fun _ => 0) (Nat.zero_le _) (by decide) (fun y hy => absurd hy (Nat.not_lt_zero _)) hL hH rfl rfl e0 a1
    obtain ⟨_, hr, hW2⟩ := eg263_151_80_0 (a2 r1 r2)
    injection hr with f1 f2
    rw [f2]
    exact ⟨f1, r2, r3, r4, ([], []), r5, .inl ⟨rfl, rfl⟩⟩
  | some u =>
    have hu := er_vm_lt c u ev
    obtain ⟨N, t, hN, hS, ht, hrd⟩ := hv u hu
    have hS' : ef_a w 152 (374 + u) = (N : Int) := hS
    have ht' : ∀ y, y < N → ef_a w 152 (380 + 200 * u + y) = t y ∧ 0 ≤ t y ∧ t y ≤ 255 := ht
    obtain ⟨a, q, erd, kl, ks⟩ := hrd H (ef_a w 169)
    rw [ev] at b
    have b' : ec_E hb_X n 263 41 [(0, .inr (.inl 215)), (1, .inl x1), (2, .inl (u : Int))] [] w (v, w1) := b
    have k := eg263_151_41_0 b'
    have ep : 374 + (u : Int) = ((374 + u : Nat) : Int) := by omega
    have ep2 : 380 + 200 * (u : Int) = ((380 + 200 * u : Nat) : Int) := by omega
    rw [t0, ec_twn (n := u) (by omega), ep, ec_twn (n := 374 + u) (by omega), ef_rd w 152 (374 + u), hS', ep2] at k
    obtain ⟨_, u2, w2, a1, a2⟩ := k (by omega) (by omega)
    obtain ⟨r1, r2, r3, r4, r5⟩ := ew_rv hN (by omega) ht' hL hH rfl rfl erd a1
    obtain ⟨_, hr, hW2⟩ := eg263_151_80_0 (a2 r1 r2)
    injection hr with f1 f2
    rw [f2]
    exact ⟨f1, r2, r3, r4, q, r5, .inr ⟨u, hu, rfl, er_rd_len 8 0 [] [] a q erd, kl, ks, N, t, a, hN, fun y hy => (ht y hy).2, erd⟩⟩
theorem ew_ismA {x0 : Int} (h : ec_E hb_X n 174 0 [(0, .inl x0)] [] w (v, w1)) : w = w1 ∧ ec_W hb_A w1 ∧ v = ec_R (if 0 ≤ ec_tw x0 ∧ ec_tw x0 ≤ 999 then 1 else 0) := by
  have t0 : ec_tw 0 = 0 := rfl
  have t9 : ec_tw 999 = 999 := rfl
  have k0 := eg174_0_0 h
  have k1 := eg174_0_1 h
  have k2 := eg174_0_2 h
  rw [t0] at k0 k1 k2
  rw [t9] at k1 k2
  have fin : ∀ z : Int, (v, w1) = (ec_R z, w) → ec_W hb_A w → w = w1 ∧ ec_W hb_A w1 ∧ v = ec_R z := by
    intro z hr hW
    injection hr with f1 f2
    rw [f2]
    exact ⟨rfl, hW, f1⟩
  by_cases p : 0 ≤ ec_tw x0
  · by_cases q : ec_tw x0 ≤ 999
    · rw [if_pos ⟨p, q⟩]
      obtain ⟨_, hr, hW⟩ := k2 p q
      exact fin _ hr hW
    · rw [if_neg (fun z => q z.2)]
      obtain ⟨_, hr, hW⟩ := k1 p (by omega)
      exact fin _ hr hW
  · rw [if_neg (fun z => p z.1)]
    obtain ⟨_, hr, hW⟩ := k0 (by omega)
    exact fin _ hr hW
theorem ew_ismB {x0 : Int} (h : ec_E hb_X n 183 0 [(0, .inl x0)] [] w (v, w1)) : w = w1 ∧ ec_W hb_A w1 ∧ v = ec_R (if 0 ≤ ec_tw x0 ∧ ec_tw x0 ≤ 999 then 1 else 0) := by
  have t0 : ec_tw 0 = 0 := rfl
  have t9 : ec_tw 999 = 999 := rfl
  obtain ⟨_, u, w2, a1, a2⟩ := eg183_0_0 h
  obtain ⟨e1, W1⟩ := ew_in a1
  rw [t0, t9] at e1
  injection e1 with e1 i1
  rw [i1] at a2
  obtain ⟨_, hr, hW⟩ := eg183_8_0 (a2 _ e1 W1)
  injection hr with f1 f2
  rw [f2]
  exact ⟨rfl, hW, f1⟩
end ER18

end
