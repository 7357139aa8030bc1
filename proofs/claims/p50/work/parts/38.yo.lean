noncomputable section
/-! A RELATION OF BOTH SIDES, LIVE AND KEPT: over fields, rows and d; what is kept stands 58 cells on -/
abbrev ej_T : Type := (Nat → Nat → Int) → (Nat → Nat → Int) → (Nat → Int) → Prop
def ej_P (P : ej_T) (w : px_W) (o dc : Nat) : Prop := P (fun k f => ec_fd w (k + o) f) (fun k p => ef_a w (k + o) p) (fun p => ef_a w dc p)
def ej_kc (P : ej_T) (w : px_W) : Prop := (ec_fd w 0 14 = 0 ∧ ec_fd w 151 2 = 0) ∨ (ec_fd w 0 14 = 1 ∧ ec_fd w 151 2 = 1 ∧ ej_P P w 58 153)
def ej_RR (P : ej_T) (w : px_W) : Prop := ej_P P w 0 152 ∧ ej_kc P w
/-- it reads these alone: fields, rows up to a length, stretches of d -/
def ej_dep (FL RL DL : List (Nat × Nat)) (P : ej_T) : Prop := ∀ (F F' R R' : Nat → Nat → Int) (D D' : Nat → Int), (∀ q ∈ FL, F' q.1 q.2 = F q.1 q.2) → (∀ q ∈ RL, ∀ p, p < q.2 → R' q.1 p = R q.1 p) → (∀ q ∈ DL, ∀ p, q.1 ≤ p → p < q.2 → D' p = D p) → P F R D → P F' R' D'
def ej_dc (FL RL DL : List (Nat × Nat)) : List (Nat × Nat × Nat) := [(0, 14, 15), (151, 2, 3)] ++ (FL.map (fun q => (q.1, q.2, q.2 + 1)) ++ (FL.map (fun q => (q.1 + 58, q.2, q.2 + 1)) ++ (RL.map (fun q => (q.1, 0, q.2)) ++ (RL.map (fun q => (q.1 + 58, 0, q.2)) ++ (DL.map (fun q => (152, q.1, q.2)) ++ DL.map (fun q => (153, q.1, q.2)))))))
def ej_isO (k : Nat) : Bool := match hb_A[k]? with
  | some (.inr (.inr _)) => true
  | _ => false
def ej_isR (k : Nat) : Bool := match hb_A[k]? with
  | some (.inl _) => true
  | _ => false
def ej_in (k : Nat) : Bool := Nat.ble 1 k && Nat.ble k 58
def ej_sh (FL RL : List (Nat × Nat)) : Bool := FL.all (fun q => ej_in q.1 && (ej_isO q.1 && ej_isO (q.1 + 58))) && RL.all (fun q => ej_in q.1 && (ej_isR q.1 && ej_isR (q.1 + 58)))
theorem ej_isO_ok {k : Nat} (h : ej_isO k = true) : ∃ (ci : Nat) (sl : List ((Int × Int) ⊕ Nat)), hb_A[k]? = some (.inr (.inr (ci, sl))) := by
  unfold ej_isO at h
  split at h
  · rename_i z e
    exact ⟨z.1, z.2, e⟩
  · cases h
theorem ej_isR_ok {k : Nat} (h : ej_isR k = true) : ∃ (n : Nat) (sg : sy_Sg), hb_A[k]? = some (.inl (n, sg)) := by
  unfold ej_isR at h
  split at h
  · rename_i z e
    exact ⟨z.1, z.2, e⟩
  · cases h
theorem ej_in_ok {k : Nat} (h : ej_in k = true) : 1 ≤ k ∧ k ≤ 58 := by
  unfold ej_in at h
  rw [Bool.and_eq_true] at h
  exact ⟨Nat.le_of_ble_eq_true h.1, Nat.le_of_ble_eq_true h.2⟩
theorem ej_shF {FL RL : List (Nat × Nat)} (h : ej_sh FL RL = true) {q : Nat × Nat} (hq : q ∈ FL) : (1 ≤ q.1 ∧ q.1 ≤ 58) ∧ ej_isO q.1 = true ∧ ej_isO (q.1 + 58) = true := by
  unfold ej_sh at h
  rw [Bool.and_eq_true] at h
  have h1 := List.all_eq_true.mp h.1 q hq
  rw [Bool.and_eq_true, Bool.and_eq_true] at h1
  exact ⟨ej_in_ok h1.1, h1.2⟩
theorem ej_shR {FL RL : List (Nat × Nat)} (h : ej_sh FL RL = true) {q : Nat × Nat} (hq : q ∈ RL) : (1 ≤ q.1 ∧ q.1 ≤ 58) ∧ ej_isR q.1 = true ∧ ej_isR (q.1 + 58) = true := by
  unfold ej_sh at h
  rw [Bool.and_eq_true] at h
  have h1 := List.all_eq_true.mp h.2 q hq
  rw [Bool.and_eq_true, Bool.and_eq_true] at h1
  exact ⟨ej_in_ok h1.1, h1.2⟩
section EJ1
variable {P : ej_T} {FL RL DL : List (Nat × Nat)} {w w' : px_W}
/-- one state as another one, place by place -/
theorem ej_P_of {o dc o' dc' : Nat} (hd : ej_dep FL RL DL P) (hF : ∀ q ∈ FL, ec_fd w' (q.1 + o') q.2 = ec_fd w (q.1 + o) q.2) (hR : ∀ q ∈ RL, ∀ p, p < q.2 → ef_a w' (q.1 + o') p = ef_a w (q.1 + o) p) (hD : ∀ q ∈ DL, ∀ p, q.1 ≤ p → p < q.2 → ef_a w' dc' p = ef_a w dc p) (h : ej_P P w o dc) : ej_P P w' o' dc' := hd _ _ _ _ _ _ hF hR hD h
theorem ej_RR_of (hd : ej_dep FL RL DL P) (k1 : ec_fd w' 0 14 = ec_fd w 0 14) (k2 : ec_fd w' 151 2 = ec_fd w 151 2) (hF : ∀ q ∈ FL, ec_fd w' q.1 q.2 = ec_fd w q.1 q.2 ∧ ec_fd w' (q.1 + 58) q.2 = ec_fd w (q.1 + 58) q.2) (hR : ∀ q ∈ RL, ∀ p, p < q.2 → ef_a w' q.1 p = ef_a w q.1 p ∧ ef_a w' (q.1 + 58) p = ef_a w (q.1 + 58) p) (hD : ∀ q ∈ DL, ∀ p, q.1 ≤ p → p < q.2 → ef_a w' 152 p = ef_a w 152 p ∧ ef_a w' 153 p = ef_a w 153 p) (h : ej_RR P w) : ej_RR P w' := by
  refine ⟨ej_P_of hd (fun q hq => (hF q hq).1) (fun q hq p hp => (hR q hq p hp).1) (fun q hq p h1 h2 => (hD q hq p h1 h2).1) h.1, ?_⟩
  rcases h.2 with ⟨h1, h2⟩ | ⟨h1, h2, h3⟩
  · exact .inl ⟨k1.trans h1, k2.trans h2⟩
  · exact .inr ⟨k1.trans h1, k2.trans h2, ej_P_of hd (fun q hq => (hF q hq).2) (fun q hq p hp => (hR q hq p hp).2) (fun q hq p h1 h2 => (hD q hq p h1 h2).2) h3⟩
theorem ej_dc_st (hs : ej_sh FL RL = true) (hd : ej_dep FL RL DL P) (hW : ec_W hb_A w) (hW' : ec_W hb_A w') (h : ∀ p ∈ ej_dc FL RL DL, ∀ i, p.2.1 ≤ i → i < p.2.2 → sy_get w' p.1 i = sy_get w p.1 i) (hR : ej_RR P w) : ej_RR P w' := by
  have m0 : ∀ p ∈ [(0, 14, 15), (151, 2, 3)], p ∈ ej_dc FL RL DL := fun p hp => List.mem_append_left _ hp
  have m1 : ∀ q ∈ FL, (q.1, q.2, q.2 + 1) ∈ ej_dc FL RL DL := fun q hq => List.mem_append_right _ (List.mem_append_left _ (List.mem_map_of_mem hq))
  have m2 : ∀ q ∈ FL, (q.1 + 58, q.2, q.2 + 1) ∈ ej_dc FL RL DL := fun q hq => List.mem_append_right _ (List.mem_append_right _ (List.mem_append_left _ (List.mem_map_of_mem (f := fun q : Nat × Nat => (q.1 + 58, q.2, q.2 + 1)) hq)))
  have m3 : ∀ q ∈ RL, (q.1, 0, q.2) ∈ ej_dc FL RL DL := fun q hq => List.mem_append_right _ (List.mem_append_right _ (List.mem_append_right _ (List.mem_append_left _ (List.mem_map_of_mem (f := fun q : Nat × Nat => (q.1, 0, q.2)) hq))))
  have m4 : ∀ q ∈ RL, (q.1 + 58, 0, q.2) ∈ ej_dc FL RL DL := fun q hq => List.mem_append_right _ (List.mem_append_right _ (List.mem_append_right _ (List.mem_append_right _ (List.mem_append_left _ (List.mem_map_of_mem (f := fun q : Nat × Nat => (q.1 + 58, 0, q.2)) hq)))))
  have m5 : ∀ q ∈ DL, (152, q.1, q.2) ∈ ej_dc FL RL DL := fun q hq => List.mem_append_right _ (List.mem_append_right _ (List.mem_append_right _ (List.mem_append_right _ (List.mem_append_right _ (List.mem_append_left _ (List.mem_map_of_mem (f := fun q : Nat × Nat => (152, q.1, q.2)) hq))))))
  have m6 : ∀ q ∈ DL, (153, q.1, q.2) ∈ ej_dc FL RL DL := fun q hq => List.mem_append_right _ (List.mem_append_right _ (List.mem_append_right _ (List.mem_append_right _ (List.mem_append_right _ (List.mem_append_right _ (List.mem_map_of_mem (f := fun q : Nat × Nat => (153, q.1, q.2)) hq))))))
  have k1 : sy_get w' 0 14 = sy_get w 0 14 := h (0, 14, 15) (m0 _ (by decide)) 14 (by decide) (by decide)
  have k2 : sy_get w' 151 2 = sy_get w 151 2 := h (151, 2, 3) (m0 _ (by decide)) 2 (by decide) (by decide)
  refine ej_RR_of hd (ef_get_f (k := 0) hW hW' rfl k1) (ef_get_f (k := 151) hW hW' rfl k2) (fun q hq => ?_) (fun q hq p hp => ?_) (fun q hq p h1 h2 => ?_) hR
  · obtain ⟨_, o1, o2⟩ := ej_shF hs hq
    obtain ⟨_, _, e1⟩ := ej_isO_ok o1
    obtain ⟨_, _, e2⟩ := ej_isO_ok o2
    exact ⟨ef_get_f hW hW' e1 (h _ (m1 q hq) q.2 (Nat.le_refl _) (Nat.lt_succ_self _)), ef_get_f hW hW' e2 (h _ (m2 q hq) q.2 (Nat.le_refl _) (Nat.lt_succ_self _))⟩
  · obtain ⟨_, o1, o2⟩ := ej_shR hs hq
    obtain ⟨_, _, e1⟩ := ej_isR_ok o1
    obtain ⟨_, _, e2⟩ := ej_isR_ok o2
    exact ⟨ef_get_a hW hW' e1 (h _ (m3 q hq) p (Nat.zero_le _) hp), ef_get_a hW hW' e2 (h _ (m4 q hq) p (Nat.zero_le _) hp)⟩
  · exact ⟨ef_get_a (k := 152) hW hW' rfl (h _ (m5 q hq) p h1 h2), ef_get_a (k := 153) hW hW' rfl (h _ (m6 q hq) p h1 h2)⟩
end EJ1
def ej_aF : List (Nat × Nat) := [(1, 0), (1, 1), (10, 0), (15, 0), (15, 5), (15, 10), (29, 0), (29, 1), (29, 7), (29, 9), (39, 1), (44, 0), (52, 0)]
def ej_aR : List Nat := [2, 3, 4, 5, 6, 7, 11, 12, 13, 14, 16, 17, 18, 19, 20, 21, 22, 23, 24, 25, 26, 27, 30, 31, 32, 33, 34, 35, 36, 37, 38, 40, 41, 42, 43, 45, 46, 47, 48, 49, 50, 51, 54, 55]
theorem ej_copy_kept {w w' : px_W} (h : ef_kept w w') : (∀ q ∈ ej_aF, ec_fd w' (q.1 + 58) q.2 = ec_fd w q.1 q.2) ∧ ∀ k ∈ ej_aR, ef_a w' (k + 58) = ef_a w k := by
  obtain ⟨_, q0, q1, q2, q3, q4, q5, q6, q7, q8, q9, q10, q11, q12, q13, q14, q15, q16, q17, q18, q19, q20, q21, q22, q23, q24, q25, q26, q27, q28, q29, q30, q31, q32, q33, q34, q35, q36, q37, q38, q39, q40, q41, q42, q43, q44, q45, q46, q47, q48, q49, q50, q51, q52, q53, q54, q55, q56⟩ := h
  exact ⟨List.forall_mem_cons.mpr ⟨q6, List.forall_mem_cons.mpr ⟨q7, List.forall_mem_cons.mpr ⟨q12, List.forall_mem_cons.mpr ⟨q25, List.forall_mem_cons.mpr ⟨q26, List.forall_mem_cons.mpr ⟨q27, List.forall_mem_cons.mpr ⟨q37, List.forall_mem_cons.mpr ⟨q38, List.forall_mem_cons.mpr ⟨q39, List.forall_mem_cons.mpr ⟨q40, List.forall_mem_cons.mpr ⟨q45, List.forall_mem_cons.mpr ⟨q53, List.forall_mem_cons.mpr ⟨q56, fun _ h => absurd h List.not_mem_nil⟩⟩⟩⟩⟩⟩⟩⟩⟩⟩⟩⟩⟩, List.forall_mem_cons.mpr ⟨q0, List.forall_mem_cons.mpr ⟨q1, List.forall_mem_cons.mpr ⟨q2, List.forall_mem_cons.mpr ⟨q3, List.forall_mem_cons.mpr ⟨q4, List.forall_mem_cons.mpr ⟨q5, List.forall_mem_cons.mpr ⟨q8, List.forall_mem_cons.mpr ⟨q9, List.forall_mem_cons.mpr ⟨q10, List.forall_mem_cons.mpr ⟨q11, List.forall_mem_cons.mpr ⟨q13, List.forall_mem_cons.mpr ⟨q14, List.forall_mem_cons.mpr ⟨q15, List.forall_mem_cons.mpr ⟨q16, List.forall_mem_cons.mpr ⟨q17, List.forall_mem_cons.mpr ⟨q18, List.forall_mem_cons.mpr ⟨q19, List.forall_mem_cons.mpr ⟨q20, List.forall_mem_cons.mpr ⟨q21, List.forall_mem_cons.mpr ⟨q22, List.forall_mem_cons.mpr ⟨q23, List.forall_mem_cons.mpr ⟨q24, List.forall_mem_cons.mpr ⟨q28, List.forall_mem_cons.mpr ⟨q29, List.forall_mem_cons.mpr ⟨q30, List.forall_mem_cons.mpr ⟨q31, List.forall_mem_cons.mpr ⟨q32, List.forall_mem_cons.mpr ⟨q33, List.forall_mem_cons.mpr ⟨q34, List.forall_mem_cons.mpr ⟨q35, List.forall_mem_cons.mpr ⟨q36, List.forall_mem_cons.mpr ⟨q41, List.forall_mem_cons.mpr ⟨q42, List.forall_mem_cons.mpr ⟨q43, List.forall_mem_cons.mpr ⟨q44, List.forall_mem_cons.mpr ⟨q46, List.forall_mem_cons.mpr ⟨q47, List.forall_mem_cons.mpr ⟨q48, List.forall_mem_cons.mpr ⟨q49, List.forall_mem_cons.mpr ⟨q50, List.forall_mem_cons.mpr ⟨q51, List.forall_mem_cons.mpr ⟨q52, List.forall_mem_cons.mpr ⟨q54, List.forall_mem_cons.mpr ⟨q55, fun _ h => absurd h List.not_mem_nil⟩⟩⟩⟩⟩⟩⟩⟩⟩⟩⟩⟩⟩⟩⟩⟩⟩⟩⟩⟩⟩⟩⟩⟩⟩⟩⟩⟩⟩⟩⟩⟩⟩⟩⟩⟩⟩⟩⟩⟩⟩⟩⟩⟩⟩
theorem ej_copy_back {w w' : px_W} (h : ef_back w w') : (∀ q ∈ ej_aF, ec_fd w' q.1 q.2 = ec_fd w (q.1 + 58) q.2) ∧ ∀ k ∈ ej_aR, ef_a w' k = ef_a w (k + 58) := by
  obtain ⟨_, q0, q1, q2, q3, q4, q5, q6, q7, q8, q9, q10, q11, q12, q13, q14, q15, q16, q17, q18, q19, q20, q21, q22, q23, q24, q25, q26, q27, q28, q29, q30, q31, q32, q33, q34, q35, q36, q37, q38, q39, q40, q41, q42, q43, q44, q45, q46, q47, q48, q49, q50, q51, q52, q53, q54, q55, q56⟩ := h
  exact ⟨List.forall_mem_cons.mpr ⟨q6, List.forall_mem_cons.mpr ⟨q7, List.forall_mem_cons.mpr ⟨q12, List.forall_mem_cons.mpr ⟨q25, List.forall_mem_cons.mpr ⟨q26, List.forall_mem_cons.mpr ⟨q27, List.forall_mem_cons.mpr ⟨q37, List.forall_mem_cons.mpr ⟨q38, List.forall_mem_cons.mpr ⟨q39, List.forall_mem_cons.mpr ⟨q40, List.forall_mem_cons.mpr ⟨q45, List.forall_mem_cons.mpr ⟨q53, List.forall_mem_cons.mpr ⟨q56, fun _ h => absurd h List.not_mem_nil⟩⟩⟩⟩⟩⟩⟩⟩⟩⟩⟩⟩⟩, List.forall_mem_cons.mpr ⟨q0, List.forall_mem_cons.mpr ⟨q1, List.forall_mem_cons.mpr ⟨q2, List.forall_mem_cons.mpr ⟨q3, List.forall_mem_cons.mpr ⟨q4, List.forall_mem_cons.mpr ⟨q5, List.forall_mem_cons.mpr ⟨q8, List.forall_mem_cons.mpr ⟨q9, List.forall_mem_cons.mpr ⟨q10, List.forall_mem_cons.mpr ⟨q11, List.forall_mem_cons.mpr ⟨q13, List.forall_mem_cons.mpr ⟨q14, List.forall_mem_cons.mpr ⟨q15, List.forall_mem_cons.mpr ⟨q16, List.forall_mem_cons.mpr ⟨q17, List.forall_mem_cons.mpr ⟨q18, List.forall_mem_cons.mpr ⟨q19, List.forall_mem_cons.mpr ⟨q20, List.forall_mem_cons.mpr ⟨q21, List.forall_mem_cons.mpr ⟨q22, List.forall_mem_cons.mpr ⟨q23, List.forall_mem_cons.mpr ⟨q24, List.forall_mem_cons.mpr ⟨q28, List.forall_mem_cons.mpr ⟨q29, List.forall_mem_cons.mpr ⟨q30, List.forall_mem_cons.mpr ⟨q31, List.forall_mem_cons.mpr ⟨q32, List.forall_mem_cons.mpr ⟨q33, List.forall_mem_cons.mpr ⟨q34, List.forall_mem_cons.mpr ⟨q35, List.forall_mem_cons.mpr ⟨q36, List.forall_mem_cons.mpr ⟨q41, List.forall_mem_cons.mpr ⟨q42, List.forall_mem_cons.mpr ⟨q43, List.forall_mem_cons.mpr ⟨q44, List.forall_mem_cons.mpr ⟨q46, List.forall_mem_cons.mpr ⟨q47, List.forall_mem_cons.mpr ⟨q48, List.forall_mem_cons.mpr ⟨q49, List.forall_mem_cons.mpr ⟨q50, List.forall_mem_cons.mpr ⟨q51, List.forall_mem_cons.mpr ⟨q52, List.forall_mem_cons.mpr ⟨q54, List.forall_mem_cons.mpr ⟨q55, fun _ h => absurd h List.not_mem_nil⟩⟩⟩⟩⟩⟩⟩⟩⟩⟩⟩⟩⟩⟩⟩⟩⟩⟩⟩⟩⟩⟩⟩⟩⟩⟩⟩⟩⟩⟩⟩⟩⟩⟩⟩⟩⟩⟩⟩⟩⟩⟩⟩⟩⟩
def ej_cp (FL RL : List (Nat × Nat)) : Bool := FL.all (fun q => ej_aF.any (fun p => Nat.beq p.1 q.1 && Nat.beq p.2 q.2)) && RL.all (fun q => ej_aR.any (fun k => Nat.beq k q.1))
theorem ej_cpF {FL RL : List (Nat × Nat)} (h : ej_cp FL RL = true) {q : Nat × Nat} (hq : q ∈ FL) : q ∈ ej_aF := by
  unfold ej_cp at h
  rw [Bool.and_eq_true] at h
  obtain ⟨p, hp, h1⟩ := List.any_eq_true.mp (List.all_eq_true.mp h.1 q hq)
  rw [Bool.and_eq_true] at h1
  have e : p = q := Prod.ext (Nat.eq_of_beq_eq_true h1.1) (Nat.eq_of_beq_eq_true h1.2)
  rw [← e]
  exact hp
theorem ej_cpR {FL RL : List (Nat × Nat)} (h : ej_cp FL RL = true) {q : Nat × Nat} (hq : q ∈ RL) : q.1 ∈ ej_aR := by
  unfold ej_cp at h
  rw [Bool.and_eq_true] at h
  obtain ⟨k, hk, h1⟩ := List.any_eq_true.mp (List.all_eq_true.mp h.2 q hq)
  rw [← Nat.eq_of_beq_eq_true h1]
  exact hk
section EJ2
variable {P : ej_T} {FL RL DL : List (Nat × Nat)}
theorem ej_keep2 (hs : ej_sh FL RL = true) (hc : ej_cp FL RL = true) (hd : ej_dep FL RL DL P) {xs : List Int32} {n : Nat} {w wA wB : px_W} {vA vB : Option Value} (hR : ej_RR P w) (hA : ec_F (hb_XL xs) n 171 [.inr (.inl 64)] w (vA, wA)) (hB : ec_F (hb_XL xs) n 292 [.inr (.inl 215)] wA (vB, wB)) : ej_RR P wB := by
  obtain ⟨w1, e, hW, k1, hk⟩ := ew_keepA (hb_FE hA)
  injection e with e e'
  subst e'
  obtain ⟨w2, e2, hW2, s2, d2, f2⟩ := ew_keepB (hb_FE hB)
  injection e2 with e2 e2'
  subst e2'
  have s1 := hk.1
  have hcp := ej_copy_kept hk
  have n1 : ∀ k, 1 ≤ k → k ≤ 58 → wB[k]? = w[k]? := fun k h1 h2 => (s2 k (fun e => by simp only [List.mem_cons, List.not_mem_nil, or_false] at e; omega)).trans (s1 k (fun e => by simp only [List.mem_cons, List.not_mem_nil, or_false] at e; omega))
  have n2 : ∀ k, 1 ≤ k → k ≤ 58 → wB[k + 58]? = wA[k + 58]? := fun k h1 h2 => s2 (k + 58) (fun e => by simp only [List.mem_cons, List.not_mem_nil, or_false] at e; omega)
  have d1 : ef_a wA 152 = ef_a w 152 := ef_s_a s1 (by decide)
  have d3 : ef_a wB 152 = ef_a wA 152 := ef_s_a s2 (by decide)
  refine ⟨ej_P_of hd (fun q hq => ?_) (fun q hq p hp => ?_) (fun q hq p h1 h2 => ?_) hR.1, .inr ⟨?_, ?_, ej_P_of (o := 0) (dc := 152) hd (fun q hq => ?_) (fun q hq p hp => ?_) (fun q hq p h1 h2 => ?_) hR.1⟩⟩
  · obtain ⟨⟨a, b⟩, _⟩ := ej_shF hs hq
    exact ec_fd_cg (n1 q.1 a b)
  · obtain ⟨⟨a, b⟩, _⟩ := ej_shR hs hq
    exact ec_rd_cg (n1 q.1 a b)
  · rw [d3, d1]
  · rw [ef_s_f s2 (by decide)]
    exact k1
  · rw [f2, if_pos rfl]
  · obtain ⟨⟨a, b⟩, _⟩ := ej_shF hs hq
    exact (ec_fd_cg (n2 q.1 a b)).trans (hcp.1 q (ej_cpF hc hq))
  · obtain ⟨⟨a, b⟩, _⟩ := ej_shR hs hq
    exact (ec_rd_cg (n2 q.1 a b)).trans (congrFun (hcp.2 q.1 (ej_cpR hc hq)) p)
  · rw [d2, d1]
theorem ej_again2 (hs : ej_sh FL RL = true) (hc : ej_cp FL RL = true) (hd : ej_dep FL RL DL P) {xs : List Int32} {n : Nat} {w wA wB : px_W} {vA vB : Option Value} (hR : ej_RR P w) (hA : ec_F (hb_XL xs) n 172 [.inr (.inl 64)] w (vA, wA)) (hB : ec_F (hb_XL xs) n 293 [.inr (.inl 215)] wA (vB, wB)) : ej_RR P wB := by
  rcases ew_againA (hb_FE hA) with ⟨q0, e, hW⟩ | ⟨q0, w1, e, hW, hk⟩
  · injection e with e e'
    have e'' := e'.symm
    subst e''
    rcases hR.2 with ⟨h1, h2⟩ | ⟨h1, h2, h3⟩
    · rcases ew_againB (hb_FE hB) with ⟨p0, e2, hW2⟩ | ⟨p0, _⟩
      · injection e2 with e2 e2'
        rw [e2']
        exact hR
      · exact absurd h2 p0
    · omega
  · injection e with e e'
    subst e'
    have s1 := hk.1
    have hcp := ej_copy_back hk
    rcases hR.2 with ⟨h1, h2⟩ | ⟨h1, h2, h3⟩
    · omega
    · have h2' : ec_fd wA 151 2 = 1 := (ef_s_f s1 (by decide) 2).trans h2
      rcases ew_againB (hb_FE hB) with ⟨p0, _⟩ | ⟨p0, w2, e2, hW2, s2, d2⟩
      · omega
      · injection e2 with e2 e2'
        subst e2'
        have n1 : ∀ k, 1 ≤ k → k ≤ 58 → wB[k]? = wA[k]? := fun k a b => s2 k (fun e => by simp only [List.mem_singleton] at e; omega)
        have n2 : ∀ k, 1 ≤ k → k ≤ 58 → wB[k + 58]? = w[k + 58]? := fun k a b => (s2 (k + 58) (fun e => by simp only [List.mem_singleton] at e; omega)).trans (s1 (k + 58) (fun e => by simp only [List.mem_cons, List.not_mem_nil, or_false] at e; omega))
        have d1 : ef_a wA 153 = ef_a w 153 := ef_s_a s1 (by decide)
        have d3 : ef_a wB 153 = ef_a wA 153 := ef_s_a s2 (by decide)
        refine ⟨ej_P_of (o := 58) (dc := 153) hd (fun q hq => ?_) (fun q hq p hp => ?_) (fun q hq p h1 h2 => ?_) h3, .inr ⟨?_, ?_, ej_P_of hd (fun q hq => ?_) (fun q hq p hp => ?_) (fun q hq p h1 h2 => ?_) h3⟩⟩
        · obtain ⟨⟨a, b⟩, _⟩ := ej_shF hs hq
          exact (ec_fd_cg (n1 q.1 a b)).trans (hcp.1 q (ej_cpF hc hq))
        · obtain ⟨⟨a, b⟩, _⟩ := ej_shR hs hq
          exact (ec_rd_cg (n1 q.1 a b)).trans (congrFun (hcp.2 q.1 (ej_cpR hc hq)) p)
        · rw [d2, d1]
        · rw [ef_s_f s2 (by decide), ef_s_f s1 (by decide)]
          exact h1
        · rw [ef_s_f s2 (by decide)]
          exact h2'
        · obtain ⟨⟨a, b⟩, _⟩ := ej_shF hs hq
          exact ec_fd_cg (n2 q.1 a b)
        · obtain ⟨⟨a, b⟩, _⟩ := ej_shR hs hq
          exact ec_rd_cg (n2 q.1 a b)
        · rw [d3, d1]
end EJ2

end
