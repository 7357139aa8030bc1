noncomputable section
/-! THE LAW'S LOOP, BY PROGRAM -/
section LZ
variable {x : sy_X} {q : sy_Q} {S : sy_S} {M : px_M} {i : Instr} {len : Nat} {l : List sy_S}
def sy_haltL (PM : List px_M) (j N0 : Nat) (cuts : List sy_Cut) (m : sy_L) (S : sy_S) : Option Bool := match S.2.2 with
  | _ :: _ => none
  | [] => if S.2.1.2.2.2 = [] ∧ cuts.any (fun c => c.1 == S.2.1.2.1) = true ∧ S.2.1.1 = j then some (cuts.any (sy_atC N0 m S)) else (match PM[S.2.1.1]? with
    | some M => (match px_look M.2.1 S.2.1.2.1 with
      | some (i, len) => (match sy_rt S.1.1 i len M.1.2.2.2.1 S.2.1.2.2.2 with
        | some v => some (decide (v = some (.inl (sy_c 1))))
        | none => none)
      | none => none)
    | none => none)
theorem sy_atC_ok {cuts : List sy_Cut} {ρ0 : Nat → Int} {N0 : Nat} {c : sy_Cut} {m : sy_L} (hI : sy_I x q.2.1 q.2.2.1 q.2.2.2.1 ρ0 N0 M cuts (sy_e q.2.2.2.2.1 m)) (hN : N0 ≤ q.2.2.2.2.2 ∧ ∀ i, i < N0 → q.2.2.2.2.1 i = ρ0 i) (hmw : sy_wl q.2.2.2.2.2 m = true) (hM : q.1[S.2.1.1]? = some M) (hc : c ∈ cuts) (h1 : sy_atC N0 m S c = true) : sy_Good x q S := by
  unfold sy_atC at h1
  rw [Bool.and_eq_true] at h1
  have hgo : ∀ (σ : List sy_L) (σL : List Nat), sy_fitC N0 S c σ σL m = true → sy_Good x q S := fun σ σL h2 => sy_goCut hI hN hmw hM hc h2
  obtain ⟨-, h2⟩ := h1
  rw [Bool.or_eq_true] at h2
  rcases h2 with h2 | h2
  · exact hgo _ _ h2
  · split at h2
    · cases h2
    · rw [Bool.or_eq_true] at h2
      rcases h2 with h2 | h2
      · exact hgo _ _ h2
      · obtain ⟨j, -, h3⟩ := List.any_eq_true.mp h2
        exact hgo _ _ h3
theorem sy_haltL_ok {cuts : List sy_Cut} {j N0 : Nat} {ρ0 : Nat → Int} {m : sy_L} (hMC : q.1[j]? = some M) (hI : sy_I x q.2.1 q.2.2.1 q.2.2.2.1 ρ0 N0 M cuts (sy_e q.2.2.2.2.1 m)) (hN : N0 ≤ q.2.2.2.2.2 ∧ ∀ i, i < N0 → q.2.2.2.2.1 i = ρ0 i) (hmw : sy_wl q.2.2.2.2.2 m = true) (hK : x.2.2.2.2.2.1 = fun v _ => v = some (.int 1)) (h : sy_haltL q.1 j N0 cuts m S = some true) : sy_Good x q S := by
  unfold sy_haltL at h
  split at h
  · cases h
  · rename_i hfs
    split at h
    · rename_i hc
      obtain ⟨c, hcc, h1⟩ := List.any_eq_true.mp (Option.some.inj h)
      exact sy_atC_ok hI hN hmw (by rw [hc.2.2]; exact hMC) hcc h1
    · split at h
      · rename_i M2 hM2
        split at h
        · rename_i i len hq
          split at h
          · rename_i v hv
            have h1 : v = some (.inl (sy_c 1)) := of_decide_eq_true (Option.some.inj h)
            refine sy_goEnd hM2 hq hv hfs (fun ρ τ w hm => ?_)
            rw [hK, h1]
            show some (Value.int (Int32.ofInt (sy_e ρ (sy_c 1)))) = _
            rw [sy_c_e]
            rfl
          · cases h
        · cases h
      · cases h
def sy_allL (cl : List vw_C) (lt : List (List Int32)) (P PM : List px_M) (A : List sy_Ce) (Wr : sy_Wr) (Cs : List sy_Co) (D j N0 : Nat) (cuts : List sy_Cut) (m : sy_L) : Nat → List sy_S → Bool
  | 0, _ => false
  | _ + 1, [] => true
  | n + 1, S :: r => match sy_haltL PM j N0 cuts m S with
    | some b => b && sy_allL cl lt P PM A Wr Cs D j N0 cuts m n r
    | none => (match sy_sucL cl lt P PM A Wr Cs D S with
      | some l => sy_allL cl lt P PM A Wr Cs D j N0 cuts m n (l ++ r)
      | none => false)
theorem sy_allL_ok {cuts : List sy_Cut} {Cs : List sy_Co} {D j N0 : Nat} {ρ0 : Nat → Int} {m : sy_L} {xs : List Int32} (hx : x.2.2.2.1 = some xs) (hlen : xs.length ≤ 3072) (hN1 : 1 ≤ q.2.2.2.2.2 ∧ q.2.2.2.2.1 0 = xs.length) (hCs : ∀ C ∈ Cs, sy_Met x.1 x.2.1 x.2.2.1 q.2.1 x.2.2.2.2.1 C) (hD : D ≤ x.2.2.2.2.2.2) (hMC : q.1[j]? = some M) (hI : sy_I x q.2.1 q.2.2.1 q.2.2.2.1 ρ0 N0 M cuts (sy_e q.2.2.2.2.1 m)) (hN : N0 ≤ q.2.2.2.2.2 ∧ ∀ i, i < N0 → q.2.2.2.2.1 i = ρ0 i) (hmw : sy_wl q.2.2.2.2.2 m = true) (hK : x.2.2.2.2.2.1 = fun v _ => v = some (.int 1)) : ∀ (n : Nat) (l : List sy_S), sy_allL x.1 x.2.1 x.2.2.1 q.1 q.2.1 q.2.2.1 Cs D j N0 cuts m n l = true → ∀ S ∈ l, sy_Good x q S
  | 0, l, h => by cases h
  | n + 1, [], _ => fun S hS => absurd hS List.not_mem_nil
  | n + 1, S0 :: r, h => by
    unfold sy_allL at h
    intro S hS
    split at h
    · rename_i b hb
      rw [Bool.and_eq_true] at h
      rw [h.1] at hb
      rcases List.mem_cons.mp hS with rfl | hS
      · exact sy_haltL_ok hMC hI hN hmw hK hb
      · exact sy_allL_ok hx hlen hN1 hCs hD hMC hI hN hmw hK n r h.2 S hS
    · split at h
      · rename_i l0 hl
        have ih := sy_allL_ok hx hlen hN1 hCs hD hMC hI hN hmw hK n (l0 ++ r) h
        rcases List.mem_cons.mp hS with rfl | hS
        · exact sy_sucL_ok hx hlen hN1 hCs hD hl (fun S' h' => ih S' (List.mem_append_left _ h'))
        · exact ih S (List.mem_append_right _ hS)
      · cases h
end LZ

end
