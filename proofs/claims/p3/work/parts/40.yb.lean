noncomputable section
/-! EVERY CASE OF THE LAW -/
theorem hb_fr {Wr : sy_Wr} {w w1 : px_W} (hd : hb_dj Wr eh_dc = true) (hW : ec_W hb_A w) (hW1 : ec_W hb_A w1) (f : ∀ k i : Nat, sy_may Wr k i = false → sy_get w1 k i = sy_get w k i) (hR : eh_RR w) : eh_RR w1 := eh_dc_st hW hW1 (fun p hp i h1 h2 => f p.1 i (hb_dj_ok hd hp h1 h2)) hR
def hb_cp2 (C : sy_Co) : Bool := C.2.1.2.2.1.isEmpty && (C.2.1.2.2.2.isEmpty && (sy_jc C.2.2.2.1 hb_LW && (decide (C.2.1.1 = [sy_full, (0, 1)]) && C.2.2.2.2.2.all (fun p => match p.2 with
  | some (.inl _) => true
  | _ => false))))
theorem hb_bo_01 (z : Int) : 0 ≤ hb_bo z ∧ hb_bo z ≤ 1 := by
  unfold hb_bo
  split <;> decide
theorem hb_use2 {xs : List Int32} {C : sy_Co} (hC : sy_Met hb_cl hb_lt hb_P hb_A (0, 0) C) (hcp : hb_cp2 C = true) {n : Nat} {as : List ec_V} {w w1 : px_W} {v : Option Value} (h : ec_F (hb_XL xs) n C.1 as w (v, w1)) {a b : Int} (ha : hb_in a) (hb : 0 ≤ b ∧ b ≤ 1) (hargs : C.2.2.1.map (sy_v (hb_rh [a, b]) (fun _ => 0)) = as.map ec_v) (hI : hb_I0 w) : (∃ x : Int, v = ec_R x) ∧ ec_W hb_A w1 ∧ hb_I0 w1 ∧ ∀ k i : Nat, sy_may C.2.2.2.1 k i = false → sy_get w1 k i = sy_get w k i := by
  unfold hb_cp2 at hcp
  simp only [Bool.and_eq_true] at hcp
  obtain ⟨c1, c2, c3, c4, c5⟩ := hcp
  have hK := ec_use (X := hb_XL xs) hC h (hb_rh [a, b]) (fun _ => 0) hargs (fun i p hp => by
    rw [of_decide_eq_true c4] at hp
    cases i with
    | zero =>
      have e : sy_full = p := Option.some.inj hp
      rw [← e]
      exact ha
    | succ i =>
      cases i with
      | zero =>
        have e : ((0, 1) : Int × Int) = p := Option.some.inj hp
        rw [← e]
        exact hb
      | succ i =>
        have e : (none : Option (Int × Int)) = some p := hp
        cases e) (fun e he => by rw [List.isEmpty_iff.mp c1] at he; exact absurd he List.not_mem_nil) (fun f hf => by rw [List.isEmpty_iff.mp c2] at hf; exact absurd hf List.not_mem_nil) hI.1 (sy_jc_pre c3 hI.2)
  obtain ⟨k1, k2, p, hp, ρ', τ', _, _, _, _, k3⟩ := hK
  refine ⟨?_, ec_W_of k1, ⟨k1, sy_jc_ok c3 hI.2 k2⟩, k2.1⟩
  have := List.all_eq_true.mp c5 p hp
  split at this
  · rename_i e he
    exact ⟨sy_e ρ' e, by rw [k3, he]; rfl⟩
  · cases this
theorem hb_ca0 (xs : List Int32) (i : Int) : hb_ok xs eh_RR 121 191 [.inr (.inl 64), .inl (hb_sc xs (i + 1))] [.inr (.inl 215), .inl (hb_sc xs (i + 1))] false := by
  intro n w wA vA hI hR hA
  obtain ⟨⟨x, hx⟩, hWA, hIA, fA⟩ := hb_use (C := hb_K121_4) hb_K121_4_ok (by decide +kernel) hA (hb_rh [(hb_sc xs (i + 1))]) (fun _ => 0) hb_ag1 (hb_rh_in (List.forall_mem_cons.mpr ⟨hb_sc_in xs _, fun _ h => absurd h List.not_mem_nil⟩)) hI
  refine ⟨x, hx, hWA, fun vB wB hB => ?_⟩
  obtain ⟨⟨y, hy⟩, hWB, hIB, fB⟩ := hb_use (C := hb_K191_563) hb_K191_563_ok (by decide +kernel) hB (hb_rh [(hb_sc xs (i + 1))]) (fun _ => 0) hb_ag1 (hb_rh_in (List.forall_mem_cons.mpr ⟨hb_sc_in xs _, fun _ h => absurd h List.not_mem_nil⟩)) hIA
  exact ⟨y, hy, hWB, hIB, (ew_minutes2 hR hA hB), fun e => by cases e⟩
theorem hb_ca1 (xs : List Int32) (i : Int) : hb_ok xs eh_RR 122 192 [.inr (.inl 64), .inl (hb_sc xs (i + 1)), .inl (hb_sc xs (i + 2)), .inl (hb_sc xs (i + 3))] [.inr (.inl 215), .inl (hb_sc xs (i + 1)), .inl (hb_sc xs (i + 2)), .inl (hb_sc xs (i + 3))] true := by
  intro n w wA vA hI hR hA
  obtain ⟨⟨x, hx⟩, hWA, hIA, fA⟩ := hb_use (C := hb_K122_5) hb_K122_5_ok (by decide +kernel) hA (hb_rh [(hb_sc xs (i + 1)), (hb_sc xs (i + 2)), (hb_sc xs (i + 3))]) (fun _ => 0) hb_ag3 (hb_rh_in (List.forall_mem_cons.mpr ⟨hb_sc_in xs _, List.forall_mem_cons.mpr ⟨hb_sc_in xs _, List.forall_mem_cons.mpr ⟨hb_sc_in xs _, fun _ h => absurd h List.not_mem_nil⟩⟩⟩)) hI
  refine ⟨x, hx, hWA, fun vB wB hB => ?_⟩
  obtain ⟨⟨y, hy⟩, hWB, hIB, fB⟩ := hb_use (C := hb_K192_564) hb_K192_564_ok (by decide +kernel) hB (hb_rh [(hb_sc xs (i + 1)), (hb_sc xs (i + 2)), (hb_sc xs (i + 3))]) (fun _ => 0) hb_ag3 (hb_rh_in (List.forall_mem_cons.mpr ⟨hb_sc_in xs _, List.forall_mem_cons.mpr ⟨hb_sc_in xs _, List.forall_mem_cons.mpr ⟨hb_sc_in xs _, fun _ h => absurd h List.not_mem_nil⟩⟩⟩)) hIA
  obtain ⟨ev, hRB⟩ := ew_set3 hR  hA hB
  exact ⟨y, hy, hWB, hIB, hRB, fun _ => ec_R_inj (hx.symm.trans (ev.trans hy))⟩
theorem hb_ca2 (xs : List Int32) (i : Int) : hb_ok xs eh_RR 123 194 [.inr (.inl 64), .inl (hb_sc xs (i + 1)), .inl (hb_sc xs (i + 2))] [.inr (.inl 215), .inl (hb_sc xs (i + 1)), .inl (hb_sc xs (i + 2))] false := by
  intro n w wA vA hI hR hA
  obtain ⟨⟨x, hx⟩, hWA, hIA, fA⟩ := hb_use (C := hb_K123_6) hb_K123_6_ok (by decide +kernel) hA (hb_rh [(hb_sc xs (i + 1)), (hb_sc xs (i + 2))]) (fun _ => 0) hb_ag2 (hb_rh_in (List.forall_mem_cons.mpr ⟨hb_sc_in xs _, List.forall_mem_cons.mpr ⟨hb_sc_in xs _, fun _ h => absurd h List.not_mem_nil⟩⟩)) hI
  refine ⟨x, hx, hWA, fun vB wB hB => ?_⟩
  obtain ⟨⟨y, hy⟩, hWB, hIB, fB⟩ := hb_use (C := hb_K194_565) hb_K194_565_ok (by decide +kernel) hB (hb_rh [(hb_sc xs (i + 1)), (hb_sc xs (i + 2))]) (fun _ => 0) hb_ag2 (hb_rh_in (List.forall_mem_cons.mpr ⟨hb_sc_in xs _, List.forall_mem_cons.mpr ⟨hb_sc_in xs _, fun _ h => absurd h List.not_mem_nil⟩⟩)) hIA
  exact ⟨y, hy, hWB, hIB, (ew_wall2 hR hA hB), fun e => by cases e⟩
theorem hb_ca3 (xs : List Int32) (i : Int) : hb_ok xs eh_RR 124 195 [.inr (.inl 64), .inl (hb_sc xs (i + 1)), .inl (hb_bo (hb_sc xs (i + 2)))] [.inr (.inl 215), .inl (hb_sc xs (i + 1)), .inl (hb_bo (hb_sc xs (i + 2)))] false := by
  intro n w wA vA hI hR hA
  obtain ⟨⟨x, hx⟩, hWA, hIA, fA⟩ := hb_use2 (C := hb_K124_7) hb_K124_7_ok (by decide +kernel) hA (hb_sc_in xs _) (hb_bo_01 _) hb_ag2 hI
  refine ⟨x, hx, hWA, fun vB wB hB => ?_⟩
  obtain ⟨⟨y, hy⟩, hWB, hIB, fB⟩ := hb_use2 (C := hb_K195_566) hb_K195_566_ok (by decide +kernel) hB (hb_sc_in xs _) (hb_bo_01 _) hb_ag2 hIA
  exact ⟨y, hy, hWB, hIB, (ew_door2 hR hA hB), fun e => by cases e⟩
theorem hb_ca4 (xs : List Int32) (i : Int) : hb_ok xs eh_RR 125 196 [.inr (.inl 64), .inl (hb_sc xs (i + 1)), .inl (hb_sc xs (i + 2))] [.inr (.inl 215), .inl (hb_sc xs (i + 1)), .inl (hb_sc xs (i + 2))] false := by
  intro n w wA vA hI hR hA
  obtain ⟨⟨x, hx⟩, hWA, hIA, fA⟩ := hb_use (C := hb_K125_8) hb_K125_8_ok (by decide +kernel) hA (hb_rh [(hb_sc xs (i + 1)), (hb_sc xs (i + 2))]) (fun _ => 0) hb_ag2 (hb_rh_in (List.forall_mem_cons.mpr ⟨hb_sc_in xs _, List.forall_mem_cons.mpr ⟨hb_sc_in xs _, fun _ h => absurd h List.not_mem_nil⟩⟩)) hI
  refine ⟨x, hx, hWA, fun vB wB hB => ?_⟩
  obtain ⟨⟨y, hy⟩, hWB, hIB, fB⟩ := hb_use (C := hb_K196_567) hb_K196_567_ok (by decide +kernel) hB (hb_rh [(hb_sc xs (i + 1)), (hb_sc xs (i + 2))]) (fun _ => 0) hb_ag2 (hb_rh_in (List.forall_mem_cons.mpr ⟨hb_sc_in xs _, List.forall_mem_cons.mpr ⟨hb_sc_in xs _, fun _ h => absurd h List.not_mem_nil⟩⟩)) hIA
  exact ⟨y, hy, hWB, hIB, (hb_fr (by decide +kernel) hWA hWB fB (hb_fr (by decide +kernel) hA.1 hWA fA hR)), fun e => by cases e⟩
theorem hb_ca5 (xs : List Int32) (i : Int) : hb_ok xs eh_RR 126 197 [.inr (.inl 64)] [.inr (.inl 215)] false := by
  intro n w wA vA hI hR hA
  obtain ⟨⟨x, hx⟩, hWA, hIA, fA⟩ := hb_use (C := hb_K126_9) hb_K126_9_ok (by decide +kernel) hA (hb_rh []) (fun _ => 0) hb_ag0 (hb_rh_in (fun _ h => absurd h List.not_mem_nil)) hI
  refine ⟨x, hx, hWA, fun vB wB hB => ?_⟩
  obtain ⟨⟨y, hy⟩, hWB, hIB, fB⟩ := hb_use (C := hb_K197_568) hb_K197_568_ok (by decide +kernel) hB (hb_rh []) (fun _ => 0) hb_ag0 (hb_rh_in (fun _ h => absurd h List.not_mem_nil)) hIA
  exact ⟨y, hy, hWB, hIB, (hb_fr (by decide +kernel) hWA hWB fB (hb_fr (by decide +kernel) hA.1 hWA fA hR)), fun e => by cases e⟩
theorem hb_ca6 (xs : List Int32) (i : Int) : hb_ok xs eh_RR 127 198 [.inr (.inl 64), .inl (hb_sc xs (i + 1)), .inl (hb_sc xs (i + 2))] [.inr (.inl 215), .inl (hb_sc xs (i + 1)), .inl (hb_sc xs (i + 2))] false := by
  intro n w wA vA hI hR hA
  obtain ⟨⟨x, hx⟩, hWA, hIA, fA⟩ := hb_use (C := hb_K127_13) hb_K127_13_ok (by decide +kernel) hA (hb_rh [(hb_sc xs (i + 1)), (hb_sc xs (i + 2))]) (fun _ => 0) hb_ag2 (hb_rh_in (List.forall_mem_cons.mpr ⟨hb_sc_in xs _, List.forall_mem_cons.mpr ⟨hb_sc_in xs _, fun _ h => absurd h List.not_mem_nil⟩⟩)) hI
  refine ⟨x, hx, hWA, fun vB wB hB => ?_⟩
  obtain ⟨⟨y, hy⟩, hWB, hIB, fB⟩ := hb_use (C := hb_K198_569) hb_K198_569_ok (by decide +kernel) hB (hb_rh [(hb_sc xs (i + 1)), (hb_sc xs (i + 2))]) (fun _ => 0) hb_ag2 (hb_rh_in (List.forall_mem_cons.mpr ⟨hb_sc_in xs _, List.forall_mem_cons.mpr ⟨hb_sc_in xs _, fun _ h => absurd h List.not_mem_nil⟩⟩)) hIA
  exact ⟨y, hy, hWB, hIB, (hb_fr (by decide +kernel) hWA hWB fB (hb_fr (by decide +kernel) hA.1 hWA fA hR)), fun e => by cases e⟩
theorem hb_ca7 (xs : List Int32) (i : Int) : hb_ok xs eh_RR 128 199 [.inr (.inl 64), .inl (hb_sc xs (i + 1)), .inl (hb_sc xs (i + 2)), .inl (hb_sc xs (i + 3)), .inl (hb_sc xs (i + 4))] [.inr (.inl 215), .inl (hb_sc xs (i + 1)), .inl (hb_sc xs (i + 2)), .inl (hb_sc xs (i + 3)), .inl (hb_sc xs (i + 4))] false := by
  intro n w wA vA hI hR hA
  obtain ⟨⟨x, hx⟩, hWA, hIA, fA⟩ := hb_use (C := hb_K128_15) hb_K128_15_ok (by decide +kernel) hA (hb_rh [(hb_sc xs (i + 1)), (hb_sc xs (i + 2)), (hb_sc xs (i + 3)), (hb_sc xs (i + 4))]) (fun _ => 0) hb_ag4 (hb_rh_in (List.forall_mem_cons.mpr ⟨hb_sc_in xs _, List.forall_mem_cons.mpr ⟨hb_sc_in xs _, List.forall_mem_cons.mpr ⟨hb_sc_in xs _, List.forall_mem_cons.mpr ⟨hb_sc_in xs _, fun _ h => absurd h List.not_mem_nil⟩⟩⟩⟩)) hI
  refine ⟨x, hx, hWA, fun vB wB hB => ?_⟩
  obtain ⟨⟨y, hy⟩, hWB, hIB, fB⟩ := hb_use (C := hb_K199_570) hb_K199_570_ok (by decide +kernel) hB (hb_rh [(hb_sc xs (i + 1)), (hb_sc xs (i + 2)), (hb_sc xs (i + 3)), (hb_sc xs (i + 4))]) (fun _ => 0) hb_ag4 (hb_rh_in (List.forall_mem_cons.mpr ⟨hb_sc_in xs _, List.forall_mem_cons.mpr ⟨hb_sc_in xs _, List.forall_mem_cons.mpr ⟨hb_sc_in xs _, List.forall_mem_cons.mpr ⟨hb_sc_in xs _, fun _ h => absurd h List.not_mem_nil⟩⟩⟩⟩)) hIA
  exact ⟨y, hy, hWB, hIB, (hb_fr (by decide +kernel) hWA hWB fB (hb_fr (by decide +kernel) hA.1 hWA fA hR)), fun e => by cases e⟩
theorem hb_ca8 (xs : List Int32) (i : Int) : hb_ok xs eh_RR 129 204 [.inr (.inl 64), .inl (hb_sc xs (i + 1))] [.inr (.inl 215), .inl (hb_sc xs (i + 1))] false := by
  intro n w wA vA hI hR hA
  obtain ⟨⟨x, hx⟩, hWA, hIA, fA⟩ := hb_use (C := hb_K129_75) hb_K129_75_ok (by decide +kernel) hA (hb_rh [(hb_sc xs (i + 1))]) (fun _ => 0) hb_ag1 (hb_rh_in (List.forall_mem_cons.mpr ⟨hb_sc_in xs _, fun _ h => absurd h List.not_mem_nil⟩)) hI
  refine ⟨x, hx, hWA, fun vB wB hB => ?_⟩
  obtain ⟨⟨y, hy⟩, hWB, hIB, fB⟩ := hb_use (C := hb_K204_644) hb_K204_644_ok (by decide +kernel) hB (hb_rh [(hb_sc xs (i + 1))]) (fun _ => 0) hb_ag1 (hb_rh_in (List.forall_mem_cons.mpr ⟨hb_sc_in xs _, fun _ h => absurd h List.not_mem_nil⟩)) hIA
  exact ⟨y, hy, hWB, hIB, (hb_fr (by decide +kernel) hWA hWB fB (hb_fr (by decide +kernel) hA.1 hWA fA hR)), fun e => by cases e⟩
theorem hb_ca9 (xs : List Int32) (i : Int) : hb_ok xs eh_RR 130 206 [.inr (.inl 64), .inl (hb_sc xs (i + 1)), .inl (hb_sc xs (i + 2)), .inl (hb_sc xs (i + 3)), .inl (hb_sc xs (i + 4))] [.inr (.inl 215), .inl (hb_sc xs (i + 1)), .inl (hb_sc xs (i + 2)), .inl (hb_sc xs (i + 3)), .inl (hb_sc xs (i + 4))] false := by
  intro n w wA vA hI hR hA
  obtain ⟨⟨x, hx⟩, hWA, hIA, fA⟩ := hb_use (C := hb_K130_76) hb_K130_76_ok (by decide +kernel) hA (hb_rh [(hb_sc xs (i + 1)), (hb_sc xs (i + 2)), (hb_sc xs (i + 3)), (hb_sc xs (i + 4))]) (fun _ => 0) hb_ag4 (hb_rh_in (List.forall_mem_cons.mpr ⟨hb_sc_in xs _, List.forall_mem_cons.mpr ⟨hb_sc_in xs _, List.forall_mem_cons.mpr ⟨hb_sc_in xs _, List.forall_mem_cons.mpr ⟨hb_sc_in xs _, fun _ h => absurd h List.not_mem_nil⟩⟩⟩⟩)) hI
  refine ⟨x, hx, hWA, fun vB wB hB => ?_⟩
  obtain ⟨⟨y, hy⟩, hWB, hIB, fB⟩ := hb_use (C := hb_K206_645) hb_K206_645_ok (by decide +kernel) hB (hb_rh [(hb_sc xs (i + 1)), (hb_sc xs (i + 2)), (hb_sc xs (i + 3)), (hb_sc xs (i + 4))]) (fun _ => 0) hb_ag4 (hb_rh_in (List.forall_mem_cons.mpr ⟨hb_sc_in xs _, List.forall_mem_cons.mpr ⟨hb_sc_in xs _, List.forall_mem_cons.mpr ⟨hb_sc_in xs _, List.forall_mem_cons.mpr ⟨hb_sc_in xs _, fun _ h => absurd h List.not_mem_nil⟩⟩⟩⟩)) hIA
  exact ⟨y, hy, hWB, hIB, (hb_fr (by decide +kernel) hWA hWB fB (hb_fr (by decide +kernel) hA.1 hWA fA hR)), fun e => by cases e⟩
theorem hb_ca10 (xs : List Int32) (i : Int) : hb_ok xs eh_RR 131 207 [.inr (.inl 64), .inl (hb_sc xs (i + 1)), .inl (hb_sc xs (i + 2)), .inl (hb_sc xs (i + 3)), .inl (hb_sc xs (i + 4))] [.inr (.inl 215), .inl (hb_sc xs (i + 1)), .inl (hb_sc xs (i + 2)), .inl (hb_sc xs (i + 3)), .inl (hb_sc xs (i + 4))] false := by
  intro n w wA vA hI hR hA
  obtain ⟨⟨x, hx⟩, hWA, hIA, fA⟩ := hb_use (C := hb_K131_77) hb_K131_77_ok (by decide +kernel) hA (hb_rh [(hb_sc xs (i + 1)), (hb_sc xs (i + 2)), (hb_sc xs (i + 3)), (hb_sc xs (i + 4))]) (fun _ => 0) hb_ag4 (hb_rh_in (List.forall_mem_cons.mpr ⟨hb_sc_in xs _, List.forall_mem_cons.mpr ⟨hb_sc_in xs _, List.forall_mem_cons.mpr ⟨hb_sc_in xs _, List.forall_mem_cons.mpr ⟨hb_sc_in xs _, fun _ h => absurd h List.not_mem_nil⟩⟩⟩⟩)) hI
  refine ⟨x, hx, hWA, fun vB wB hB => ?_⟩
  obtain ⟨⟨y, hy⟩, hWB, hIB, fB⟩ := hb_use (C := hb_K207_646) hb_K207_646_ok (by decide +kernel) hB (hb_rh [(hb_sc xs (i + 1)), (hb_sc xs (i + 2)), (hb_sc xs (i + 3)), (hb_sc xs (i + 4))]) (fun _ => 0) hb_ag4 (hb_rh_in (List.forall_mem_cons.mpr ⟨hb_sc_in xs _, List.forall_mem_cons.mpr ⟨hb_sc_in xs _, List.forall_mem_cons.mpr ⟨hb_sc_in xs _, List.forall_mem_cons.mpr ⟨hb_sc_in xs _, fun _ h => absurd h List.not_mem_nil⟩⟩⟩⟩)) hIA
  exact ⟨y, hy, hWB, hIB, (hb_fr (by decide +kernel) hWA hWB fB (hb_fr (by decide +kernel) hA.1 hWA fA hR)), fun e => by cases e⟩
theorem hb_ca11 (xs : List Int32) (i : Int) : hb_ok xs eh_RR 132 211 [.inr (.inl 64), .inl (hb_sc xs (i + 1)), .inl (hb_sc xs (i + 2))] [.inr (.inl 215), .inl (hb_sc xs (i + 1)), .inl (hb_sc xs (i + 2))] false := by
  intro n w wA vA hI hR hA
  obtain ⟨⟨x, hx⟩, hWA, hIA, fA⟩ := hb_use (C := hb_K132_79) hb_K132_79_ok (by decide +kernel) hA (hb_rh [(hb_sc xs (i + 1)), (hb_sc xs (i + 2))]) (fun _ => 0) hb_ag2 (hb_rh_in (List.forall_mem_cons.mpr ⟨hb_sc_in xs _, List.forall_mem_cons.mpr ⟨hb_sc_in xs _, fun _ h => absurd h List.not_mem_nil⟩⟩)) hI
  refine ⟨x, hx, hWA, fun vB wB hB => ?_⟩
  obtain ⟨⟨y, hy⟩, hWB, hIB, fB⟩ := hb_use (C := hb_K211_648) hb_K211_648_ok (by decide +kernel) hB (hb_rh [(hb_sc xs (i + 1)), (hb_sc xs (i + 2))]) (fun _ => 0) hb_ag2 (hb_rh_in (List.forall_mem_cons.mpr ⟨hb_sc_in xs _, List.forall_mem_cons.mpr ⟨hb_sc_in xs _, fun _ h => absurd h List.not_mem_nil⟩⟩)) hIA
  exact ⟨y, hy, hWB, hIB, (hb_fr (by decide +kernel) hWA hWB fB (hb_fr (by decide +kernel) hA.1 hWA fA hR)), fun e => by cases e⟩
theorem hb_ca12 (xs : List Int32) (i : Int) : hb_ok xs eh_RR 133 212 [.inr (.inl 64), .inl (hb_sc xs (i + 1)), .inl (hb_sc xs (i + 2)), .inl (hb_sc xs (i + 3)), .inl (hb_sc xs (i + 4))] [.inr (.inl 215), .inl (hb_sc xs (i + 1)), .inl (hb_sc xs (i + 2)), .inl (hb_sc xs (i + 3)), .inl (hb_sc xs (i + 4))] false := by
  intro n w wA vA hI hR hA
  obtain ⟨⟨x, hx⟩, hWA, hIA, fA⟩ := hb_use (C := hb_K133_80) hb_K133_80_ok (by decide +kernel) hA (hb_rh [(hb_sc xs (i + 1)), (hb_sc xs (i + 2)), (hb_sc xs (i + 3)), (hb_sc xs (i + 4))]) (fun _ => 0) hb_ag4 (hb_rh_in (List.forall_mem_cons.mpr ⟨hb_sc_in xs _, List.forall_mem_cons.mpr ⟨hb_sc_in xs _, List.forall_mem_cons.mpr ⟨hb_sc_in xs _, List.forall_mem_cons.mpr ⟨hb_sc_in xs _, fun _ h => absurd h List.not_mem_nil⟩⟩⟩⟩)) hI
  refine ⟨x, hx, hWA, fun vB wB hB => ?_⟩
  obtain ⟨⟨y, hy⟩, hWB, hIB, fB⟩ := hb_use (C := hb_K212_649) hb_K212_649_ok (by decide +kernel) hB (hb_rh [(hb_sc xs (i + 1)), (hb_sc xs (i + 2)), (hb_sc xs (i + 3)), (hb_sc xs (i + 4))]) (fun _ => 0) hb_ag4 (hb_rh_in (List.forall_mem_cons.mpr ⟨hb_sc_in xs _, List.forall_mem_cons.mpr ⟨hb_sc_in xs _, List.forall_mem_cons.mpr ⟨hb_sc_in xs _, List.forall_mem_cons.mpr ⟨hb_sc_in xs _, fun _ h => absurd h List.not_mem_nil⟩⟩⟩⟩)) hIA
  exact ⟨y, hy, hWB, hIB, (hb_fr (by decide +kernel) hWA hWB fB (hb_fr (by decide +kernel) hA.1 hWA fA hR)), fun e => by cases e⟩
theorem hb_ca13 (xs : List Int32) (i : Int) : hb_ok xs eh_RR 134 216 [.inr (.inl 64), .inl (hb_sc xs (i + 1))] [.inr (.inl 215), .inl (hb_sc xs (i + 1))] false := by
  intro n w wA vA hI hR hA
  obtain ⟨⟨x, hx⟩, hWA, hIA, fA⟩ := hb_use (C := hb_K134_83) hb_K134_83_ok (by decide +kernel) hA (hb_rh [(hb_sc xs (i + 1))]) (fun _ => 0) hb_ag1 (hb_rh_in (List.forall_mem_cons.mpr ⟨hb_sc_in xs _, fun _ h => absurd h List.not_mem_nil⟩)) hI
  refine ⟨x, hx, hWA, fun vB wB hB => ?_⟩
  obtain ⟨⟨y, hy⟩, hWB, hIB, fB⟩ := hb_use (C := hb_K216_652) hb_K216_652_ok (by decide +kernel) hB (hb_rh [(hb_sc xs (i + 1))]) (fun _ => 0) hb_ag1 (hb_rh_in (List.forall_mem_cons.mpr ⟨hb_sc_in xs _, fun _ h => absurd h List.not_mem_nil⟩)) hIA
  exact ⟨y, hy, hWB, hIB, (hb_fr (by decide +kernel) hWA hWB fB (hb_fr (by decide +kernel) hA.1 hWA fA hR)), fun e => by cases e⟩
theorem hb_ca14 (xs : List Int32) (i : Int) : hb_ok xs eh_RR 135 218 [.inr (.inl 64)] [.inr (.inl 215)] false := by
  intro n w wA vA hI hR hA
  obtain ⟨⟨x, hx⟩, hWA, hIA, fA⟩ := hb_use (C := hb_K135_85) hb_K135_85_ok (by decide +kernel) hA (hb_rh []) (fun _ => 0) hb_ag0 (hb_rh_in (fun _ h => absurd h List.not_mem_nil)) hI
  refine ⟨x, hx, hWA, fun vB wB hB => ?_⟩
  obtain ⟨⟨y, hy⟩, hWB, hIB, fB⟩ := hb_use (C := hb_K218_654) hb_K218_654_ok (by decide +kernel) hB (hb_rh []) (fun _ => 0) hb_ag0 (hb_rh_in (fun _ h => absurd h List.not_mem_nil)) hIA
  exact ⟨y, hy, hWB, hIB, (hb_fr (by decide +kernel) hWA hWB fB (hb_fr (by decide +kernel) hA.1 hWA fA hR)), fun e => by cases e⟩
theorem hb_ca15 (xs : List Int32) (i : Int) : hb_ok xs eh_RR 136 220 [.inr (.inl 64)] [.inr (.inl 215)] false := by
  intro n w wA vA hI hR hA
  obtain ⟨⟨x, hx⟩, hWA, hIA, fA⟩ := hb_use (C := hb_K136_109) hb_K136_109_ok (by decide +kernel) hA (hb_rh []) (fun _ => 0) hb_ag0 (hb_rh_in (fun _ h => absurd h List.not_mem_nil)) hI
  refine ⟨x, hx, hWA, fun vB wB hB => ?_⟩
  obtain ⟨⟨y, hy⟩, hWB, hIB, fB⟩ := hb_use (C := hb_K220_656) hb_K220_656_ok (by decide +kernel) hB (hb_rh []) (fun _ => 0) hb_ag0 (hb_rh_in (fun _ h => absurd h List.not_mem_nil)) hIA
  exact ⟨y, hy, hWB, hIB, (hb_fr (by decide +kernel) hWA hWB fB (hb_fr (by decide +kernel) hA.1 hWA fA hR)), fun e => by cases e⟩
theorem hb_ca16 (xs : List Int32) (i : Int) : hb_ok xs eh_RR 137 222 [.inr (.inl 64), .inl (hb_sc xs (i + 1)), .inl (hb_sc xs (i + 2))] [.inr (.inl 215), .inl (hb_sc xs (i + 1)), .inl (hb_sc xs (i + 2))] false := by
  intro n w wA vA hI hR hA
  obtain ⟨⟨x, hx⟩, hWA, hIA, fA⟩ := hb_use (C := hb_K137_110) hb_K137_110_ok (by decide +kernel) hA (hb_rh [(hb_sc xs (i + 1)), (hb_sc xs (i + 2))]) (fun _ => 0) hb_ag2 (hb_rh_in (List.forall_mem_cons.mpr ⟨hb_sc_in xs _, List.forall_mem_cons.mpr ⟨hb_sc_in xs _, fun _ h => absurd h List.not_mem_nil⟩⟩)) hI
  refine ⟨x, hx, hWA, fun vB wB hB => ?_⟩
  obtain ⟨⟨y, hy⟩, hWB, hIB, fB⟩ := hb_use (C := hb_K222_657) hb_K222_657_ok (by decide +kernel) hB (hb_rh [(hb_sc xs (i + 1)), (hb_sc xs (i + 2))]) (fun _ => 0) hb_ag2 (hb_rh_in (List.forall_mem_cons.mpr ⟨hb_sc_in xs _, List.forall_mem_cons.mpr ⟨hb_sc_in xs _, fun _ h => absurd h List.not_mem_nil⟩⟩)) hIA
  exact ⟨y, hy, hWB, hIB, (hb_fr (by decide +kernel) hWA hWB fB (hb_fr (by decide +kernel) hA.1 hWA fA hR)), fun e => by cases e⟩
theorem hb_ca17 (xs : List Int32) (i : Int) : hb_ok xs eh_RR 138 223 [.inr (.inl 64), .inl (hb_sc xs (i + 1)), .inl (hb_sc xs (i + 2)), .inl (hb_sc xs (i + 3))] [.inr (.inl 215), .inl (hb_sc xs (i + 1)), .inl (hb_sc xs (i + 2)), .inl (hb_sc xs (i + 3))] false := by
  intro n w wA vA hI hR hA
  obtain ⟨⟨x, hx⟩, hWA, hIA, fA⟩ := hb_use (C := hb_K138_111) hb_K138_111_ok (by decide +kernel) hA (hb_rh [(hb_sc xs (i + 1)), (hb_sc xs (i + 2)), (hb_sc xs (i + 3))]) (fun _ => 0) hb_ag3 (hb_rh_in (List.forall_mem_cons.mpr ⟨hb_sc_in xs _, List.forall_mem_cons.mpr ⟨hb_sc_in xs _, List.forall_mem_cons.mpr ⟨hb_sc_in xs _, fun _ h => absurd h List.not_mem_nil⟩⟩⟩)) hI
  refine ⟨x, hx, hWA, fun vB wB hB => ?_⟩
  obtain ⟨⟨y, hy⟩, hWB, hIB, fB⟩ := hb_use (C := hb_K223_658) hb_K223_658_ok (by decide +kernel) hB (hb_rh [(hb_sc xs (i + 1)), (hb_sc xs (i + 2)), (hb_sc xs (i + 3))]) (fun _ => 0) hb_ag3 (hb_rh_in (List.forall_mem_cons.mpr ⟨hb_sc_in xs _, List.forall_mem_cons.mpr ⟨hb_sc_in xs _, List.forall_mem_cons.mpr ⟨hb_sc_in xs _, fun _ h => absurd h List.not_mem_nil⟩⟩⟩)) hIA
  exact ⟨y, hy, hWB, hIB, (hb_fr (by decide +kernel) hWA hWB fB (hb_fr (by decide +kernel) hA.1 hWA fA hR)), fun e => by cases e⟩
theorem hb_ca18 (xs : List Int32) (i : Int) : hb_ok xs eh_RR 139 224 [.inr (.inl 64)] [.inr (.inl 215)] false := by
  intro n w wA vA hI hR hA
  obtain ⟨⟨x, hx⟩, hWA, hIA, fA⟩ := hb_use (C := hb_K139_113) hb_K139_113_ok (by decide +kernel) hA (hb_rh []) (fun _ => 0) hb_ag0 (hb_rh_in (fun _ h => absurd h List.not_mem_nil)) hI
  refine ⟨x, hx, hWA, fun vB wB hB => ?_⟩
  obtain ⟨⟨y, hy⟩, hWB, hIB, fB⟩ := hb_use (C := hb_K224_659) hb_K224_659_ok (by decide +kernel) hB (hb_rh []) (fun _ => 0) hb_ag0 (hb_rh_in (fun _ h => absurd h List.not_mem_nil)) hIA
  exact ⟨y, hy, hWB, hIB, (hb_fr (by decide +kernel) hWA hWB fB (hb_fr (by decide +kernel) hA.1 hWA fA hR)), fun e => by cases e⟩
theorem hb_ca19 (xs : List Int32) (i : Int) : hb_ok xs eh_RR 140 226 [.inr (.inl 64), .inl (hb_sc xs (i + 1)), .inl (hb_sc xs (i + 2)), .inl (hb_sc xs (i + 3))] [.inr (.inl 215), .inl (hb_sc xs (i + 1)), .inl (hb_sc xs (i + 2)), .inl (hb_sc xs (i + 3))] false := by
  intro n w wA vA hI hR hA
  obtain ⟨⟨x, hx⟩, hWA, hIA, fA⟩ := hb_use (C := hb_K140_122) hb_K140_122_ok (by decide +kernel) hA (hb_rh [(hb_sc xs (i + 1)), (hb_sc xs (i + 2)), (hb_sc xs (i + 3))]) (fun _ => 0) hb_ag3 (hb_rh_in (List.forall_mem_cons.mpr ⟨hb_sc_in xs _, List.forall_mem_cons.mpr ⟨hb_sc_in xs _, List.forall_mem_cons.mpr ⟨hb_sc_in xs _, fun _ h => absurd h List.not_mem_nil⟩⟩⟩)) hI
  refine ⟨x, hx, hWA, fun vB wB hB => ?_⟩
  obtain ⟨⟨y, hy⟩, hWB, hIB, fB⟩ := hb_use (C := hb_K226_667) hb_K226_667_ok (by decide +kernel) hB (hb_rh [(hb_sc xs (i + 1)), (hb_sc xs (i + 2)), (hb_sc xs (i + 3))]) (fun _ => 0) hb_ag3 (hb_rh_in (List.forall_mem_cons.mpr ⟨hb_sc_in xs _, List.forall_mem_cons.mpr ⟨hb_sc_in xs _, List.forall_mem_cons.mpr ⟨hb_sc_in xs _, fun _ h => absurd h List.not_mem_nil⟩⟩⟩)) hIA
  exact ⟨y, hy, hWB, hIB, (hb_fr (by decide +kernel) hWA hWB fB (hb_fr (by decide +kernel) hA.1 hWA fA hR)), fun e => by cases e⟩
theorem hb_ca20 (xs : List Int32) (i : Int) : hb_ok xs eh_RR 141 227 [.inr (.inl 64), .inl (hb_sc xs (i + 1)), .inl (hb_sc xs (i + 2)), .inl (hb_sc xs (i + 3)), .inl (hb_sc xs (i + 4))] [.inr (.inl 215), .inl (hb_sc xs (i + 1)), .inl (hb_sc xs (i + 2)), .inl (hb_sc xs (i + 3)), .inl (hb_sc xs (i + 4))] false := by
  intro n w wA vA hI hR hA
  obtain ⟨⟨x, hx⟩, hWA, hIA, fA⟩ := hb_use (C := hb_K141_123) hb_K141_123_ok (by decide +kernel) hA (hb_rh [(hb_sc xs (i + 1)), (hb_sc xs (i + 2)), (hb_sc xs (i + 3)), (hb_sc xs (i + 4))]) (fun _ => 0) hb_ag4 (hb_rh_in (List.forall_mem_cons.mpr ⟨hb_sc_in xs _, List.forall_mem_cons.mpr ⟨hb_sc_in xs _, List.forall_mem_cons.mpr ⟨hb_sc_in xs _, List.forall_mem_cons.mpr ⟨hb_sc_in xs _, fun _ h => absurd h List.not_mem_nil⟩⟩⟩⟩)) hI
  refine ⟨x, hx, hWA, fun vB wB hB => ?_⟩
  obtain ⟨⟨y, hy⟩, hWB, hIB, fB⟩ := hb_use (C := hb_L227) hb_L227_ok (by decide +kernel) hB (hb_rh [(hb_sc xs (i + 1)), (hb_sc xs (i + 2)), (hb_sc xs (i + 3)), (hb_sc xs (i + 4))]) (fun _ => 0) hb_ag4 (hb_rh_in (List.forall_mem_cons.mpr ⟨hb_sc_in xs _, List.forall_mem_cons.mpr ⟨hb_sc_in xs _, List.forall_mem_cons.mpr ⟨hb_sc_in xs _, List.forall_mem_cons.mpr ⟨hb_sc_in xs _, fun _ h => absurd h List.not_mem_nil⟩⟩⟩⟩)) hIA
  exact ⟨y, hy, hWB, hIB, (hb_fr (by decide +kernel) hWA hWB fB (hb_fr (by decide +kernel) hA.1 hWA fA hR)), fun e => by cases e⟩
theorem hb_ca21 (xs : List Int32) (i : Int) : hb_ok xs eh_RR 142 230 [.inr (.inl 64), .inl (hb_sc xs (i + 1))] [.inr (.inl 215), .inl (hb_sc xs (i + 1))] false := by
  intro n w wA vA hI hR hA
  obtain ⟨⟨x, hx⟩, hWA, hIA, fA⟩ := hb_use (C := hb_K142_124) hb_K142_124_ok (by decide +kernel) hA (hb_rh [(hb_sc xs (i + 1))]) (fun _ => 0) hb_ag1 (hb_rh_in (List.forall_mem_cons.mpr ⟨hb_sc_in xs _, fun _ h => absurd h List.not_mem_nil⟩)) hI
  refine ⟨x, hx, hWA, fun vB wB hB => ?_⟩
  obtain ⟨⟨y, hy⟩, hWB, hIB, fB⟩ := hb_use (C := hb_K230_668) hb_K230_668_ok (by decide +kernel) hB (hb_rh [(hb_sc xs (i + 1))]) (fun _ => 0) hb_ag1 (hb_rh_in (List.forall_mem_cons.mpr ⟨hb_sc_in xs _, fun _ h => absurd h List.not_mem_nil⟩)) hIA
  exact ⟨y, hy, hWB, hIB, (hb_fr (by decide +kernel) hWA hWB fB (hb_fr (by decide +kernel) hA.1 hWA fA hR)), fun e => by cases e⟩
theorem hb_ca22 (xs : List Int32) (i : Int) : hb_ok xs eh_RR 143 231 [.inr (.inl 64), .inl (hb_sc xs (i + 1))] [.inr (.inl 215), .inl (hb_sc xs (i + 1))] false := by
  intro n w wA vA hI hR hA
  obtain ⟨⟨x, hx⟩, hWA, hIA, fA⟩ := hb_use (C := hb_K143_125) hb_K143_125_ok (by decide +kernel) hA (hb_rh [(hb_sc xs (i + 1))]) (fun _ => 0) hb_ag1 (hb_rh_in (List.forall_mem_cons.mpr ⟨hb_sc_in xs _, fun _ h => absurd h List.not_mem_nil⟩)) hI
  refine ⟨x, hx, hWA, fun vB wB hB => ?_⟩
  obtain ⟨⟨y, hy⟩, hWB, hIB, fB⟩ := hb_use (C := hb_K231_669) hb_K231_669_ok (by decide +kernel) hB (hb_rh [(hb_sc xs (i + 1))]) (fun _ => 0) hb_ag1 (hb_rh_in (List.forall_mem_cons.mpr ⟨hb_sc_in xs _, fun _ h => absurd h List.not_mem_nil⟩)) hIA
  exact ⟨y, hy, hWB, hIB, (hb_fr (by decide +kernel) hWA hWB fB (hb_fr (by decide +kernel) hA.1 hWA fA hR)), fun e => by cases e⟩
theorem hb_ca23 (xs : List Int32) (i : Int) : hb_ok xs eh_RR 144 233 [.inr (.inl 64), .inl (hb_sc xs (i + 1))] [.inr (.inl 215), .inl (hb_sc xs (i + 1))] false := by
  intro n w wA vA hI hR hA
  obtain ⟨⟨x, hx⟩, hWA, hIA, fA⟩ := hb_use (C := hb_K144_127) hb_K144_127_ok (by decide +kernel) hA (hb_rh [(hb_sc xs (i + 1))]) (fun _ => 0) hb_ag1 (hb_rh_in (List.forall_mem_cons.mpr ⟨hb_sc_in xs _, fun _ h => absurd h List.not_mem_nil⟩)) hI
  refine ⟨x, hx, hWA, fun vB wB hB => ?_⟩
  obtain ⟨⟨y, hy⟩, hWB, hIB, fB⟩ := hb_use (C := hb_K233_670) hb_K233_670_ok (by decide +kernel) hB (hb_rh [(hb_sc xs (i + 1))]) (fun _ => 0) hb_ag1 (hb_rh_in (List.forall_mem_cons.mpr ⟨hb_sc_in xs _, fun _ h => absurd h List.not_mem_nil⟩)) hIA
  exact ⟨y, hy, hWB, hIB, (hb_fr (by decide +kernel) hWA hWB fB (hb_fr (by decide +kernel) hA.1 hWA fA hR)), fun e => by cases e⟩
theorem hb_ca24 (xs : List Int32) (i : Int) : hb_ok xs eh_RR 145 235 [.inr (.inl 64), .inl (hb_sc xs (i + 1))] [.inr (.inl 215), .inl (hb_sc xs (i + 1))] false := by
  intro n w wA vA hI hR hA
  obtain ⟨⟨x, hx⟩, hWA, hIA, fA⟩ := hb_use (C := hb_K145_129) hb_K145_129_ok (by decide +kernel) hA (hb_rh [(hb_sc xs (i + 1))]) (fun _ => 0) hb_ag1 (hb_rh_in (List.forall_mem_cons.mpr ⟨hb_sc_in xs _, fun _ h => absurd h List.not_mem_nil⟩)) hI
  refine ⟨x, hx, hWA, fun vB wB hB => ?_⟩
  obtain ⟨⟨y, hy⟩, hWB, hIB, fB⟩ := hb_use (C := hb_K235_672) hb_K235_672_ok (by decide +kernel) hB (hb_rh [(hb_sc xs (i + 1))]) (fun _ => 0) hb_ag1 (hb_rh_in (List.forall_mem_cons.mpr ⟨hb_sc_in xs _, fun _ h => absurd h List.not_mem_nil⟩)) hIA
  exact ⟨y, hy, hWB, hIB, (hb_fr (by decide +kernel) hWA hWB fB (hb_fr (by decide +kernel) hA.1 hWA fA hR)), fun e => by cases e⟩
theorem hb_ca25 (xs : List Int32) (i : Int) : hb_ok xs eh_RR 146 236 [.inr (.inl 64), .inl (hb_sc xs (i + 1)), .inl (hb_sc xs (i + 2)), .inl (hb_sc xs (i + 3))] [.inr (.inl 215), .inl (hb_sc xs (i + 1)), .inl (hb_sc xs (i + 2)), .inl (hb_sc xs (i + 3))] false := by
  intro n w wA vA hI hR hA
  obtain ⟨⟨x, hx⟩, hWA, hIA, fA⟩ := hb_use (C := hb_K146_130) hb_K146_130_ok (by decide +kernel) hA (hb_rh [(hb_sc xs (i + 1)), (hb_sc xs (i + 2)), (hb_sc xs (i + 3))]) (fun _ => 0) hb_ag3 (hb_rh_in (List.forall_mem_cons.mpr ⟨hb_sc_in xs _, List.forall_mem_cons.mpr ⟨hb_sc_in xs _, List.forall_mem_cons.mpr ⟨hb_sc_in xs _, fun _ h => absurd h List.not_mem_nil⟩⟩⟩)) hI
  refine ⟨x, hx, hWA, fun vB wB hB => ?_⟩
  obtain ⟨⟨y, hy⟩, hWB, hIB, fB⟩ := hb_use (C := hb_K236_673) hb_K236_673_ok (by decide +kernel) hB (hb_rh [(hb_sc xs (i + 1)), (hb_sc xs (i + 2)), (hb_sc xs (i + 3))]) (fun _ => 0) hb_ag3 (hb_rh_in (List.forall_mem_cons.mpr ⟨hb_sc_in xs _, List.forall_mem_cons.mpr ⟨hb_sc_in xs _, List.forall_mem_cons.mpr ⟨hb_sc_in xs _, fun _ h => absurd h List.not_mem_nil⟩⟩⟩)) hIA
  exact ⟨y, hy, hWB, hIB, (hb_fr (by decide +kernel) hWA hWB fB (hb_fr (by decide +kernel) hA.1 hWA fA hR)), fun e => by cases e⟩
theorem hb_ca26 (xs : List Int32) (i : Int) : hb_ok xs eh_RR 147 239 [.inr (.inl 64), .inl (hb_sc xs (i + 1))] [.inr (.inl 215), .inl (hb_sc xs (i + 1))] false := by
  intro n w wA vA hI hR hA
  obtain ⟨⟨x, hx⟩, hWA, hIA, fA⟩ := hb_use (C := hb_K147_132) hb_K147_132_ok (by decide +kernel) hA (hb_rh [(hb_sc xs (i + 1))]) (fun _ => 0) hb_ag1 (hb_rh_in (List.forall_mem_cons.mpr ⟨hb_sc_in xs _, fun _ h => absurd h List.not_mem_nil⟩)) hI
  refine ⟨x, hx, hWA, fun vB wB hB => ?_⟩
  obtain ⟨⟨y, hy⟩, hWB, hIB, fB⟩ := hb_use (C := hb_K239_675) hb_K239_675_ok (by decide +kernel) hB (hb_rh [(hb_sc xs (i + 1))]) (fun _ => 0) hb_ag1 (hb_rh_in (List.forall_mem_cons.mpr ⟨hb_sc_in xs _, fun _ h => absurd h List.not_mem_nil⟩)) hIA
  exact ⟨y, hy, hWB, hIB, (hb_fr (by decide +kernel) hWA hWB fB (hb_fr (by decide +kernel) hA.1 hWA fA hR)), fun e => by cases e⟩
theorem hb_ca27 (xs : List Int32) (i : Int) : hb_ok xs eh_RR 148 240 [.inr (.inl 64), .inl (hb_sc xs (i + 1))] [.inr (.inl 215), .inl (hb_sc xs (i + 1))] false := by
  intro n w wA vA hI hR hA
  obtain ⟨⟨x, hx⟩, hWA, hIA, fA⟩ := hb_use (C := hb_K148_133) hb_K148_133_ok (by decide +kernel) hA (hb_rh [(hb_sc xs (i + 1))]) (fun _ => 0) hb_ag1 (hb_rh_in (List.forall_mem_cons.mpr ⟨hb_sc_in xs _, fun _ h => absurd h List.not_mem_nil⟩)) hI
  refine ⟨x, hx, hWA, fun vB wB hB => ?_⟩
  obtain ⟨⟨y, hy⟩, hWB, hIB, fB⟩ := hb_use (C := hb_K240_676) hb_K240_676_ok (by decide +kernel) hB (hb_rh [(hb_sc xs (i + 1))]) (fun _ => 0) hb_ag1 (hb_rh_in (List.forall_mem_cons.mpr ⟨hb_sc_in xs _, fun _ h => absurd h List.not_mem_nil⟩)) hIA
  exact ⟨y, hy, hWB, hIB, (hb_fr (by decide +kernel) hWA hWB fB (hb_fr (by decide +kernel) hA.1 hWA fA hR)), fun e => by cases e⟩
theorem hb_ca28 (xs : List Int32) (i : Int) : hb_ok xs eh_RR 149 241 [.inr (.inl 64), .inl (hb_sc xs (i + 1)), .inl (hb_sc xs (i + 2))] [.inr (.inl 215), .inl (hb_sc xs (i + 1)), .inl (hb_sc xs (i + 2))] false := by
  intro n w wA vA hI hR hA
  obtain ⟨⟨x, hx⟩, hWA, hIA, fA⟩ := hb_use (C := hb_K149_134) hb_K149_134_ok (by decide +kernel) hA (hb_rh [(hb_sc xs (i + 1)), (hb_sc xs (i + 2))]) (fun _ => 0) hb_ag2 (hb_rh_in (List.forall_mem_cons.mpr ⟨hb_sc_in xs _, List.forall_mem_cons.mpr ⟨hb_sc_in xs _, fun _ h => absurd h List.not_mem_nil⟩⟩)) hI
  refine ⟨x, hx, hWA, fun vB wB hB => ?_⟩
  obtain ⟨⟨y, hy⟩, hWB, hIB, fB⟩ := hb_use (C := hb_K241_677) hb_K241_677_ok (by decide +kernel) hB (hb_rh [(hb_sc xs (i + 1)), (hb_sc xs (i + 2))]) (fun _ => 0) hb_ag2 (hb_rh_in (List.forall_mem_cons.mpr ⟨hb_sc_in xs _, List.forall_mem_cons.mpr ⟨hb_sc_in xs _, fun _ h => absurd h List.not_mem_nil⟩⟩)) hIA
  exact ⟨y, hy, hWB, hIB, (hb_fr (by decide +kernel) hWA hWB fB (hb_fr (by decide +kernel) hA.1 hWA fA hR)), fun e => by cases e⟩
theorem hb_ca29 (xs : List Int32) (i : Int) : hb_ok xs eh_RR 150 242 [.inr (.inl 64), .inl (hb_sc xs (i + 1))] [.inr (.inl 215), .inl (hb_sc xs (i + 1))] false := by
  intro n w wA vA hI hR hA
  obtain ⟨⟨x, hx⟩, hWA, hIA, fA⟩ := hb_use (C := hb_K150_135) hb_K150_135_ok (by decide +kernel) hA (hb_rh [(hb_sc xs (i + 1))]) (fun _ => 0) hb_ag1 (hb_rh_in (List.forall_mem_cons.mpr ⟨hb_sc_in xs _, fun _ h => absurd h List.not_mem_nil⟩)) hI
  refine ⟨x, hx, hWA, fun vB wB hB => ?_⟩
  obtain ⟨⟨y, hy⟩, hWB, hIB, fB⟩ := hb_use (C := hb_K242_678) hb_K242_678_ok (by decide +kernel) hB (hb_rh [(hb_sc xs (i + 1))]) (fun _ => 0) hb_ag1 (hb_rh_in (List.forall_mem_cons.mpr ⟨hb_sc_in xs _, fun _ h => absurd h List.not_mem_nil⟩)) hIA
  exact ⟨y, hy, hWB, hIB, (hb_fr (by decide +kernel) hWA hWB fB (hb_fr (by decide +kernel) hA.1 hWA fA hR)), fun e => by cases e⟩
theorem hb_ca30 (xs : List Int32) (i : Int) : hb_ok xs eh_RR 151 243 [.inr (.inl 64), .inl (hb_sc xs (i + 1))] [.inr (.inl 215), .inl (hb_sc xs (i + 1))] false := by
  intro n w wA vA hI hR hA
  obtain ⟨⟨x, hx⟩, hWA, hIA, fA⟩ := hb_use (C := hb_K151_136) hb_K151_136_ok (by decide +kernel) hA (hb_rh [(hb_sc xs (i + 1))]) (fun _ => 0) hb_ag1 (hb_rh_in (List.forall_mem_cons.mpr ⟨hb_sc_in xs _, fun _ h => absurd h List.not_mem_nil⟩)) hI
  refine ⟨x, hx, hWA, fun vB wB hB => ?_⟩
  obtain ⟨⟨y, hy⟩, hWB, hIB, fB⟩ := hb_use (C := hb_K243_679) hb_K243_679_ok (by decide +kernel) hB (hb_rh [(hb_sc xs (i + 1))]) (fun _ => 0) hb_ag1 (hb_rh_in (List.forall_mem_cons.mpr ⟨hb_sc_in xs _, fun _ h => absurd h List.not_mem_nil⟩)) hIA
  exact ⟨y, hy, hWB, hIB, (hb_fr (by decide +kernel) hWA hWB fB (hb_fr (by decide +kernel) hA.1 hWA fA hR)), fun e => by cases e⟩
theorem hb_ca31 (xs : List Int32) (i : Int) : hb_ok xs eh_RR 152 245 [.inr (.inl 64), .inl (hb_sc xs (i + 1))] [.inr (.inl 215), .inl (hb_sc xs (i + 1))] false := by
  intro n w wA vA hI hR hA
  obtain ⟨⟨x, hx⟩, hWA, hIA, fA⟩ := hb_use (C := hb_K152_138) hb_K152_138_ok (by decide +kernel) hA (hb_rh [(hb_sc xs (i + 1))]) (fun _ => 0) hb_ag1 (hb_rh_in (List.forall_mem_cons.mpr ⟨hb_sc_in xs _, fun _ h => absurd h List.not_mem_nil⟩)) hI
  refine ⟨x, hx, hWA, fun vB wB hB => ?_⟩
  obtain ⟨⟨y, hy⟩, hWB, hIB, fB⟩ := hb_use (C := hb_K245_682) hb_K245_682_ok (by decide +kernel) hB (hb_rh [(hb_sc xs (i + 1))]) (fun _ => 0) hb_ag1 (hb_rh_in (List.forall_mem_cons.mpr ⟨hb_sc_in xs _, fun _ h => absurd h List.not_mem_nil⟩)) hIA
  exact ⟨y, hy, hWB, hIB, (hb_fr (by decide +kernel) hWA hWB fB (hb_fr (by decide +kernel) hA.1 hWA fA hR)), fun e => by cases e⟩
theorem hb_ca32 (xs : List Int32) (i : Int) : hb_ok xs eh_RR 153 246 [.inr (.inl 64), .inl (hb_sc xs (i + 1))] [.inr (.inl 215), .inl (hb_sc xs (i + 1))] false := by
  intro n w wA vA hI hR hA
  obtain ⟨⟨x, hx⟩, hWA, hIA, fA⟩ := hb_use (C := hb_K153_139) hb_K153_139_ok (by decide +kernel) hA (hb_rh [(hb_sc xs (i + 1))]) (fun _ => 0) hb_ag1 (hb_rh_in (List.forall_mem_cons.mpr ⟨hb_sc_in xs _, fun _ h => absurd h List.not_mem_nil⟩)) hI
  refine ⟨x, hx, hWA, fun vB wB hB => ?_⟩
  obtain ⟨⟨y, hy⟩, hWB, hIB, fB⟩ := hb_use (C := hb_K246_683) hb_K246_683_ok (by decide +kernel) hB (hb_rh [(hb_sc xs (i + 1))]) (fun _ => 0) hb_ag1 (hb_rh_in (List.forall_mem_cons.mpr ⟨hb_sc_in xs _, fun _ h => absurd h List.not_mem_nil⟩)) hIA
  exact ⟨y, hy, hWB, hIB, (hb_fr (by decide +kernel) hWA hWB fB (hb_fr (by decide +kernel) hA.1 hWA fA hR)), fun e => by cases e⟩
theorem hb_ca33 (xs : List Int32) (i : Int) : hb_ok xs eh_RR 154 247 [.inr (.inl 64), .inr (.inr (hb_lg xs i)), .inl (hb_sc xs (i + 3))] [.inr (.inl 215), .inr (.inr (hb_lg xs i)), .inl (hb_sc xs (i + 3))] false := by
  intro n w wA vA hI hR hA
  obtain ⟨⟨x, hx⟩, hWA, hIA, fA⟩ := hb_use (C := hb_K154_141) hb_K154_141_ok (by decide +kernel) hA (hb_rh [(hb_sc xs (i + 3))]) (fun _ => (hb_lg xs i)) hb_agL (hb_rh_in (List.forall_mem_cons.mpr ⟨hb_sc_in xs _, fun _ h => absurd h List.not_mem_nil⟩)) hI
  refine ⟨x, hx, hWA, fun vB wB hB => ?_⟩
  obtain ⟨⟨y, hy⟩, hWB, hIB, fB⟩ := hb_use (C := hb_K247_684) hb_K247_684_ok (by decide +kernel) hB (hb_rh [(hb_sc xs (i + 3))]) (fun _ => (hb_lg xs i)) hb_agL (hb_rh_in (List.forall_mem_cons.mpr ⟨hb_sc_in xs _, fun _ h => absurd h List.not_mem_nil⟩)) hIA
  exact ⟨y, hy, hWB, hIB, (hb_fr (by decide +kernel) hWA hWB fB (hb_fr (by decide +kernel) hA.1 hWA fA hR)), fun e => by cases e⟩
theorem hb_ca34 (xs : List Int32) (i : Int) : hb_ok xs eh_RR 155 261 [.inr (.inl 64)] [.inr (.inl 215)] false := by
  intro n w wA vA hI hR hA
  obtain ⟨⟨x, hx⟩, hWA, hIA, fA⟩ := hb_use (C := hb_K155_517) hb_K155_517_ok (by decide +kernel) hA (hb_rh []) (fun _ => 0) hb_ag0 (hb_rh_in (fun _ h => absurd h List.not_mem_nil)) hI
  refine ⟨x, hx, hWA, fun vB wB hB => ?_⟩
  obtain ⟨⟨y, hy⟩, hWB, hIB, fB⟩ := hb_use (C := hb_K261_729) hb_K261_729_ok (by decide +kernel) hB (hb_rh []) (fun _ => 0) hb_ag0 (hb_rh_in (fun _ h => absurd h List.not_mem_nil)) hIA
  exact ⟨y, hy, hWB, hIB, (hb_fr (by decide +kernel) hWA hWB fB (hb_fr (by decide +kernel) hA.1 hWA fA hR)), fun e => by cases e⟩
theorem hb_ca35 (xs : List Int32) (i : Int) : hb_ok xs eh_RR 156 262 [.inr (.inl 64), .inl (hb_sc xs (i + 1)), .inl (hb_sc xs (i + 2))] [.inr (.inl 215), .inl (hb_sc xs (i + 1)), .inl (hb_sc xs (i + 2))] false := by
  intro n w wA vA hI hR hA
  obtain ⟨⟨x, hx⟩, hWA, hIA, fA⟩ := hb_use (C := hb_K156_518) hb_K156_518_ok (by decide +kernel) hA (hb_rh [(hb_sc xs (i + 1)), (hb_sc xs (i + 2))]) (fun _ => 0) hb_ag2 (hb_rh_in (List.forall_mem_cons.mpr ⟨hb_sc_in xs _, List.forall_mem_cons.mpr ⟨hb_sc_in xs _, fun _ h => absurd h List.not_mem_nil⟩⟩)) hI
  refine ⟨x, hx, hWA, fun vB wB hB => ?_⟩
  obtain ⟨⟨y, hy⟩, hWB, hIB, fB⟩ := hb_use (C := hb_K262_730) hb_K262_730_ok (by decide +kernel) hB (hb_rh [(hb_sc xs (i + 1)), (hb_sc xs (i + 2))]) (fun _ => 0) hb_ag2 (hb_rh_in (List.forall_mem_cons.mpr ⟨hb_sc_in xs _, List.forall_mem_cons.mpr ⟨hb_sc_in xs _, fun _ h => absurd h List.not_mem_nil⟩⟩)) hIA
  exact ⟨y, hy, hWB, hIB, (hb_fr (by decide +kernel) hWA hWB fB (hb_fr (by decide +kernel) hA.1 hWA fA hR)), fun e => by cases e⟩
theorem hb_ca36 (xs : List Int32) (i : Int) : hb_ok xs eh_RR 157 265 [.inr (.inl 64), .inl (hb_sc xs (i + 1))] [.inr (.inl 215), .inl (hb_sc xs (i + 1))] false := by
  intro n w wA vA hI hR hA
  obtain ⟨⟨x, hx⟩, hWA, hIA, fA⟩ := hb_use (C := hb_K157_523) hb_K157_523_ok (by decide +kernel) hA (hb_rh [(hb_sc xs (i + 1))]) (fun _ => 0) hb_ag1 (hb_rh_in (List.forall_mem_cons.mpr ⟨hb_sc_in xs _, fun _ h => absurd h List.not_mem_nil⟩)) hI
  refine ⟨x, hx, hWA, fun vB wB hB => ?_⟩
  obtain ⟨⟨y, hy⟩, hWB, hIB, fB⟩ := hb_use (C := hb_K265_734) hb_K265_734_ok (by decide +kernel) hB (hb_rh [(hb_sc xs (i + 1))]) (fun _ => 0) hb_ag1 (hb_rh_in (List.forall_mem_cons.mpr ⟨hb_sc_in xs _, fun _ h => absurd h List.not_mem_nil⟩)) hIA
  exact ⟨y, hy, hWB, hIB, (hb_fr (by decide +kernel) hWA hWB fB (hb_fr (by decide +kernel) hA.1 hWA fA hR)), fun e => by cases e⟩
theorem hb_ca37 (xs : List Int32) (i : Int) : hb_ok xs eh_RR 158 266 [.inr (.inl 64), .inl (hb_sc xs (i + 1)), .inl (hb_sc xs (i + 2))] [.inr (.inl 215), .inl (hb_sc xs (i + 1)), .inl (hb_sc xs (i + 2))] false := by
  intro n w wA vA hI hR hA
  obtain ⟨⟨x, hx⟩, hWA, hIA, fA⟩ := hb_use (C := hb_K158_526) hb_K158_526_ok (by decide +kernel) hA (hb_rh [(hb_sc xs (i + 1)), (hb_sc xs (i + 2))]) (fun _ => 0) hb_ag2 (hb_rh_in (List.forall_mem_cons.mpr ⟨hb_sc_in xs _, List.forall_mem_cons.mpr ⟨hb_sc_in xs _, fun _ h => absurd h List.not_mem_nil⟩⟩)) hI
  refine ⟨x, hx, hWA, fun vB wB hB => ?_⟩
  obtain ⟨⟨y, hy⟩, hWB, hIB, fB⟩ := hb_use (C := hb_K266_735) hb_K266_735_ok (by decide +kernel) hB (hb_rh [(hb_sc xs (i + 1)), (hb_sc xs (i + 2))]) (fun _ => 0) hb_ag2 (hb_rh_in (List.forall_mem_cons.mpr ⟨hb_sc_in xs _, List.forall_mem_cons.mpr ⟨hb_sc_in xs _, fun _ h => absurd h List.not_mem_nil⟩⟩)) hIA
  exact ⟨y, hy, hWB, hIB, (hb_fr (by decide +kernel) hWA hWB fB (hb_fr (by decide +kernel) hA.1 hWA fA hR)), fun e => by cases e⟩
theorem hb_ca38 (xs : List Int32) (i : Int) : hb_ok xs eh_RR 159 267 [.inr (.inl 64), .inl (hb_sc xs (i + 1)), .inl (hb_sc xs (i + 2))] [.inr (.inl 215), .inl (hb_sc xs (i + 1)), .inl (hb_sc xs (i + 2))] false := by
  intro n w wA vA hI hR hA
  obtain ⟨⟨x, hx⟩, hWA, hIA, fA⟩ := hb_use (C := hb_K159_529) hb_K159_529_ok (by decide +kernel) hA (hb_rh [(hb_sc xs (i + 1)), (hb_sc xs (i + 2))]) (fun _ => 0) hb_ag2 (hb_rh_in (List.forall_mem_cons.mpr ⟨hb_sc_in xs _, List.forall_mem_cons.mpr ⟨hb_sc_in xs _, fun _ h => absurd h List.not_mem_nil⟩⟩)) hI
  refine ⟨x, hx, hWA, fun vB wB hB => ?_⟩
  obtain ⟨⟨y, hy⟩, hWB, hIB, fB⟩ := hb_use (C := hb_K267_736) hb_K267_736_ok (by decide +kernel) hB (hb_rh [(hb_sc xs (i + 1)), (hb_sc xs (i + 2))]) (fun _ => 0) hb_ag2 (hb_rh_in (List.forall_mem_cons.mpr ⟨hb_sc_in xs _, List.forall_mem_cons.mpr ⟨hb_sc_in xs _, fun _ h => absurd h List.not_mem_nil⟩⟩)) hIA
  exact ⟨y, hy, hWB, hIB, (hb_fr (by decide +kernel) hWA hWB fB (hb_fr (by decide +kernel) hA.1 hWA fA hR)), fun e => by cases e⟩
theorem hb_ca39 (xs : List Int32) (i : Int) : hb_ok xs eh_RR 160 268 [.inr (.inl 64), .inl (hb_sc xs (i + 1)), .inl (hb_sc xs (i + 2))] [.inr (.inl 215), .inl (hb_sc xs (i + 1)), .inl (hb_sc xs (i + 2))] false := by
  intro n w wA vA hI hR hA
  obtain ⟨⟨x, hx⟩, hWA, hIA, fA⟩ := hb_use (C := hb_K160_530) hb_K160_530_ok (by decide +kernel) hA (hb_rh [(hb_sc xs (i + 1)), (hb_sc xs (i + 2))]) (fun _ => 0) hb_ag2 (hb_rh_in (List.forall_mem_cons.mpr ⟨hb_sc_in xs _, List.forall_mem_cons.mpr ⟨hb_sc_in xs _, fun _ h => absurd h List.not_mem_nil⟩⟩)) hI
  refine ⟨x, hx, hWA, fun vB wB hB => ?_⟩
  obtain ⟨⟨y, hy⟩, hWB, hIB, fB⟩ := hb_use (C := hb_K268_737) hb_K268_737_ok (by decide +kernel) hB (hb_rh [(hb_sc xs (i + 1)), (hb_sc xs (i + 2))]) (fun _ => 0) hb_ag2 (hb_rh_in (List.forall_mem_cons.mpr ⟨hb_sc_in xs _, List.forall_mem_cons.mpr ⟨hb_sc_in xs _, fun _ h => absurd h List.not_mem_nil⟩⟩)) hIA
  exact ⟨y, hy, hWB, hIB, (hb_fr (by decide +kernel) hWA hWB fB (hb_fr (by decide +kernel) hA.1 hWA fA hR)), fun e => by cases e⟩
theorem hb_ca40 (xs : List Int32) (i : Int) : hb_ok xs eh_RR 161 269 [.inr (.inl 64), .inl (hb_sc xs (i + 1)), .inl (hb_sc xs (i + 2))] [.inr (.inl 215), .inl (hb_sc xs (i + 1)), .inl (hb_sc xs (i + 2))] false := by
  intro n w wA vA hI hR hA
  obtain ⟨⟨x, hx⟩, hWA, hIA, fA⟩ := hb_use (C := hb_K161_540) hb_K161_540_ok (by decide +kernel) hA (hb_rh [(hb_sc xs (i + 1)), (hb_sc xs (i + 2))]) (fun _ => 0) hb_ag2 (hb_rh_in (List.forall_mem_cons.mpr ⟨hb_sc_in xs _, List.forall_mem_cons.mpr ⟨hb_sc_in xs _, fun _ h => absurd h List.not_mem_nil⟩⟩)) hI
  refine ⟨x, hx, hWA, fun vB wB hB => ?_⟩
  obtain ⟨⟨y, hy⟩, hWB, hIB, fB⟩ := hb_use (C := hb_K269_738) hb_K269_738_ok (by decide +kernel) hB (hb_rh [(hb_sc xs (i + 1)), (hb_sc xs (i + 2))]) (fun _ => 0) hb_ag2 (hb_rh_in (List.forall_mem_cons.mpr ⟨hb_sc_in xs _, List.forall_mem_cons.mpr ⟨hb_sc_in xs _, fun _ h => absurd h List.not_mem_nil⟩⟩)) hIA
  exact ⟨y, hy, hWB, hIB, (hb_fr (by decide +kernel) hWA hWB fB (hb_fr (by decide +kernel) hA.1 hWA fA hR)), fun e => by cases e⟩
theorem hb_ca41 (xs : List Int32) (i : Int) : hb_ok xs eh_RR 162 273 [.inr (.inl 64), .inl (hb_sc xs (i + 1)), .inl (hb_sc xs (i + 2)), .inl (hb_sc xs (i + 3))] [.inr (.inl 215), .inl (hb_sc xs (i + 1)), .inl (hb_sc xs (i + 2)), .inl (hb_sc xs (i + 3))] false := by
  intro n w wA vA hI hR hA
  obtain ⟨⟨x, hx⟩, hWA, hIA, fA⟩ := hb_use (C := hb_K162_543) hb_K162_543_ok (by decide +kernel) hA (hb_rh [(hb_sc xs (i + 1)), (hb_sc xs (i + 2)), (hb_sc xs (i + 3))]) (fun _ => 0) hb_ag3 (hb_rh_in (List.forall_mem_cons.mpr ⟨hb_sc_in xs _, List.forall_mem_cons.mpr ⟨hb_sc_in xs _, List.forall_mem_cons.mpr ⟨hb_sc_in xs _, fun _ h => absurd h List.not_mem_nil⟩⟩⟩)) hI
  refine ⟨x, hx, hWA, fun vB wB hB => ?_⟩
  obtain ⟨⟨y, hy⟩, hWB, hIB, fB⟩ := hb_use (C := hb_K273_739) hb_K273_739_ok (by decide +kernel) hB (hb_rh [(hb_sc xs (i + 1)), (hb_sc xs (i + 2)), (hb_sc xs (i + 3))]) (fun _ => 0) hb_ag3 (hb_rh_in (List.forall_mem_cons.mpr ⟨hb_sc_in xs _, List.forall_mem_cons.mpr ⟨hb_sc_in xs _, List.forall_mem_cons.mpr ⟨hb_sc_in xs _, fun _ h => absurd h List.not_mem_nil⟩⟩⟩)) hIA
  exact ⟨y, hy, hWB, hIB, (hb_fr (by decide +kernel) hWA hWB fB (hb_fr (by decide +kernel) hA.1 hWA fA hR)), fun e => by cases e⟩
theorem hb_ca42 (xs : List Int32) (i : Int) : hb_ok xs eh_RR 163 274 [.inr (.inl 64), .inl (hb_sc xs (i + 1)), .inl (hb_sc xs (i + 2)), .inl (hb_sc xs (i + 3))] [.inr (.inl 215), .inl (hb_sc xs (i + 1)), .inl (hb_sc xs (i + 2)), .inl (hb_sc xs (i + 3))] false := by
  intro n w wA vA hI hR hA
  obtain ⟨⟨x, hx⟩, hWA, hIA, fA⟩ := hb_use (C := hb_K163_544) hb_K163_544_ok (by decide +kernel) hA (hb_rh [(hb_sc xs (i + 1)), (hb_sc xs (i + 2)), (hb_sc xs (i + 3))]) (fun _ => 0) hb_ag3 (hb_rh_in (List.forall_mem_cons.mpr ⟨hb_sc_in xs _, List.forall_mem_cons.mpr ⟨hb_sc_in xs _, List.forall_mem_cons.mpr ⟨hb_sc_in xs _, fun _ h => absurd h List.not_mem_nil⟩⟩⟩)) hI
  refine ⟨x, hx, hWA, fun vB wB hB => ?_⟩
  obtain ⟨⟨y, hy⟩, hWB, hIB, fB⟩ := hb_use (C := hb_K274_740) hb_K274_740_ok (by decide +kernel) hB (hb_rh [(hb_sc xs (i + 1)), (hb_sc xs (i + 2)), (hb_sc xs (i + 3))]) (fun _ => 0) hb_ag3 (hb_rh_in (List.forall_mem_cons.mpr ⟨hb_sc_in xs _, List.forall_mem_cons.mpr ⟨hb_sc_in xs _, List.forall_mem_cons.mpr ⟨hb_sc_in xs _, fun _ h => absurd h List.not_mem_nil⟩⟩⟩)) hIA
  exact ⟨y, hy, hWB, hIB, (hb_fr (by decide +kernel) hWA hWB fB (hb_fr (by decide +kernel) hA.1 hWA fA hR)), fun e => by cases e⟩
theorem hb_ca43 (xs : List Int32) (i : Int) : hb_ok xs eh_RR 164 275 [.inr (.inl 64), .inl (hb_sc xs (i + 1)), .inl (hb_sc xs (i + 2)), .inl (hb_sc xs (i + 3))] [.inr (.inl 215), .inl (hb_sc xs (i + 1)), .inl (hb_sc xs (i + 2)), .inl (hb_sc xs (i + 3))] false := by
  intro n w wA vA hI hR hA
  obtain ⟨⟨x, hx⟩, hWA, hIA, fA⟩ := hb_use (C := hb_K164_545) hb_K164_545_ok (by decide +kernel) hA (hb_rh [(hb_sc xs (i + 1)), (hb_sc xs (i + 2)), (hb_sc xs (i + 3))]) (fun _ => 0) hb_ag3 (hb_rh_in (List.forall_mem_cons.mpr ⟨hb_sc_in xs _, List.forall_mem_cons.mpr ⟨hb_sc_in xs _, List.forall_mem_cons.mpr ⟨hb_sc_in xs _, fun _ h => absurd h List.not_mem_nil⟩⟩⟩)) hI
  refine ⟨x, hx, hWA, fun vB wB hB => ?_⟩
  obtain ⟨⟨y, hy⟩, hWB, hIB, fB⟩ := hb_use (C := hb_K275_741) hb_K275_741_ok (by decide +kernel) hB (hb_rh [(hb_sc xs (i + 1)), (hb_sc xs (i + 2)), (hb_sc xs (i + 3))]) (fun _ => 0) hb_ag3 (hb_rh_in (List.forall_mem_cons.mpr ⟨hb_sc_in xs _, List.forall_mem_cons.mpr ⟨hb_sc_in xs _, List.forall_mem_cons.mpr ⟨hb_sc_in xs _, fun _ h => absurd h List.not_mem_nil⟩⟩⟩)) hIA
  exact ⟨y, hy, hWB, hIB, (hb_fr (by decide +kernel) hWA hWB fB (hb_fr (by decide +kernel) hA.1 hWA fA hR)), fun e => by cases e⟩
theorem hb_ca44 (xs : List Int32) (i : Int) : hb_ok xs eh_RR 165 276 [.inr (.inl 64), .inl (hb_sc xs (i + 1)), .inl (hb_sc xs (i + 2)), .inl (hb_sc xs (i + 3)), .inl (hb_sc xs (i + 4)), .inl (hb_sc xs (i + 5))] [.inr (.inl 215), .inl (hb_sc xs (i + 1)), .inl (hb_sc xs (i + 2)), .inl (hb_sc xs (i + 3)), .inl (hb_sc xs (i + 4)), .inl (hb_sc xs (i + 5))] false := by
  intro n w wA vA hI hR hA
  obtain ⟨⟨x, hx⟩, hWA, hIA, fA⟩ := hb_use (C := hb_K165_546) hb_K165_546_ok (by decide +kernel) hA (hb_rh [(hb_sc xs (i + 1)), (hb_sc xs (i + 2)), (hb_sc xs (i + 3)), (hb_sc xs (i + 4)), (hb_sc xs (i + 5))]) (fun _ => 0) hb_ag5 (hb_rh_in (List.forall_mem_cons.mpr ⟨hb_sc_in xs _, List.forall_mem_cons.mpr ⟨hb_sc_in xs _, List.forall_mem_cons.mpr ⟨hb_sc_in xs _, List.forall_mem_cons.mpr ⟨hb_sc_in xs _, List.forall_mem_cons.mpr ⟨hb_sc_in xs _, fun _ h => absurd h List.not_mem_nil⟩⟩⟩⟩⟩)) hI
  refine ⟨x, hx, hWA, fun vB wB hB => ?_⟩
  obtain ⟨⟨y, hy⟩, hWB, hIB, fB⟩ := hb_use (C := hb_K276_742) hb_K276_742_ok (by decide +kernel) hB (hb_rh [(hb_sc xs (i + 1)), (hb_sc xs (i + 2)), (hb_sc xs (i + 3)), (hb_sc xs (i + 4)), (hb_sc xs (i + 5))]) (fun _ => 0) hb_ag5 (hb_rh_in (List.forall_mem_cons.mpr ⟨hb_sc_in xs _, List.forall_mem_cons.mpr ⟨hb_sc_in xs _, List.forall_mem_cons.mpr ⟨hb_sc_in xs _, List.forall_mem_cons.mpr ⟨hb_sc_in xs _, List.forall_mem_cons.mpr ⟨hb_sc_in xs _, fun _ h => absurd h List.not_mem_nil⟩⟩⟩⟩⟩)) hIA
  exact ⟨y, hy, hWB, hIB, (hb_fr (by decide +kernel) hWA hWB fB (hb_fr (by decide +kernel) hA.1 hWA fA hR)), fun e => by cases e⟩
theorem hb_ca45 (xs : List Int32) (i : Int) : hb_ok xs eh_RR 166 277 [.inr (.inl 64), .inl (hb_sc xs (i + 1)), .inl (hb_sc xs (i + 2)), .inl (hb_sc xs (i + 3))] [.inr (.inl 215), .inl (hb_sc xs (i + 1)), .inl (hb_sc xs (i + 2)), .inl (hb_sc xs (i + 3))] false := by
  intro n w wA vA hI hR hA
  obtain ⟨⟨x, hx⟩, hWA, hIA, fA⟩ := hb_use (C := hb_K166_547) hb_K166_547_ok (by decide +kernel) hA (hb_rh [(hb_sc xs (i + 1)), (hb_sc xs (i + 2)), (hb_sc xs (i + 3))]) (fun _ => 0) hb_ag3 (hb_rh_in (List.forall_mem_cons.mpr ⟨hb_sc_in xs _, List.forall_mem_cons.mpr ⟨hb_sc_in xs _, List.forall_mem_cons.mpr ⟨hb_sc_in xs _, fun _ h => absurd h List.not_mem_nil⟩⟩⟩)) hI
  refine ⟨x, hx, hWA, fun vB wB hB => ?_⟩
  obtain ⟨⟨y, hy⟩, hWB, hIB, fB⟩ := hb_use (C := hb_L277) hb_L277_ok (by decide +kernel) hB (hb_rh [(hb_sc xs (i + 1)), (hb_sc xs (i + 2)), (hb_sc xs (i + 3))]) (fun _ => 0) hb_ag3 (hb_rh_in (List.forall_mem_cons.mpr ⟨hb_sc_in xs _, List.forall_mem_cons.mpr ⟨hb_sc_in xs _, List.forall_mem_cons.mpr ⟨hb_sc_in xs _, fun _ h => absurd h List.not_mem_nil⟩⟩⟩)) hIA
  exact ⟨y, hy, hWB, hIB, (hb_fr (by decide +kernel) hWA hWB fB (hb_fr (by decide +kernel) hA.1 hWA fA hR)), fun e => by cases e⟩
theorem hb_ca46 (xs : List Int32) (i : Int) : hb_ok xs eh_RR 167 279 [.inr (.inl 64), .inl (hb_sc xs (i + 1)), .inl (hb_sc xs (i + 2))] [.inr (.inl 215), .inl (hb_sc xs (i + 1)), .inl (hb_sc xs (i + 2))] false := by
  intro n w wA vA hI hR hA
  obtain ⟨⟨x, hx⟩, hWA, hIA, fA⟩ := hb_use (C := hb_K167_548) hb_K167_548_ok (by decide +kernel) hA (hb_rh [(hb_sc xs (i + 1)), (hb_sc xs (i + 2))]) (fun _ => 0) hb_ag2 (hb_rh_in (List.forall_mem_cons.mpr ⟨hb_sc_in xs _, List.forall_mem_cons.mpr ⟨hb_sc_in xs _, fun _ h => absurd h List.not_mem_nil⟩⟩)) hI
  refine ⟨x, hx, hWA, fun vB wB hB => ?_⟩
  obtain ⟨⟨y, hy⟩, hWB, hIB, fB⟩ := hb_use (C := hb_K279_743) hb_K279_743_ok (by decide +kernel) hB (hb_rh [(hb_sc xs (i + 1)), (hb_sc xs (i + 2))]) (fun _ => 0) hb_ag2 (hb_rh_in (List.forall_mem_cons.mpr ⟨hb_sc_in xs _, List.forall_mem_cons.mpr ⟨hb_sc_in xs _, fun _ h => absurd h List.not_mem_nil⟩⟩)) hIA
  exact ⟨y, hy, hWB, hIB, (hb_fr (by decide +kernel) hWA hWB fB (hb_fr (by decide +kernel) hA.1 hWA fA hR)), fun e => by cases e⟩
theorem hb_ca47 (xs : List Int32) (i : Int) : hb_ok xs eh_RR 168 289 [.inr (.inl 64), .inl (hb_sc xs (i + 1)), .inl (hb_sc xs (i + 2)), .inl (hb_sc xs (i + 3))] [.inr (.inl 215), .inl (hb_sc xs (i + 1)), .inl (hb_sc xs (i + 2)), .inl (hb_sc xs (i + 3))] false := by
  intro n w wA vA hI hR hA
  obtain ⟨⟨x, hx⟩, hWA, hIA, fA⟩ := hb_use (C := hb_K168_553) hb_K168_553_ok (by decide +kernel) hA (hb_rh [(hb_sc xs (i + 1)), (hb_sc xs (i + 2)), (hb_sc xs (i + 3))]) (fun _ => 0) hb_ag3 (hb_rh_in (List.forall_mem_cons.mpr ⟨hb_sc_in xs _, List.forall_mem_cons.mpr ⟨hb_sc_in xs _, List.forall_mem_cons.mpr ⟨hb_sc_in xs _, fun _ h => absurd h List.not_mem_nil⟩⟩⟩)) hI
  refine ⟨x, hx, hWA, fun vB wB hB => ?_⟩
  obtain ⟨⟨y, hy⟩, hWB, hIB, fB⟩ := hb_use (C := hb_K289_748) hb_K289_748_ok (by decide +kernel) hB (hb_rh [(hb_sc xs (i + 1)), (hb_sc xs (i + 2)), (hb_sc xs (i + 3))]) (fun _ => 0) hb_ag3 (hb_rh_in (List.forall_mem_cons.mpr ⟨hb_sc_in xs _, List.forall_mem_cons.mpr ⟨hb_sc_in xs _, List.forall_mem_cons.mpr ⟨hb_sc_in xs _, fun _ h => absurd h List.not_mem_nil⟩⟩⟩)) hIA
  exact ⟨y, hy, hWB, hIB, (hb_fr (by decide +kernel) hWA hWB fB (hb_fr (by decide +kernel) hA.1 hWA fA hR)), fun e => by cases e⟩
theorem hb_ca48 (xs : List Int32) (i : Int) : hb_ok xs eh_RR 169 290 [.inr (.inl 64), .inl (hb_sc xs (i + 1))] [.inr (.inl 215), .inl (hb_sc xs (i + 1))] false := by
  intro n w wA vA hI hR hA
  obtain ⟨⟨x, hx⟩, hWA, hIA, fA⟩ := hb_use (C := hb_K169_554) hb_K169_554_ok (by decide +kernel) hA (hb_rh [(hb_sc xs (i + 1))]) (fun _ => 0) hb_ag1 (hb_rh_in (List.forall_mem_cons.mpr ⟨hb_sc_in xs _, fun _ h => absurd h List.not_mem_nil⟩)) hI
  refine ⟨x, hx, hWA, fun vB wB hB => ?_⟩
  obtain ⟨⟨y, hy⟩, hWB, hIB, fB⟩ := hb_use (C := hb_K290_749) hb_K290_749_ok (by decide +kernel) hB (hb_rh [(hb_sc xs (i + 1))]) (fun _ => 0) hb_ag1 (hb_rh_in (List.forall_mem_cons.mpr ⟨hb_sc_in xs _, fun _ h => absurd h List.not_mem_nil⟩)) hIA
  exact ⟨y, hy, hWB, hIB, (hb_fr (by decide +kernel) hWA hWB fB (hb_fr (by decide +kernel) hA.1 hWA fA hR)), fun e => by cases e⟩
theorem hb_ca49 (xs : List Int32) (i : Int) : hb_ok xs eh_RR 170 291 [.inr (.inl 64), .inl (hb_sc xs (i + 1))] [.inr (.inl 215), .inl (hb_sc xs (i + 1))] false := by
  intro n w wA vA hI hR hA
  obtain ⟨⟨x, hx⟩, hWA, hIA, fA⟩ := hb_use (C := hb_K170_556) hb_K170_556_ok (by decide +kernel) hA (hb_rh [(hb_sc xs (i + 1))]) (fun _ => 0) hb_ag1 (hb_rh_in (List.forall_mem_cons.mpr ⟨hb_sc_in xs _, fun _ h => absurd h List.not_mem_nil⟩)) hI
  refine ⟨x, hx, hWA, fun vB wB hB => ?_⟩
  obtain ⟨⟨y, hy⟩, hWB, hIB, fB⟩ := hb_use (C := hb_K291_752) hb_K291_752_ok (by decide +kernel) hB (hb_rh [(hb_sc xs (i + 1))]) (fun _ => 0) hb_ag1 (hb_rh_in (List.forall_mem_cons.mpr ⟨hb_sc_in xs _, fun _ h => absurd h List.not_mem_nil⟩)) hIA
  exact ⟨y, hy, hWB, hIB, (hb_fr (by decide +kernel) hWA hWB fB (hb_fr (by decide +kernel) hA.1 hWA fA hR)), fun e => by cases e⟩
theorem hb_ca50 (xs : List Int32) (i : Int) : hb_ok xs eh_RR 171 292 [.inr (.inl 64)] [.inr (.inl 215)] false := by
  intro n w wA vA hI hR hA
  obtain ⟨⟨x, hx⟩, hWA, hIA, fA⟩ := hb_use (C := hb_K171_558) hb_K171_558_ok (by decide +kernel) hA (hb_rh []) (fun _ => 0) hb_ag0 (hb_rh_in (fun _ h => absurd h List.not_mem_nil)) hI
  refine ⟨x, hx, hWA, fun vB wB hB => ?_⟩
  obtain ⟨⟨y, hy⟩, hWB, hIB, fB⟩ := hb_use (C := hb_L292) hb_L292_ok (by decide +kernel) hB (hb_rh []) (fun _ => 0) hb_ag0 (hb_rh_in (fun _ h => absurd h List.not_mem_nil)) hIA
  exact ⟨y, hy, hWB, hIB, (ew_hkeep2 hR hA hB), fun e => by cases e⟩
theorem hb_ca51 (xs : List Int32) (i : Int) : hb_ok xs eh_RR 172 293 [.inr (.inl 64)] [.inr (.inl 215)] false := by
  intro n w wA vA hI hR hA
  obtain ⟨⟨x, hx⟩, hWA, hIA, fA⟩ := hb_use (C := hb_K172_559) hb_K172_559_ok (by decide +kernel) hA (hb_rh []) (fun _ => 0) hb_ag0 (hb_rh_in (fun _ h => absurd h List.not_mem_nil)) hI
  refine ⟨x, hx, hWA, fun vB wB hB => ?_⟩
  obtain ⟨⟨y, hy⟩, hWB, hIB, fB⟩ := hb_use (C := hb_L293) hb_L293_ok (by decide +kernel) hB (hb_rh []) (fun _ => 0) hb_ag0 (hb_rh_in (fun _ h => absurd h List.not_mem_nil)) hIA
  exact ⟨y, hy, hWB, hIB, (ew_hagain2 hR hA hB), fun e => by cases e⟩
theorem hb_pc {xs : List Int32} (hlen : xs.length ≤ 3072) : ∀ (m : Nat) (n : Nat) (i : Int) (w : px_W) (r : Option Value × px_W), (xs.length : Int) - i ≤ m → 0 ≤ i → i ≤ 3078 → hb_I0 w → eh_RR w → hb_H xs n i w r → r.1 = some (.int 1) := by
  intro m
  induction m with
  | zero =>
    intro n i w r hm h0 h1 hI hR h
    have ti : ec_tw i = i := ec_tw_id (by omega) (by omega)
    have tl : ec_tw ((xs.length : Int) - 6) = (xs.length : Int) - 6 := ec_tw_id (by omega) (by omega)
    obtain ⟨_, hr, _⟩ := eL_ret h (by omega)
    rw [hr]
    rfl
  | succ m ih =>
    intro n i w r hm h0 h1 hI hR h
    have ti : ec_tw i = i := ec_tw_id (by omega) (by omega)
    have tl : ec_tw ((xs.length : Int) - 6) = (xs.length : Int) - 6 := ec_tw_id (by omega) (by omega)
    by_cases hc : ec_tw i ≤ ec_tw ((xs.length : Int) - 6)
    · have go : ∀ (mA mB : Nat) (asA asB : List ec_V) (cmp : Bool), hb_ok xs eh_RR mA mB asA asB cmp → (∃ (vA : Option Value) (wA : px_W), ec_F (hb_XL xs) n mA asA w (vA, wA) ∧ ∀ x : Int, vA = ec_R x → ec_W hb_A wA → ∃ (vB : Option Value) (wB : px_W), ec_F (hb_XL xs) n mB asB wA (vB, wB) ∧ ∀ y : Int, vB = ec_R y → ec_W hb_A wB → (cmp = true → ec_tw x = ec_tw y) → hb_H xs n (i + 6) wB r) → r.1 = some (.int 1) := by
        intro mA mB asA asB cmp hok hex
        obtain ⟨vA, wA, a1, a2⟩ := hex
        obtain ⟨x, hx, hX, a3⟩ := hok n w wA vA hI hR a1
        obtain ⟨vB, wB, b1, b2⟩ := a2 x hx hX
        obtain ⟨y, hy, hY, hI', hR', hxy⟩ := a3 vB wB b1
        exact ih n (i + 6) wB r (by omega) (by omega) (by omega) hI' hR' (b2 y hy hY hxy)
      by_cases hd : ec_tw (ec_and (hb_sc xs i) 63) < 0 ∨ 0 + 51 < ec_tw (ec_and (hb_sc xs i) 63)
      · have h2 := (eL_def h hc hd).2
        exact ih n (i + 6) w r (by omega) (by omega) (by omega) hI hR h2
      · have hk : ec_tw (ec_and (hb_sc xs i) 63) = 0 ∨ ec_tw (ec_and (hb_sc xs i) 63) = 1 ∨ ec_tw (ec_and (hb_sc xs i) 63) = 2 ∨ ec_tw (ec_and (hb_sc xs i) 63) = 3 ∨ ec_tw (ec_and (hb_sc xs i) 63) = 4 ∨ ec_tw (ec_and (hb_sc xs i) 63) = 5 ∨ ec_tw (ec_and (hb_sc xs i) 63) = 6 ∨ ec_tw (ec_and (hb_sc xs i) 63) = 7 ∨ ec_tw (ec_and (hb_sc xs i) 63) = 8 ∨ ec_tw (ec_and (hb_sc xs i) 63) = 9 ∨ ec_tw (ec_and (hb_sc xs i) 63) = 10 ∨ ec_tw (ec_and (hb_sc xs i) 63) = 11 ∨ ec_tw (ec_and (hb_sc xs i) 63) = 12 ∨ ec_tw (ec_and (hb_sc xs i) 63) = 13 ∨ ec_tw (ec_and (hb_sc xs i) 63) = 14 ∨ ec_tw (ec_and (hb_sc xs i) 63) = 15 ∨ ec_tw (ec_and (hb_sc xs i) 63) = 16 ∨ ec_tw (ec_and (hb_sc xs i) 63) = 17 ∨ ec_tw (ec_and (hb_sc xs i) 63) = 18 ∨ ec_tw (ec_and (hb_sc xs i) 63) = 19 ∨ ec_tw (ec_and (hb_sc xs i) 63) = 20 ∨ ec_tw (ec_and (hb_sc xs i) 63) = 21 ∨ ec_tw (ec_and (hb_sc xs i) 63) = 22 ∨ ec_tw (ec_and (hb_sc xs i) 63) = 23 ∨ ec_tw (ec_and (hb_sc xs i) 63) = 24 ∨ ec_tw (ec_and (hb_sc xs i) 63) = 25 ∨ ec_tw (ec_and (hb_sc xs i) 63) = 26 ∨ ec_tw (ec_and (hb_sc xs i) 63) = 27 ∨ ec_tw (ec_and (hb_sc xs i) 63) = 28 ∨ ec_tw (ec_and (hb_sc xs i) 63) = 29 ∨ ec_tw (ec_and (hb_sc xs i) 63) = 30 ∨ ec_tw (ec_and (hb_sc xs i) 63) = 31 ∨ ec_tw (ec_and (hb_sc xs i) 63) = 32 ∨ ec_tw (ec_and (hb_sc xs i) 63) = 33 ∨ ec_tw (ec_and (hb_sc xs i) 63) = 34 ∨ ec_tw (ec_and (hb_sc xs i) 63) = 35 ∨ ec_tw (ec_and (hb_sc xs i) 63) = 36 ∨ ec_tw (ec_and (hb_sc xs i) 63) = 37 ∨ ec_tw (ec_and (hb_sc xs i) 63) = 38 ∨ ec_tw (ec_and (hb_sc xs i) 63) = 39 ∨ ec_tw (ec_and (hb_sc xs i) 63) = 40 ∨ ec_tw (ec_and (hb_sc xs i) 63) = 41 ∨ ec_tw (ec_and (hb_sc xs i) 63) = 42 ∨ ec_tw (ec_and (hb_sc xs i) 63) = 43 ∨ ec_tw (ec_and (hb_sc xs i) 63) = 44 ∨ ec_tw (ec_and (hb_sc xs i) 63) = 45 ∨ ec_tw (ec_and (hb_sc xs i) 63) = 46 ∨ ec_tw (ec_and (hb_sc xs i) 63) = 47 ∨ ec_tw (ec_and (hb_sc xs i) 63) = 48 ∨ ec_tw (ec_and (hb_sc xs i) 63) = 49 ∨ ec_tw (ec_and (hb_sc xs i) 63) = 50 ∨ ec_tw (ec_and (hb_sc xs i) 63) = 51 := by omega
        rcases hk with hk | hk | hk | hk | hk | hk | hk | hk | hk | hk | hk | hk | hk | hk | hk | hk | hk | hk | hk | hk | hk | hk | hk | hk | hk | hk | hk | hk | hk | hk | hk | hk | hk | hk | hk | hk | hk | hk | hk | hk | hk | hk | hk | hk | hk | hk | hk | hk | hk | hk | hk | hk
        · obtain ⟨vA, wA, a1, a2⟩ := eL0 h hc hk
          exact go _ _ _ _ _ (hb_ca0 xs i) ⟨vA, wA, a1, fun x hx hX => by
            obtain ⟨vB, wB, b1, b2⟩ := a2 x hx hX
            exact ⟨vB, wB, b1, fun y hy hY hxy => b2 y hy hY⟩⟩
        · obtain ⟨vA, wA, a1, a2⟩ := eL1 h hc hk
          exact go _ _ _ _ _ (hb_ca1 xs i) ⟨vA, wA, a1, fun x hx hX => by
            obtain ⟨vB, wB, b1, b2⟩ := a2 x hx hX
            exact ⟨vB, wB, b1, fun y hy hY hxy => b2 y hy hY (hxy rfl)⟩⟩
        · obtain ⟨vA, wA, a1, a2⟩ := eL2 h hc hk
          exact go _ _ _ _ _ (hb_ca2 xs i) ⟨vA, wA, a1, fun x hx hX => by
            obtain ⟨vB, wB, b1, b2⟩ := a2 x hx hX
            exact ⟨vB, wB, b1, fun y hy hY hxy => b2 y hy hY⟩⟩
        · obtain ⟨vA, wA, a1, a2⟩ := eL3 h hc hk
          exact go _ _ _ _ _ (hb_ca3 xs i) ⟨vA, wA, a1, fun x hx hX => by
            obtain ⟨vB, wB, b1, b2⟩ := a2 x hx hX
            exact ⟨vB, wB, b1, fun y hy hY hxy => b2 y hy hY⟩⟩
        · obtain ⟨vA, wA, a1, a2⟩ := eL4 h hc hk
          exact go _ _ _ _ _ (hb_ca4 xs i) ⟨vA, wA, a1, fun x hx hX => by
            obtain ⟨vB, wB, b1, b2⟩ := a2 x hx hX
            exact ⟨vB, wB, b1, fun y hy hY hxy => b2 y hy hY⟩⟩
        · obtain ⟨vA, wA, a1, a2⟩ := eL5 h hc hk
          exact go _ _ _ _ _ (hb_ca5 xs i) ⟨vA, wA, a1, fun x hx hX => by
            obtain ⟨vB, wB, b1, b2⟩ := a2 x hx hX
            exact ⟨vB, wB, b1, fun y hy hY hxy => b2 y hy hY⟩⟩
        · obtain ⟨vA, wA, a1, a2⟩ := eL6 h hc hk
          exact go _ _ _ _ _ (hb_ca6 xs i) ⟨vA, wA, a1, fun x hx hX => by
            obtain ⟨vB, wB, b1, b2⟩ := a2 x hx hX
            exact ⟨vB, wB, b1, fun y hy hY hxy => b2 y hy hY⟩⟩
        · obtain ⟨vA, wA, a1, a2⟩ := eL7 h hc hk
          exact go _ _ _ _ _ (hb_ca7 xs i) ⟨vA, wA, a1, fun x hx hX => by
            obtain ⟨vB, wB, b1, b2⟩ := a2 x hx hX
            exact ⟨vB, wB, b1, fun y hy hY hxy => b2 y hy hY⟩⟩
        · obtain ⟨vA, wA, a1, a2⟩ := eL8 h hc hk
          exact go _ _ _ _ _ (hb_ca8 xs i) ⟨vA, wA, a1, fun x hx hX => by
            obtain ⟨vB, wB, b1, b2⟩ := a2 x hx hX
            exact ⟨vB, wB, b1, fun y hy hY hxy => b2 y hy hY⟩⟩
        · obtain ⟨vA, wA, a1, a2⟩ := eL9 h hc hk
          exact go _ _ _ _ _ (hb_ca9 xs i) ⟨vA, wA, a1, fun x hx hX => by
            obtain ⟨vB, wB, b1, b2⟩ := a2 x hx hX
            exact ⟨vB, wB, b1, fun y hy hY hxy => b2 y hy hY⟩⟩
        · obtain ⟨vA, wA, a1, a2⟩ := eL10 h hc hk
          exact go _ _ _ _ _ (hb_ca10 xs i) ⟨vA, wA, a1, fun x hx hX => by
            obtain ⟨vB, wB, b1, b2⟩ := a2 x hx hX
            exact ⟨vB, wB, b1, fun y hy hY hxy => b2 y hy hY⟩⟩
        · obtain ⟨vA, wA, a1, a2⟩ := eL11 h hc hk
          exact go _ _ _ _ _ (hb_ca11 xs i) ⟨vA, wA, a1, fun x hx hX => by
            obtain ⟨vB, wB, b1, b2⟩ := a2 x hx hX
            exact ⟨vB, wB, b1, fun y hy hY hxy => b2 y hy hY⟩⟩
        · obtain ⟨vA, wA, a1, a2⟩ := eL12 h hc hk
          exact go _ _ _ _ _ (hb_ca12 xs i) ⟨vA, wA, a1, fun x hx hX => by
            obtain ⟨vB, wB, b1, b2⟩ := a2 x hx hX
            exact ⟨vB, wB, b1, fun y hy hY hxy => b2 y hy hY⟩⟩
        · obtain ⟨vA, wA, a1, a2⟩ := eL13 h hc hk
          exact go _ _ _ _ _ (hb_ca13 xs i) ⟨vA, wA, a1, fun x hx hX => by
            obtain ⟨vB, wB, b1, b2⟩ := a2 x hx hX
            exact ⟨vB, wB, b1, fun y hy hY hxy => b2 y hy hY⟩⟩
        · obtain ⟨vA, wA, a1, a2⟩ := eL14 h hc hk
          exact go _ _ _ _ _ (hb_ca14 xs i) ⟨vA, wA, a1, fun x hx hX => by
            obtain ⟨vB, wB, b1, b2⟩ := a2 x hx hX
            exact ⟨vB, wB, b1, fun y hy hY hxy => b2 y hy hY⟩⟩
        · obtain ⟨vA, wA, a1, a2⟩ := eL15 h hc hk
          exact go _ _ _ _ _ (hb_ca15 xs i) ⟨vA, wA, a1, fun x hx hX => by
            obtain ⟨vB, wB, b1, b2⟩ := a2 x hx hX
            exact ⟨vB, wB, b1, fun y hy hY hxy => b2 y hy hY⟩⟩
        · obtain ⟨vA, wA, a1, a2⟩ := eL16 h hc hk
          exact go _ _ _ _ _ (hb_ca16 xs i) ⟨vA, wA, a1, fun x hx hX => by
            obtain ⟨vB, wB, b1, b2⟩ := a2 x hx hX
            exact ⟨vB, wB, b1, fun y hy hY hxy => b2 y hy hY⟩⟩
        · obtain ⟨vA, wA, a1, a2⟩ := eL17 h hc hk
          exact go _ _ _ _ _ (hb_ca17 xs i) ⟨vA, wA, a1, fun x hx hX => by
            obtain ⟨vB, wB, b1, b2⟩ := a2 x hx hX
            exact ⟨vB, wB, b1, fun y hy hY hxy => b2 y hy hY⟩⟩
        · obtain ⟨vA, wA, a1, a2⟩ := eL18 h hc hk
          exact go _ _ _ _ _ (hb_ca18 xs i) ⟨vA, wA, a1, fun x hx hX => by
            obtain ⟨vB, wB, b1, b2⟩ := a2 x hx hX
            exact ⟨vB, wB, b1, fun y hy hY hxy => b2 y hy hY⟩⟩
        · obtain ⟨vA, wA, a1, a2⟩ := eL19 h hc hk
          exact go _ _ _ _ _ (hb_ca19 xs i) ⟨vA, wA, a1, fun x hx hX => by
            obtain ⟨vB, wB, b1, b2⟩ := a2 x hx hX
            exact ⟨vB, wB, b1, fun y hy hY hxy => b2 y hy hY⟩⟩
        · obtain ⟨vA, wA, a1, a2⟩ := eL20 h hc hk
          exact go _ _ _ _ _ (hb_ca20 xs i) ⟨vA, wA, a1, fun x hx hX => by
            obtain ⟨vB, wB, b1, b2⟩ := a2 x hx hX
            exact ⟨vB, wB, b1, fun y hy hY hxy => b2 y hy hY⟩⟩
        · obtain ⟨vA, wA, a1, a2⟩ := eL21 h hc hk
          exact go _ _ _ _ _ (hb_ca21 xs i) ⟨vA, wA, a1, fun x hx hX => by
            obtain ⟨vB, wB, b1, b2⟩ := a2 x hx hX
            exact ⟨vB, wB, b1, fun y hy hY hxy => b2 y hy hY⟩⟩
        · obtain ⟨vA, wA, a1, a2⟩ := eL22 h hc hk
          exact go _ _ _ _ _ (hb_ca22 xs i) ⟨vA, wA, a1, fun x hx hX => by
            obtain ⟨vB, wB, b1, b2⟩ := a2 x hx hX
            exact ⟨vB, wB, b1, fun y hy hY hxy => b2 y hy hY⟩⟩
        · obtain ⟨vA, wA, a1, a2⟩ := eL23 h hc hk
          exact go _ _ _ _ _ (hb_ca23 xs i) ⟨vA, wA, a1, fun x hx hX => by
            obtain ⟨vB, wB, b1, b2⟩ := a2 x hx hX
            exact ⟨vB, wB, b1, fun y hy hY hxy => b2 y hy hY⟩⟩
        · obtain ⟨vA, wA, a1, a2⟩ := eL24 h hc hk
          exact go _ _ _ _ _ (hb_ca24 xs i) ⟨vA, wA, a1, fun x hx hX => by
            obtain ⟨vB, wB, b1, b2⟩ := a2 x hx hX
            exact ⟨vB, wB, b1, fun y hy hY hxy => b2 y hy hY⟩⟩
        · obtain ⟨vA, wA, a1, a2⟩ := eL25 h hc hk
          exact go _ _ _ _ _ (hb_ca25 xs i) ⟨vA, wA, a1, fun x hx hX => by
            obtain ⟨vB, wB, b1, b2⟩ := a2 x hx hX
            exact ⟨vB, wB, b1, fun y hy hY hxy => b2 y hy hY⟩⟩
        · obtain ⟨vA, wA, a1, a2⟩ := eL26 h hc hk
          exact go _ _ _ _ _ (hb_ca26 xs i) ⟨vA, wA, a1, fun x hx hX => by
            obtain ⟨vB, wB, b1, b2⟩ := a2 x hx hX
            exact ⟨vB, wB, b1, fun y hy hY hxy => b2 y hy hY⟩⟩
        · obtain ⟨vA, wA, a1, a2⟩ := eL27 h hc hk
          exact go _ _ _ _ _ (hb_ca27 xs i) ⟨vA, wA, a1, fun x hx hX => by
            obtain ⟨vB, wB, b1, b2⟩ := a2 x hx hX
            exact ⟨vB, wB, b1, fun y hy hY hxy => b2 y hy hY⟩⟩
        · obtain ⟨vA, wA, a1, a2⟩ := eL28 h hc hk
          exact go _ _ _ _ _ (hb_ca28 xs i) ⟨vA, wA, a1, fun x hx hX => by
            obtain ⟨vB, wB, b1, b2⟩ := a2 x hx hX
            exact ⟨vB, wB, b1, fun y hy hY hxy => b2 y hy hY⟩⟩
        · obtain ⟨vA, wA, a1, a2⟩ := eL29 h hc hk
          exact go _ _ _ _ _ (hb_ca29 xs i) ⟨vA, wA, a1, fun x hx hX => by
            obtain ⟨vB, wB, b1, b2⟩ := a2 x hx hX
            exact ⟨vB, wB, b1, fun y hy hY hxy => b2 y hy hY⟩⟩
        · obtain ⟨vA, wA, a1, a2⟩ := eL30 h hc hk
          exact go _ _ _ _ _ (hb_ca30 xs i) ⟨vA, wA, a1, fun x hx hX => by
            obtain ⟨vB, wB, b1, b2⟩ := a2 x hx hX
            exact ⟨vB, wB, b1, fun y hy hY hxy => b2 y hy hY⟩⟩
        · obtain ⟨vA, wA, a1, a2⟩ := eL31 h hc hk
          exact go _ _ _ _ _ (hb_ca31 xs i) ⟨vA, wA, a1, fun x hx hX => by
            obtain ⟨vB, wB, b1, b2⟩ := a2 x hx hX
            exact ⟨vB, wB, b1, fun y hy hY hxy => b2 y hy hY⟩⟩
        · obtain ⟨vA, wA, a1, a2⟩ := eL32 h hc hk
          exact go _ _ _ _ _ (hb_ca32 xs i) ⟨vA, wA, a1, fun x hx hX => by
            obtain ⟨vB, wB, b1, b2⟩ := a2 x hx hX
            exact ⟨vB, wB, b1, fun y hy hY hxy => b2 y hy hY⟩⟩
        · obtain ⟨vA, wA, a1, a2⟩ := eL33 h hc hk
          exact go _ _ _ _ _ (hb_ca33 xs i) ⟨vA, wA, a1, fun x hx hX => by
            obtain ⟨vB, wB, b1, b2⟩ := a2 x hx hX
            exact ⟨vB, wB, b1, fun y hy hY hxy => b2 y hy hY⟩⟩
        · obtain ⟨vA, wA, a1, a2⟩ := eL34 h hc hk
          exact go _ _ _ _ _ (hb_ca34 xs i) ⟨vA, wA, a1, fun x hx hX => by
            obtain ⟨vB, wB, b1, b2⟩ := a2 x hx hX
            exact ⟨vB, wB, b1, fun y hy hY hxy => b2 y hy hY⟩⟩
        · obtain ⟨vA, wA, a1, a2⟩ := eL35 h hc hk
          exact go _ _ _ _ _ (hb_ca35 xs i) ⟨vA, wA, a1, fun x hx hX => by
            obtain ⟨vB, wB, b1, b2⟩ := a2 x hx hX
            exact ⟨vB, wB, b1, fun y hy hY hxy => b2 y hy hY⟩⟩
        · obtain ⟨vA, wA, a1, a2⟩ := eL36 h hc hk
          exact go _ _ _ _ _ (hb_ca36 xs i) ⟨vA, wA, a1, fun x hx hX => by
            obtain ⟨vB, wB, b1, b2⟩ := a2 x hx hX
            exact ⟨vB, wB, b1, fun y hy hY hxy => b2 y hy hY⟩⟩
        · obtain ⟨vA, wA, a1, a2⟩ := eL37 h hc hk
          exact go _ _ _ _ _ (hb_ca37 xs i) ⟨vA, wA, a1, fun x hx hX => by
            obtain ⟨vB, wB, b1, b2⟩ := a2 x hx hX
            exact ⟨vB, wB, b1, fun y hy hY hxy => b2 y hy hY⟩⟩
        · obtain ⟨vA, wA, a1, a2⟩ := eL38 h hc hk
          exact go _ _ _ _ _ (hb_ca38 xs i) ⟨vA, wA, a1, fun x hx hX => by
            obtain ⟨vB, wB, b1, b2⟩ := a2 x hx hX
            exact ⟨vB, wB, b1, fun y hy hY hxy => b2 y hy hY⟩⟩
        · obtain ⟨vA, wA, a1, a2⟩ := eL39 h hc hk
          exact go _ _ _ _ _ (hb_ca39 xs i) ⟨vA, wA, a1, fun x hx hX => by
            obtain ⟨vB, wB, b1, b2⟩ := a2 x hx hX
            exact ⟨vB, wB, b1, fun y hy hY hxy => b2 y hy hY⟩⟩
        · obtain ⟨vA, wA, a1, a2⟩ := eL40 h hc hk
          exact go _ _ _ _ _ (hb_ca40 xs i) ⟨vA, wA, a1, fun x hx hX => by
            obtain ⟨vB, wB, b1, b2⟩ := a2 x hx hX
            exact ⟨vB, wB, b1, fun y hy hY hxy => b2 y hy hY⟩⟩
        · obtain ⟨vA, wA, a1, a2⟩ := eL41 h hc hk
          exact go _ _ _ _ _ (hb_ca41 xs i) ⟨vA, wA, a1, fun x hx hX => by
            obtain ⟨vB, wB, b1, b2⟩ := a2 x hx hX
            exact ⟨vB, wB, b1, fun y hy hY hxy => b2 y hy hY⟩⟩
        · obtain ⟨vA, wA, a1, a2⟩ := eL42 h hc hk
          exact go _ _ _ _ _ (hb_ca42 xs i) ⟨vA, wA, a1, fun x hx hX => by
            obtain ⟨vB, wB, b1, b2⟩ := a2 x hx hX
            exact ⟨vB, wB, b1, fun y hy hY hxy => b2 y hy hY⟩⟩
        · obtain ⟨vA, wA, a1, a2⟩ := eL43 h hc hk
          exact go _ _ _ _ _ (hb_ca43 xs i) ⟨vA, wA, a1, fun x hx hX => by
            obtain ⟨vB, wB, b1, b2⟩ := a2 x hx hX
            exact ⟨vB, wB, b1, fun y hy hY hxy => b2 y hy hY⟩⟩
        · obtain ⟨vA, wA, a1, a2⟩ := eL44 h hc hk
          exact go _ _ _ _ _ (hb_ca44 xs i) ⟨vA, wA, a1, fun x hx hX => by
            obtain ⟨vB, wB, b1, b2⟩ := a2 x hx hX
            exact ⟨vB, wB, b1, fun y hy hY hxy => b2 y hy hY⟩⟩
        · obtain ⟨vA, wA, a1, a2⟩ := eL45 h hc hk
          exact go _ _ _ _ _ (hb_ca45 xs i) ⟨vA, wA, a1, fun x hx hX => by
            obtain ⟨vB, wB, b1, b2⟩ := a2 x hx hX
            exact ⟨vB, wB, b1, fun y hy hY hxy => b2 y hy hY⟩⟩
        · obtain ⟨vA, wA, a1, a2⟩ := eL46 h hc hk
          exact go _ _ _ _ _ (hb_ca46 xs i) ⟨vA, wA, a1, fun x hx hX => by
            obtain ⟨vB, wB, b1, b2⟩ := a2 x hx hX
            exact ⟨vB, wB, b1, fun y hy hY hxy => b2 y hy hY⟩⟩
        · obtain ⟨vA, wA, a1, a2⟩ := eL47 h hc hk
          exact go _ _ _ _ _ (hb_ca47 xs i) ⟨vA, wA, a1, fun x hx hX => by
            obtain ⟨vB, wB, b1, b2⟩ := a2 x hx hX
            exact ⟨vB, wB, b1, fun y hy hY hxy => b2 y hy hY⟩⟩
        · obtain ⟨vA, wA, a1, a2⟩ := eL48 h hc hk
          exact go _ _ _ _ _ (hb_ca48 xs i) ⟨vA, wA, a1, fun x hx hX => by
            obtain ⟨vB, wB, b1, b2⟩ := a2 x hx hX
            exact ⟨vB, wB, b1, fun y hy hY hxy => b2 y hy hY⟩⟩
        · obtain ⟨vA, wA, a1, a2⟩ := eL49 h hc hk
          exact go _ _ _ _ _ (hb_ca49 xs i) ⟨vA, wA, a1, fun x hx hX => by
            obtain ⟨vB, wB, b1, b2⟩ := a2 x hx hX
            exact ⟨vB, wB, b1, fun y hy hY hxy => b2 y hy hY⟩⟩
        · obtain ⟨vA, wA, a1, a2⟩ := eL50 h hc hk
          exact go _ _ _ _ _ (hb_ca50 xs i) ⟨vA, wA, a1, fun x hx hX => by
            obtain ⟨vB, wB, b1, b2⟩ := a2 x hx hX
            exact ⟨vB, wB, b1, fun y hy hY hxy => b2 y hy hY⟩⟩
        · obtain ⟨vA, wA, a1, a2⟩ := eL51 h hc hk
          exact go _ _ _ _ _ (hb_ca51 xs i) ⟨vA, wA, a1, fun x hx hX => by
            obtain ⟨vB, wB, b1, b2⟩ := a2 x hx hX
            exact ⟨vB, wB, b1, fun y hy hY hxy => b2 y hy hY⟩⟩
    · obtain ⟨_, hr, _⟩ := eL_ret h (by omega)
      rw [hr]
      rfl

end
