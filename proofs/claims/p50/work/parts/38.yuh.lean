noncomputable section
theorem ea_act2 {xs : List Int32} {n : Nat} {w wA wB : px_W} {vA vB : Option Value} {x1 x2 x3 : Int} (hR : ea_RR w) (r1 : -2147483648 ≤ x1 ∧ x1 ≤ 2147483647) (r2 : -2147483648 ≤ x2 ∧ x2 ≤ 2147483647) (hA : ec_F (hb_XL xs) n 168 [.inr (.inl 64), .inl x1, .inl x2, .inl x3] w (vA, wA)) (hB : ec_F (hb_XL xs) n 289 [.inr (.inl 215), .inl x1, .inl x2, .inl x3] wA (vB, wB)) : vA = vB ∧ ea_RR wB := ⟨(ea_actX hR r1 r2 hA hB).1, (ea_actX hR r1 r2 hA hB).2.1⟩
/-! TRACE on both sides -/
def ep_RR (w : px_W) : Prop := ea_RR w ∧ ea_Tr w
def ep_dcT : List (Nat × Nat × Nat) := [(149, 0, 1), (150, 0, 30), (151, 47, 48), (178, 0, 30)]
def ep_dc : List (Nat × Nat × Nat) := ea_dc ++ ep_dcT
theorem ep_Tr_st {w w' : px_W} (hW : ec_W hb_A w) (hW' : ec_W hb_A w') (h : ∀ p ∈ ep_dcT, ∀ i, p.2.1 ≤ i → i < p.2.2 → sy_get w' p.1 i = sy_get w p.1 i) (hR : ea_Tr w) : ea_Tr w' := by
  obtain ⟨t, ht, ⟨a1, a2⟩, b1, b2⟩ := hR
  refine ⟨t, ht, ⟨?_, fun i hi => ?_⟩, ?_, fun i hi => ?_⟩
  · rw [ef_get_f (k := 149) hW hW' rfl (h (149, 0, 1) (by decide) 0 (by decide) (by decide))]
    exact a1
  · rw [ef_get_a (k := 150) hW hW' rfl (h (150, 0, 30) (by decide) i (Nat.zero_le _) (by show i < 30; omega))]
    exact a2 i hi
  · rw [ef_get_f (k := 151) hW hW' rfl (h (151, 47, 48) (by decide) 47 (by decide) (by decide))]
    exact b1
  · rw [ef_get_a (k := 178) hW hW' rfl (h (178, 0, 30) (by decide) i (Nat.zero_le _) (by show i < 30; omega))]
    exact b2 i hi
theorem ep_frT {Wr : sy_Wr} {w w1 : px_W} (hd : hb_dj Wr ep_dcT = true) (hW : ec_W hb_A w) (hW1 : ec_W hb_A w1) (f : ∀ k i : Nat, sy_may Wr k i = false → sy_get w1 k i = sy_get w k i) (hR : ea_Tr w) : ea_Tr w1 := ep_Tr_st hW hW1 (fun p hp i h1 h2 => f p.1 i (hb_dj_ok hd hp h1 h2)) hR
theorem ep_dc_st {w w' : px_W} (hW : ec_W hb_A w) (hW' : ec_W hb_A w') (h : ∀ p ∈ ep_dc, ∀ i, p.2.1 ≤ i → i < p.2.2 → sy_get w' p.1 i = sy_get w p.1 i) (hR : ep_RR w) : ep_RR w' := ⟨ea_dc_st hW hW' (fun p hp => h p (List.mem_append_left _ hp)) hR.1, ep_Tr_st hW hW' (fun p hp => h p (List.mem_append_right _ hp)) hR.2⟩
theorem ep_trA {n : Nat} {w w1 : px_W} {v : Option Value} {x1 : Int} {t : List Int} (r1 : -2147483648 ≤ x1 ∧ x1 ≤ 2147483647) (ht : t.length ≤ 30) (hT : ea_tA w t) (h : ec_E hb_X n 169 0 [(0, .inr (.inl 64)), (1, .inl x1)] [] w (v, w1)) : w1 = w ∧ v = ec_R (if 0 ≤ x1 ∧ x1 ≤ (t.length : Int) - 1 then t.getD x1.toNat 0 else -3) := by
  have t0 : ec_tw 0 = 0 := rfl
  have tx : ec_tw x1 = x1 := ec_tw_id r1.1 r1.2
  have tk : ec_tw ((t.length : Int) - 1) = (t.length : Int) - 1 := ec_tw_id (by omega) (by omega)
  obtain ⟨_, u, y, a1, a2⟩ := eg169_0_0_0 h
  obtain ⟨e, W⟩ := ew_within a1
  rw [hT.1, t0, tx, tk] at e
  injection e with e iy
  rw [iy] at a2
  have b := a2 _ e W
  by_cases p : 0 ≤ x1 ∧ x1 ≤ (t.length : Int) - 1
  · rw [if_pos p] at b
    rw [if_pos p]
    obtain ⟨_, hr, _⟩ := eg169_0_14_1 b (by decide)
    injection hr with f1 f2
    refine ⟨f2, ?_⟩
    rw [f1, tx]
    have ex : x1 = ((x1.toNat : Nat) : Int) := by omega
    have q : ec_rd w 150 ((x1.toNat : Nat) : Int) = t.getD x1.toNat 0 := hT.2 x1.toNat (by omega)
    rw [← ex] at q
    rw [q]
  · rw [if_neg p] at b
    rw [if_neg p]
    obtain ⟨_, hr, _⟩ := eg169_0_14_0 b rfl
    injection hr with f1 f2
    exact ⟨f2, f1⟩
theorem ep_trB {n : Nat} {w w1 : px_W} {v : Option Value} {x1 : Int} {t : List Int} (r1 : -2147483648 ≤ x1 ∧ x1 ≤ 2147483647) (ht : t.length ≤ 30) (hT : ea_tB w t) (h : ec_E hb_X n 290 0 [(0, .inr (.inl 215)), (1, .inl x1)] [] w (v, w1)) : w1 = w ∧ v = ec_R (if 0 ≤ x1 ∧ x1 ≤ (t.length : Int) - 1 then t.getD x1.toNat 0 else -3) := by
  have t0 : ec_tw 0 = 0 := rfl
  have tx : ec_tw x1 = x1 := ec_tw_id r1.1 r1.2
  have tk : ec_tw ((t.length : Int) - 1) = (t.length : Int) - 1 := ec_tw_id (by omega) (by omega)
  obtain ⟨_, u, y, a1, a2⟩ := eg290_151_0_0 h
  obtain ⟨e, W⟩ := ew_in a1
  rw [hT.1, t0, tx, tk] at e
  injection e with e iy
  rw [iy] at a2
  have b := a2 _ e W
  by_cases p : 0 ≤ x1 ∧ x1 ≤ (t.length : Int) - 1
  · rw [if_pos p] at b
    rw [if_pos p]
    obtain ⟨_, hr, _⟩ := eg290_151_11_1 b (by decide)
    injection hr with f1 f2
    refine ⟨f2, ?_⟩
    rw [f1, tx]
    have ex : x1 = ((x1.toNat : Nat) : Int) := by omega
    have q : ec_rd w 178 ((x1.toNat : Nat) : Int) = t.getD x1.toNat 0 := hT.2 x1.toNat (by omega)
    rw [← ex] at q
    rw [q]
  · rw [if_neg p] at b
    rw [if_neg p]
    obtain ⟨_, hr, _⟩ := eg290_151_11_0 b rfl
    injection hr with f1 f2
    exact ⟨f2, f1⟩
theorem ep_trace2 {xs : List Int32} {n : Nat} {w wA wB : px_W} {vA vB : Option Value} {x1 : Int} (hR : ep_RR w) (r1 : -2147483648 ≤ x1 ∧ x1 ≤ 2147483647) (hA : ec_F (hb_XL xs) n 169 [.inr (.inl 64), .inl x1] w (vA, wA)) (hB : ec_F (hb_XL xs) n 290 [.inr (.inl 215), .inl x1] wA (vB, wB)) : vA = vB ∧ ep_RR wB := by
  obtain ⟨t, ht, ta, tb⟩ := hR.2
  obtain ⟨eA, fA⟩ := ep_trA r1 ht ta (hb_FE hA)
  rw [eA] at hB
  obtain ⟨eB, fB⟩ := ep_trB r1 ht tb (hb_FE hB)
  rw [eB]
  exact ⟨fA.trans fB.symm, hR⟩

end
