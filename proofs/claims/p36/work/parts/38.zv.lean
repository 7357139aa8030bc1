noncomputable section
/-! RULES: the law's relation for read -/
def ev_RR (w : px_W) : Prop := ej_RR ev_P6 w ∧ er_TP w ∧ er_Le w
def ev_dc : List (Nat × Nat × Nat) := ej_dc ev_FL6 ev_RL6 ev_DL6 ++ ev_td
theorem ev_dc_st {w w' : px_W} (hW : ec_W hb_A w) (hW' : ec_W hb_A w') (h : ∀ p ∈ ev_dc, ∀ i, p.2.1 ≤ i → i < p.2.2 → sy_get w' p.1 i = sy_get w p.1 i) (hR : ev_RR w) : ev_RR w' := ⟨ej_dc_st (by decide +kernel) ev_dep6 hW hW' (fun p hp => h p (List.mem_append_left _ hp)) hR.1, ev_td_st hW hW' (fun p hp => h p (List.mem_append_right _ hp)) hR.2.1 hR.2.2⟩
theorem ev_keep2 {xs : List Int32} {n : Nat} {w wA wB : px_W} {vA vB : Option Value} (hR : ev_RR w) (hA : ec_F (hb_XL xs) n 171 [.inr (.inl 64)] w (vA, wA)) (hB : ec_F (hb_XL xs) n 292 [.inr (.inl 215)] wA (vB, wB)) : ev_RR wB := ⟨ej_keep2 (by decide +kernel) (by decide +kernel) ev_dep6 hR.1 hA hB, ev_keepT hR.2.1 hR.2.2 hA hB⟩
theorem ev_again2 {xs : List Int32} {n : Nat} {w wA wB : px_W} {vA vB : Option Value} (hR : ev_RR w) (hA : ec_F (hb_XL xs) n 172 [.inr (.inl 64)] w (vA, wA)) (hB : ec_F (hb_XL xs) n 293 [.inr (.inl 215)] wA (vB, wB)) : ev_RR wB := ⟨ej_again2 (by decide +kernel) (by decide +kernel) ev_dep6 hR.1 hA hB, ev_againT hR.2.1 hR.2.2 hA hB⟩
theorem ev_feed2 {xs : List Int32} {n : Nat} {x1 : Int64} {x3 : Int} {w wA wB : px_W} {vA vB : Option Value} (hR : ev_RR w) (hA : ec_F (hb_XL xs) n 154 [.inr (.inl 64), .inr (.inr x1), .inl x3] w (vA, wA)) (hB : ec_F (hb_XL xs) n 247 [.inr (.inl 215), .inr (.inr x1), .inl x3] wA (vB, wB)) : ev_RR wB := by
  obtain ⟨T, s, g⟩ := ew_feed hR.2.1 hA hB
  refine ⟨ej_RR_of ev_dep6 (ef_s_f s (by decide) 14) (g 2 (by decide)) (fun q hq => ?_) (fun q hq => absurd hq List.not_mem_nil) (fun q hq p _ _ => ⟨congrFun (ef_s_a s (by decide)) p, congrFun (ef_s_a s (by decide)) p⟩) hR.1, T, fun x hx => ?_⟩
  · have e := List.mem_singleton.mp hq
    rw [e]
    exact ⟨ef_s_f s (by decide) 0, ef_s_f s (by decide) 0⟩
  · rw [ef_s_a s (by decide)]
    exact hR.2.2 x hx
theorem ev_read2 {xs : List Int32} {n : Nat} {w wA wB : px_W} {vA vB : Option Value} (hI : hb_I0 w) (hR : ev_RR w) (hA : ec_F (hb_XL xs) n 155 [.inr (.inl 64)] w (vA, wA)) (hB : ec_F (hb_XL xs) n 261 [.inr (.inl 215)] wA (vB, wB)) : vA = vB ∧ ev_RR wB := by
  obtain ⟨c, hc6, h44, h10⟩ := hR.1.1
  obtain ⟨ev, T, L, k, sB, f4, o⟩ := ew_read hI hc6 h44 h10 hR.2.1 hR.2.2 hA hB
  have s1 := k.1
  have k1 : ec_fd wB 0 14 = ec_fd w 0 14 := (ef_s_f sB (by decide) 14).trans (ef_s_f s1 (by decide) 14)
  have k2 : ec_fd wB 151 2 = ec_fd w 151 2 := f4 2 (by decide)
  refine ⟨ev, ⟨?_, ?_⟩, T, L⟩
  · rcases o with ⟨o1, o2⟩ | ⟨o1, o2, _, N, t, _, _, o4, _⟩
    · exact ⟨c, hc6, o1, (congrFun o2 10).trans h10⟩
    · exact ⟨c + 1, by omega, o2, (o4 10).trans (if_pos rfl)⟩
  · rcases hR.1.2 with ⟨g1, g2⟩ | ⟨g1, g2, g3⟩
    · exact .inl ⟨k1.trans g1, k2.trans g2⟩
    · refine .inr ⟨k1.trans g1, k2.trans g2, ej_P_of ev_dep6 (fun q hq => ?_) (fun q hq => absurd hq List.not_mem_nil) (fun q hq p _ _ => ?_) g3⟩
      · have e := List.mem_singleton.mp hq
        rw [e]
        exact (ef_s_f sB (by decide) 0).trans (ef_s_f s1 (by decide) 0)
      · rw [ef_s_a sB (by decide), ef_s_a s1 (by decide)]

end
