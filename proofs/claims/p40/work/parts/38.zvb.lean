noncomputable section
/-! RULES: every VERSION is the same on both sides, live and kept -/
theorem er_rd_len {C V : Nat → Int} {H : Bool} {M : Nat → Int} : ∀ (f j : Nat) (ls : List er_L) (ss : List Int) (a : Nat) (q : List er_L × List Int), er_rd C V H M f j ls ss = (a, some q) → q.1.length ≤ f + ls.length
  | 0, j, ls, ss, a, q, h => by
    have erd : er_rd C V H M 0 j ls ss = if C j = 300 then (j, some (ls, ss)) else (j, none) := rfl
    rw [erd] at h
    split at h
    · cases h
      exact Nat.le_of_eq (Nat.zero_add _).symm
    · cases h
  | f + 1, j, ls, ss, a, q, h => by
    have erd : er_rd C V H M (f + 1) j ls ss = if C j = 300 then (j, some (ls, ss)) else (match er_li C V H M ss.length j with
      | (a, none) => (a, none)
      | (a, some q) => er_rd C V H M f a (ls ++ [q]) (ss ++ q.2.2.2.1)) := rfl
    rw [erd] at h
    split at h
    · cases h
      show ls.length ≤ f + 1 + ls.length
      omega
    · cases e : er_li C V H M ss.length j with
      | mk b s =>
        rw [e] at h
        cases s with
        | none => cases h
        | some s =>
          have ih := er_rd_len f b (ls ++ [s]) (ss ++ s.2.2.2.1) a q h
          have ll : (ls ++ [s]).length = ls.length + 1 := by
            rw [List.length_append]
            rfl
          omega
def er_KLp (R : Nat → Nat → Int) (c : Nat) (ls : List er_L) : Prop := R 46 c = (ls.length : Int) ∧ ∀ i, i < ls.length → R 47 (c * 8 + i) = (ls.map (fun q => q.1)).getD i 0 ∧ R 48 (c * 8 + i) = (ls.map er_o1).getD i 0 ∧ R 49 (c * 8 + i) = (ls.map er_o2).getD i 0
def er_Csp (R : Nat → Nat → Int) (c : Nat) (L : List Int) : Prop := R 51 c = ((min 64 L.length : Nat) : Int) ∧ ∀ i, i < min 64 L.length → R 50 (c * 64 + i) = L.getD i 0
/-- VERSION v: the class's lines and steps are what the reference's bytes say -/
def er_VS (R : Nat → Nat → Int) (D : Nat → Int) (v : Nat) : Prop := ∃ (N : Nat) (t : Nat → Int), N ≤ 200 ∧ D (374 + v) = (N : Int) ∧ (∀ y, y < N → D (380 + 200 * v + y) = t y ∧ 0 ≤ t y ∧ t y ≤ 255) ∧ ∀ (H : Bool) (M : Nat → Int), ∃ (a : Nat) (q : List er_L × List Int), er_rd (fun j => er_co t N (er_p t N j)) (fun j => er_va t N (er_p t N j)) H M 8 0 [] [] = (a, some q) ∧ er_KLp R v q.1 ∧ er_Csp R v q.2
theorem er_VS_of {R R' : Nat → Nat → Int} {D D' : Nat → Int} {v : Nat} (r46 : R' 46 v = R 46 v) (r51 : R' 51 v = R 51 v) (r47 : ∀ i, i < 8 → R' 47 (v * 8 + i) = R 47 (v * 8 + i) ∧ R' 48 (v * 8 + i) = R 48 (v * 8 + i) ∧ R' 49 (v * 8 + i) = R 49 (v * 8 + i)) (r50 : ∀ i, i < 64 → R' 50 (v * 64 + i) = R 50 (v * 64 + i)) (d1 : D' (374 + v) = D (374 + v)) (d2 : ∀ y, y < 200 → D' (380 + 200 * v + y) = D (380 + 200 * v + y)) (h : er_VS R D v) : er_VS R' D' v := by
  obtain ⟨N, t, hN, h1, h2, h3⟩ := h
  refine ⟨N, t, hN, d1.trans h1, fun y hy => ?_, fun H M => ?_⟩
  · rw [d2 y (by omega)]
    exact h2 y hy
  · obtain ⟨a, q, e, k1, k2⟩ := h3 H M
    have hl := er_rd_len 8 0 [] [] a q e
    have hl8 : q.1.length ≤ 8 := hl
    refine ⟨a, q, e, ⟨r46.trans k1.1, fun i hi => ?_⟩, r51.trans k2.1, fun i hi => ?_⟩
    · obtain ⟨g1, g2, g3⟩ := r47 i (by omega)
      rw [g1, g2, g3]
      exact k1.2 i hi
    · rw [r50 i (by omega)]
      exact k2.2 i hi
def ev_P7 : ej_T := fun F R D => ∃ c : Nat, c ≤ 6 ∧ F 44 0 = (c : Int) ∧ D 10 = (c : Int) ∧ ∀ v, v < c → R 45 v = D (368 + v) ∧ er_VS R D v
def ev_FL7 : List (Nat × Nat) := [(44, 0)]
def ev_RL7 : List (Nat × Nat) := [(45, 7), (46, 7), (47, 56), (48, 56), (49, 56), (50, 448), (51, 7)]
def ev_DL7 : List (Nat × Nat) := [(10, 11), (368, 1580)]
theorem ev_dep7 : ej_dep ev_FL7 ev_RL7 ev_DL7 ev_P7 := by
  intro F F' R R' D D' hF hR hD h
  obtain ⟨c, h6, h1, h2, h3⟩ := h
  have f0 : F' 44 0 = F 44 0 := hF (44, 0) List.mem_cons_self
  have d10 : D' 10 = D 10 := hD (10, 11) List.mem_cons_self 10 (by decide) (by decide)
  have d368 : ∀ p, 368 ≤ p → p < 1580 → D' p = D p := hD (368, 1580) (List.mem_cons_of_mem _ List.mem_cons_self)
  have r45 : ∀ p, p < 7 → R' 45 p = R 45 p := hR (45, 7) (by decide)
  have r46 : ∀ p, p < 7 → R' 46 p = R 46 p := hR (46, 7) (by decide)
  have r47 : ∀ p, p < 56 → R' 47 p = R 47 p := hR (47, 56) (by decide)
  have r48 : ∀ p, p < 56 → R' 48 p = R 48 p := hR (48, 56) (by decide)
  have r49 : ∀ p, p < 56 → R' 49 p = R 49 p := hR (49, 56) (by decide)
  have r50 : ∀ p, p < 448 → R' 50 p = R 50 p := hR (50, 448) (by decide)
  have r51 : ∀ p, p < 7 → R' 51 p = R 51 p := hR (51, 7) (by decide)
  refine ⟨c, h6, f0.trans h1, d10.trans h2, fun v hv => ⟨?_, er_VS_of (r46 v (by omega)) (r51 v (by omega)) (fun i hi => ⟨r47 _ (by omega), r48 _ (by omega), r49 _ (by omega)⟩) (fun i hi => r50 _ (by omega)) (d368 _ (by omega) (by omega)) (fun y hy => d368 _ (by omega) (by omega)) (h3 v hv).2⟩⟩
  rw [r45 v (by omega), d368 (368 + v) (by omega) (by omega)]
  exact (h3 v hv).1
def ev_R7 (w : px_W) : Prop := ej_RR ev_P7 w ∧ er_TP w ∧ er_Le w
def ev_dc7 : List (Nat × Nat × Nat) := ej_dc ev_FL7 ev_RL7 ev_DL7 ++ ev_td
theorem ev_dc7_st {w w' : px_W} (hW : ec_W hb_A w) (hW' : ec_W hb_A w') (h : ∀ p ∈ ev_dc7, ∀ i, p.2.1 ≤ i → i < p.2.2 → sy_get w' p.1 i = sy_get w p.1 i) (hR : ev_R7 w) : ev_R7 w' := ⟨ej_dc_st (by decide +kernel) ev_dep7 hW hW' (fun p hp => h p (List.mem_append_left _ hp)) hR.1, ev_td_st hW hW' (fun p hp => h p (List.mem_append_right _ hp)) hR.2.1 hR.2.2⟩
theorem ev_keep7 {xs : List Int32} {n : Nat} {w wA wB : px_W} {vA vB : Option Value} (hR : ev_R7 w) (hA : ec_F (hb_XL xs) n 171 [.inr (.inl 64)] w (vA, wA)) (hB : ec_F (hb_XL xs) n 292 [.inr (.inl 215)] wA (vB, wB)) : ev_R7 wB := ⟨ej_keep2 (by decide +kernel) (by decide +kernel) ev_dep7 hR.1 hA hB, ev_keepT hR.2.1 hR.2.2 hA hB⟩
theorem ev_again7 {xs : List Int32} {n : Nat} {w wA wB : px_W} {vA vB : Option Value} (hR : ev_R7 w) (hA : ec_F (hb_XL xs) n 172 [.inr (.inl 64)] w (vA, wA)) (hB : ec_F (hb_XL xs) n 293 [.inr (.inl 215)] wA (vB, wB)) : ev_R7 wB := ⟨ej_again2 (by decide +kernel) (by decide +kernel) ev_dep7 hR.1 hA hB, ev_againT hR.2.1 hR.2.2 hA hB⟩
/-- cells that no VERSION reads -/
theorem ev_R7_s {S : List Nat} {w w' : px_W} (s : ef_s S w w') (hS : ∀ k ∈ S, k = 137 ∨ k = 138 ∨ k = 151 ∨ k = 154 ∨ k = 169 ∨ k = 170 ∨ k = 171) (f2 : ec_fd w' 151 2 = ec_fd w 151 2) (h : ej_RR ev_P7 w) : ej_RR ev_P7 w' := by
  have no : ∀ k, k < 137 → k ∉ S := fun k hk e => by
    have := hS k e
    omega
  refine ej_RR_of ev_dep7 (ef_s_f s (no 0 (by decide)) 14) f2 (fun q hq => ?_) (fun q hq p hp => ?_) (fun q hq p _ _ => ⟨congrFun (ef_s_a s (fun e => by have := hS 152 e; omega)) p, congrFun (ef_s_a s (fun e => by have := hS 153 e; omega)) p⟩) h
  · have e := List.mem_singleton.mp hq
    rw [e]
    exact ⟨ef_s_f s (no 44 (by decide)) 0, ef_s_f s (no 102 (by decide)) 0⟩
  · have b : q.1 < 52 := (by decide : ∀ q ∈ ev_RL7, q.1 < 52) q hq
    exact ⟨congrFun (ef_s_a s (no _ (by omega))) p, congrFun (ef_s_a s (no _ (by omega))) p⟩
theorem ev_feed7 {xs : List Int32} {n : Nat} {x1 : Int64} {x3 : Int} {w wA wB : px_W} {vA vB : Option Value} (hR : ev_R7 w) (hA : ec_F (hb_XL xs) n 154 [.inr (.inl 64), .inr (.inr x1), .inl x3] w (vA, wA)) (hB : ec_F (hb_XL xs) n 247 [.inr (.inl 215), .inr (.inr x1), .inl x3] wA (vB, wB)) : ev_R7 wB := by
  obtain ⟨T, s, g⟩ := ew_feed hR.2.1 hA hB
  refine ⟨ev_R7_s s (fun k hk => ?_) (g 2 (by decide)) hR.1, T, fun x hx => ?_⟩
  · simp only [List.mem_cons, List.not_mem_nil, or_false] at hk
    omega
  · rw [ef_s_a s (by decide)]
    exact hR.2.2 x hx
theorem ev_read7 {xs : List Int32} {n : Nat} {w wA wB : px_W} {vA vB : Option Value} (hI : hb_I0 w) (hn : ef_a w 152 0 = ec_fd w 1 0) (hR : ev_R7 w) (hA : ec_F (hb_XL xs) n 155 [.inr (.inl 64)] w (vA, wA)) (hB : ec_F (hb_XL xs) n 261 [.inr (.inl 215)] wA (vB, wB)) : vA = vB ∧ ev_R7 wB := by
  obtain ⟨c, hc6, h44, h10, hv⟩ := hR.1.1
  obtain ⟨ev, T, L, k, sB, f4, o⟩ := ew_read hI hc6 h44 h10 hR.2.1 hR.2.2 hA hB
  have s1 := k.1
  have k1 : ec_fd wB 0 14 = ec_fd w 0 14 := (ef_s_f sB (by decide) 14).trans (ef_s_f s1 (by decide) 14)
  have k2 : ec_fd wB 151 2 = ec_fd w 151 2 := f4 2 (by decide)
  have b45 : ef_a wB 45 = ef_a wA 45 := ef_s_a sB (by decide)
  have b46 : ef_a wB 46 = ef_a wA 46 := ef_s_a sB (by decide)
  have b47 : ef_a wB 47 = ef_a wA 47 := ef_s_a sB (by decide)
  have b48 : ef_a wB 48 = ef_a wA 48 := ef_s_a sB (by decide)
  have b49 : ef_a wB 49 = ef_a wA 49 := ef_s_a sB (by decide)
  have b50 : ef_a wB 50 = ef_a wA 50 := ef_s_a sB (by decide)
  have b51 : ef_a wB 51 = ef_a wA 51 := ef_s_a sB (by decide)
  -- the VERSIONS that stood there
  have old : ∀ v, v < c → ef_a wB 152 (368 + v) = ef_a w 152 (368 + v) → ef_a wB 152 (374 + v) = ef_a w 152 (374 + v) → (∀ y, y < 200 → ef_a wB 152 (380 + 200 * v + y) = ef_a w 152 (380 + 200 * v + y)) → ef_a wB 45 v = ef_a wB 152 (368 + v) ∧ er_VS (fun k p => ef_a wB (k + 0) p) (fun p => ef_a wB 152 p) v := by
    intro v hvc e1 e2 e3
    obtain ⟨g45, g51, g46⟩ := k.2.1 v (by omega)
    have q45 : ef_a w 45 v = ef_a w 152 (368 + v) := (hv v hvc).1
    refine ⟨?_, er_VS_of (R := fun k p => ef_a w (k + 0) p) (D := fun p => ef_a w 152 p) ?_ ?_ (fun i hi => ?_) (fun i hi => ?_) e2 e3 (hv v hvc).2⟩
    · rw [b45, g45, e1]
      exact q45
    · show ef_a wB 46 v = ef_a w 46 v
      rw [b46]
      exact g46
    · show ef_a wB 51 v = ef_a w 51 v
      rw [b51]
      exact g51
    · show ef_a wB 47 (v * 8 + i) = ef_a w 47 (v * 8 + i) ∧ ef_a wB 48 (v * 8 + i) = ef_a w 48 (v * 8 + i) ∧ ef_a wB 49 (v * 8 + i) = ef_a w 49 (v * 8 + i)
      rw [b47, b48, b49]
      exact k.2.2.2 (v * 8 + i) (.inl (by omega))
    · show ef_a wB 50 (v * 64 + i) = ef_a w 50 (v * 64 + i)
      rw [b50]
      exact k.2.2.1 (v * 64 + i) (.inl (by omega))
  refine ⟨ev, ⟨?_, ?_⟩, T, L⟩
  · rcases o with ⟨o1, o2⟩ | ⟨o1, o2, o3, N, t, hN, hb, o4, o5⟩
    · exact ⟨c, hc6, o1, (congrFun o2 10).trans h10, fun v hvc => old v hvc (congrFun o2 _) (congrFun o2 _) (fun y _ => congrFun o2 _)⟩
    · refine ⟨c + 1, by omega, o2, (o4 10).trans (if_pos rfl), fun v hvc => ?_⟩
      by_cases e : v = c
      · rw [e]
        refine ⟨?_, N, t, hN, ?_, fun y hy => ⟨?_, hb y hy⟩, fun H M => ?_⟩
        · show ef_a wB 45 c = ef_a wB 152 (368 + c)
          rw [o3, o4 (368 + c), if_neg (by omega), if_neg (by omega), if_neg (by omega), if_pos rfl]
          exact hn.symm
        · show ef_a wB 152 (374 + c) = (N : Int)
          rw [o4 (374 + c), if_neg (by omega), if_neg (by omega), if_pos rfl]
        · show ef_a wB 152 (380 + 200 * c + y) = t y
          rw [o4 (380 + 200 * c + y), if_neg (by omega), if_pos (by omega)]
          congr 1
          omega
        · exact o5 H M
      · refine old v (by omega) ?_ ?_ (fun y hy => ?_)
        · rw [o4 (368 + v), if_neg (by omega), if_neg (by omega), if_neg (by omega), if_neg (by omega)]
        · rw [o4 (374 + v), if_neg (by omega), if_neg (by omega), if_neg (by omega), if_neg (by omega)]
        · rw [o4 (380 + 200 * v + y), if_neg (by omega), if_neg (by omega), if_neg (by omega), if_neg (by omega)]
  · rcases hR.1.2 with ⟨g1, g2⟩ | ⟨g1, g2, g3⟩
    · exact .inl ⟨k1.trans g1, k2.trans g2⟩
    · refine .inr ⟨k1.trans g1, k2.trans g2, ej_P_of ev_dep7 (fun q hq => ?_) (fun q hq p _ => ?_) (fun q hq p _ _ => ?_) g3⟩
      · have e := List.mem_singleton.mp hq
        rw [e]
        exact (ef_s_f sB (by decide) 0).trans (ef_s_f s1 (by decide) 0)
      · have b1 : q.1 + 58 ∉ [151, 152, 170, 171] := (by decide : ∀ q ∈ ev_RL7, q.1 + 58 ∉ [151, 152, 170, 171]) q hq
        have b2 : q.1 + 58 ∉ [137, 139, 140, 141, 44, 45, 46, 47, 48, 49, 50, 51] := (by decide : ∀ q ∈ ev_RL7, q.1 + 58 ∉ [137, 139, 140, 141, 44, 45, 46, 47, 48, 49, 50, 51]) q hq
        rw [ef_s_a sB b1, ef_s_a s1 b2]
      · rw [ef_s_a sB (by decide), ef_s_a s1 (by decide)]
/-- behind the reference's reading of a VERSION -/
theorem ev_R7_f {w w' : px_W} (s : ef_s [151, 169, 170, 171] w w') (f : ∀ g, g < 24 → ec_fd w' 151 g = ec_fd w 151 g) (h : ev_R7 w) : ev_R7 w' := by
  refine ⟨ev_R7_s s (fun k hk => ?_) (f 2 (by decide)) h.1, ev_td_s s (by decide) (by decide) (by decide) (by decide) (f 4 (by decide)) h.2.1 h.2.2⟩
  simp only [List.mem_cons, List.not_mem_nil, or_false] at hk
  omega
theorem eh_RR_f {w w' : px_W} (s : ef_s [151, 169, 170, 171] w w') (f : ∀ g, g < 24 → ec_fd w' 151 g = ec_fd w 151 g) (h : eh_RR w) : eh_RR w' := by
  refine ⟨eh_hu_s s (fun k hk e => ?_) (by decide) h.1, eh_wd_st (ef_s_f s (by decide) 8) (ef_s_f s (by decide) 9) (fun p _ => congrFun (ef_s_a s (by decide)) p) h.2.1, eh_kp_s s (by decide) (f 2 (by decide)) h.2.2⟩
  simp only [List.mem_cons, List.not_mem_nil, or_false] at e
  omega
/-- the reference reads VERSION v anew -/
theorem ew_rv {n v : Nat} {w w1 : px_W} {u : Option Value} {x1 x2 : Int} {N : Nat} {t : Nat → Int} {H : Bool} {a : Nat} {q : List er_L × List Int} (hN : N ≤ 200) (hv : v < 6) (ht : ∀ y, y < N → ef_a w 152 (380 + 200 * v + y) = t y ∧ 0 ≤ t y ∧ t y ≤ 255) (hL : er_Le w) (hH : ec_fd w 151 32 = (if H = true then 1 else 0)) (e1 : x1 = ((380 + 200 * v : Nat) : Int)) (e2 : x2 = (N : Int)) (e : er_rd (fun j => er_co t N (er_p t N j)) (fun j => er_va t N (er_p t N j)) H (ef_a w 169) 8 0 [] [] = (a, some q)) (h : ec_E hb_X n 260 0 [(0, .inr (.inl 215)), (1, .inl x1), (2, .inl x2)] [] w (u, w1)) : u = none ∧ ec_W hb_A w1 ∧ ef_s [151, 169, 170, 171] w w1 ∧ (∀ g, g < 24 → ec_fd w1 151 g = ec_fd w 151 g) ∧ er_RS w1 q.1 := by
  rw [e2] at h
  obtain ⟨r1, r2, r3, r4⟩ := ew_reads (H := H) (M := ef_a w 169) (C := fun j => er_co t N (er_p t N j)) (V := fun j => er_va t N (er_p t N j)) hN (fun i hi => (ht i hi).2) (fun _ => rfl) (fun _ => rfl) hL (.inr ⟨380 + 200 * v, e1, by omega, fun y hy => (ht y hy).1⟩) hH (fun _ _ => rfl) h
  rw [e] at r4
  exact ⟨r1, r2, ef_s_mono r3.1 (by decide), fun g hg => r3.2 g (.inl hg), r4.2⟩
def ek_RR (w : px_W) : Prop := eh_RR w ∧ ev_R7 w
def ek_dc : List (Nat × Nat × Nat) := eh_dc ++ ev_dc7
theorem ek_dc_st {w w' : px_W} (hW : ec_W hb_A w) (hW' : ec_W hb_A w') (h : ∀ p ∈ ek_dc, ∀ i, p.2.1 ≤ i → i < p.2.2 → sy_get w' p.1 i = sy_get w p.1 i) (hR : ek_RR w) : ek_RR w' := ⟨eh_dc_st hW hW' (fun p hp => h p (List.mem_append_left _ hp)) hR.1, ev_dc7_st hW hW' (fun p hp => h p (List.mem_append_right _ hp)) hR.2⟩
theorem ek_frH {Wr : sy_Wr} {w w1 : px_W} (hd : hb_dj Wr eh_dc = true) (hW : ec_W hb_A w) (hW1 : ec_W hb_A w1) (f : ∀ k i : Nat, sy_may Wr k i = false → sy_get w1 k i = sy_get w k i) (hR : eh_RR w) : eh_RR w1 := eh_dc_st hW hW1 (fun p hp i h1 h2 => f p.1 i (hb_dj_ok hd hp h1 h2)) hR
theorem ek_frR {Wr : sy_Wr} {w w1 : px_W} (hd : hb_dj Wr ev_dc7 = true) (hW : ec_W hb_A w) (hW1 : ec_W hb_A w1) (f : ∀ k i : Nat, sy_may Wr k i = false → sy_get w1 k i = sy_get w k i) (hR : ev_R7 w) : ev_R7 w1 := ev_dc7_st hW hW1 (fun p hp i h1 h2 => f p.1 i (hb_dj_ok hd hp h1 h2)) hR
theorem ek_f {w w' : px_W} (s : ef_s [151, 169, 170, 171] w w') (f : ∀ g, g < 24 → ec_fd w' 151 g = ec_fd w 151 g) (h : ek_RR w) : ek_RR w' := ⟨eh_RR_f s f h.1, ev_R7_f s f h.2⟩

end
