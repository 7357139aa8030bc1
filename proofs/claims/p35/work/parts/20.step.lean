noncomputable section
/-! STEPS OF SYMBOLIC STATES -/
def sy_at (S : sy_S) (g : sy_G) (pc : Nat) (lv : List (Nat × sy_A)) (st : List sy_A) : sy_S := (g, (S.2.1.1, pc, lv, st), S.2.2)
section STEP
variable {x : sy_X} {q : sy_Q} {S : sy_S} {M : px_M} {i : Instr} {len : Nat}
theorem sy_open (h : ∀ (ρ : Nat → Int) (τ : Nat → Int64) (w : px_W) (lc : List (Nat × Value)) (cf : List pf_F) (d : Nat), sy_mem q S.1 ρ τ w → sy_lvok ρ τ S.2.1.2.2.1 lc → sy_frs ρ τ q.1 S.2.2 cf → d + cf.length = x.2.2.2.2.2.2 → pf_Fin x.1 x.2.1 x.2.2.1 x.2.2.2.1 x.2.2.2.2.1 x.2.2.2.2.2.1 cf d M S.2.1.2.1 lc (S.2.1.2.2.2.map (sy_v ρ τ)) w) (hM : q.1[S.2.1.1]? = some M) : sy_Good x q S := by
  intro ρ τ w c cf d hR hd
  obtain ⟨hm, ⟨h1, h2, h3, h4⟩, hf⟩ := hR
  have hc : c.1 = M := Option.some.inj (h1.symm.trans hM)
  rw [hc, h2, h4]
  exact h ρ τ w c.2.2.1 cf d hm h3 hf hd
theorem sy_use {g : sy_G} {pc : Nat} {lv : List (Nat × sy_A)} {st : List sy_A} (hG : sy_Good x q (sy_at S g pc lv st)) (hM : q.1[S.2.1.1]? = some M) {ρ : Nat → Int} {τ : Nat → Int64} {w : px_W} {lc : List (Nat × Value)} {cf : List pf_F} {d : Nat} (hm : sy_mem q g ρ τ w) (hl : sy_lvok ρ τ lv lc) (hf : sy_frs ρ τ q.1 S.2.2 cf) (hd : d + cf.length = x.2.2.2.2.2.2) : pf_Fin x.1 x.2.1 x.2.2.1 x.2.2.2.1 x.2.2.2.2.1 x.2.2.2.2.2.1 cf d M pc lc (st.map (sy_v ρ τ)) w := hG ρ τ w (M, pc, lc, st.map (sy_v ρ τ)) cf d ⟨hm, ⟨hM, rfl, hl, rfl⟩, hf⟩ hd
theorem sy_go1 (hM : q.1[S.2.1.1]? = some M) (hq : px_look M.2.1 S.2.1.2.1 = some (i, len)) {z : Nat × List (Nat × sy_A) × List sy_A} (hz : sy_1 i len S.2.1.2.1 M.1.2.2.1 S.2.1.2.2.1 S.2.1.2.2.2 = some z) (hG : sy_Good x q (sy_at S S.1 z.1 z.2.1 z.2.2)) : sy_Good x q S := by
  refine sy_open (fun ρ τ w lc cf d hm hl hf hd => ?_) hM
  obtain ⟨lc', hs, hl'⟩ := sy_1_ok hl hz
  exact pf_next (px_step_1 hq hs) (sy_use hG hM hm hl' hf hd)
theorem sy_zero {ρ : Nat → Int} : Int32.ofInt (sy_e ρ (sy_c 0)) = 0 := by
  rw [sy_c_e]
  rfl
theorem sy_goIf {k : Jvm.ClassFile.Cond} {off : Int} {t : Nat} {e : sy_L} {r : List sy_A} (hM : q.1[S.2.1.1]? = some M) (hq : px_look M.2.1 S.2.1.2.1 = some (.ifCond k off, 3)) (hst : S.2.1.2.2.2 = .inl e :: r) (ht : px_tgt S.2.1.2.1 off = some t)
    (hT : ∀ g', (sy_two S.1 k e (sy_c 0)).1 = some g' → sy_Good x q (sy_at S g' t S.2.1.2.2.1 r)) (hF : ∀ g', (sy_two S.1 k e (sy_c 0)).2 = some g' → sy_Good x q (sy_at S g' (S.2.1.2.1 + 3) S.2.1.2.2.1 r)) : sy_Good x q S := by
  refine sy_open (fun ρ τ w lc cf d hm hl hf hd => ?_) hM
  rw [hst]
  have h2 := sy_two_ok hm k e (sy_c 0)
  rw [sy_zero] at h2
  have hs : ∀ mx, px_s1 (.ifCond k off) 3 S.2.1.2.1 mx lc ((.inl e :: r : List sy_A).map (sy_v ρ τ)) = some (if px_cnd k (Int32.ofInt (sy_e ρ e)) 0 = true then t else S.2.1.2.1 + 3, lc, r.map (sy_v ρ τ)) := by
    intro mx
    refine px_s1_4 rfl ?_
    show ((if 3 = 3 then (px_tgt S.2.1.2.1 off).map (fun t => (if px_cnd k (Int32.ofInt (sy_e ρ e)) 0 = true then t else S.2.1.2.1 + 3, r.map (sy_v ρ τ))) else none).map _) = _
    rw [if_pos rfl, ht]
    rfl
  refine pf_next (px_step_1 hq (hs _)) ?_
  by_cases hc : px_cnd k (Int32.ofInt (sy_e ρ e)) 0 = true
  · obtain ⟨g', h3, h4⟩ := h2.1 hc
    rw [if_pos hc]
    exact sy_use (hT g' h3) hM h4 hl hf hd
  · obtain ⟨g', h3, h4⟩ := h2.2 hc
    rw [if_neg hc]
    exact sy_use (hF g' h3) hM h4 hl hf hd
theorem sy_goCmp {k : Jvm.ClassFile.Cond} {off : Int} {t : Nat} {a b : sy_L} {r : List sy_A} (hM : q.1[S.2.1.1]? = some M) (hq : px_look M.2.1 S.2.1.2.1 = some (.if_icmp k off, 3)) (hst : S.2.1.2.2.2 = .inl b :: .inl a :: r) (ht : px_tgt S.2.1.2.1 off = some t)
    (hT : ∀ g', (sy_two S.1 k a b).1 = some g' → sy_Good x q (sy_at S g' t S.2.1.2.2.1 r)) (hF : ∀ g', (sy_two S.1 k a b).2 = some g' → sy_Good x q (sy_at S g' (S.2.1.2.1 + 3) S.2.1.2.2.1 r)) : sy_Good x q S := by
  refine sy_open (fun ρ τ w lc cf d hm hl hf hd => ?_) hM
  rw [hst]
  have h2 := sy_two_ok hm k a b
  have hs : ∀ mx, px_s1 (.if_icmp k off) 3 S.2.1.2.1 mx lc ((.inl b :: .inl a :: r : List sy_A).map (sy_v ρ τ)) = some (if px_cnd k (Int32.ofInt (sy_e ρ a)) (Int32.ofInt (sy_e ρ b)) = true then t else S.2.1.2.1 + 3, lc, r.map (sy_v ρ τ)) := by
    intro mx
    refine px_s1_4 rfl ?_
    show ((if 3 = 3 then (px_tgt S.2.1.2.1 off).map (fun t => (if px_cnd k (Int32.ofInt (sy_e ρ a)) (Int32.ofInt (sy_e ρ b)) = true then t else S.2.1.2.1 + 3, r.map (sy_v ρ τ))) else none).map _) = _
    rw [if_pos rfl, ht]
    rfl
  refine pf_next (px_step_1 hq (hs _)) ?_
  by_cases hc : px_cnd k (Int32.ofInt (sy_e ρ a)) (Int32.ofInt (sy_e ρ b)) = true
  · obtain ⟨g', h3, h4⟩ := h2.1 hc
    rw [if_pos hc]
    exact sy_use (hT g' h3) hM h4 hl hf hd
  · obtain ⟨g', h3, h4⟩ := h2.2 hc
    rw [if_neg hc]
    exact sy_use (hF g' h3) hM h4 hl hf hd
/-- the ways of a switch: from place n on -/
def sy_tab (g : sy_G) (e : sy_L) (lo : Int) (pc : Nat) : List Int → Int → Option (List (sy_G × Nat))
  | [], _ => some []
  | o :: r, n => match px_tgt pc o, sy_tab g e lo pc r (n + 1) with
    | some t, some l => some (match sy_asms g [sy_sub e (sy_c (lo + n)), sy_sub (sy_c (lo + n)) e] with
      | some g' => (g', t) :: l
      | none => l)
    | _, _ => none
theorem sy_tab_ok {g : sy_G} {e : sy_L} {lo : Int} {pc : Nat} {ρ : Nat → Int} {τ : Nat → Int64} {w : px_W} (hm : sy_mem q g ρ τ w) : ∀ (os : List Int) (n : Int) (l : List (sy_G × Nat)), sy_tab g e lo pc os n = some l → ∀ (k : Nat) (o : Int), os[k]? = some o → sy_e ρ e = lo + n + k → ∃ z ∈ l, px_tgt pc o = some z.2 ∧ sy_mem q z.1 ρ τ w
  | [], _, _, _, k, o, h, _ => by simp at h
  | o1 :: r, n, l, hl, k, o, h, he => by
    unfold sy_tab at hl
    split at hl
    · rename_i t l2 ht hl2
      cases hl
      cases k with
      | zero =>
        rw [List.getElem?_cons_zero] at h
        cases h
        obtain ⟨g', h1, h2⟩ := sy_asms_ok (l := [sy_sub e (sy_c (lo + n)), sy_sub (sy_c (lo + n)) e]) hm (fun z hz => by
          rcases List.mem_cons.mp hz with rfl | hz
          · rw [sy_sub_e, sy_c_e]; omega
          · rw [List.mem_singleton.mp hz, sy_sub_e, sy_c_e]; omega)
        rw [h1]
        exact ⟨(g', t), List.mem_cons_self, ht, h2⟩
      | succ k =>
        rw [List.getElem?_cons_succ] at h
        obtain ⟨z, h1, h2⟩ := sy_tab_ok hm r (n + 1) l2 hl2 k o h (by omega)
        refine ⟨z, ?_, h2⟩
        split
        · exact List.mem_cons_of_mem _ h1
        · exact h1
    · cases hl
theorem sy_goTab {dflt lo hi : Int} {offs : Array Int} {t : Nat} {e : sy_L} {r : List sy_A} {b : Int × Int} {l : List (sy_G × Nat)} (hM : q.1[S.2.1.1]? = some M) (hq : px_look M.2.1 S.2.1.2.1 = some (.tableswitch dflt lo hi offs, len)) (hst : S.2.1.2.2.2 = .inl e :: r) (ht : px_tgt S.2.1.2.1 dflt = some t) (hb : sy_b S.1.1 e = some b) (hfit : sy_fit b = true) (hlen : offs.size = (hi - lo + 1).toNat) (hl : sy_tab S.1 e lo S.2.1.2.1 offs.toList 0 = some l)
    (hT : ∀ z ∈ l, sy_Good x q (sy_at S z.1 z.2 S.2.1.2.2.1 r)) (hF1 : ∀ g', sy_asm S.1 (sy_add (sy_sub (sy_c lo) e) (sy_c (-1))) = some g' → sy_Good x q (sy_at S g' t S.2.1.2.2.1 r)) (hF2 : ∀ g', sy_asm S.1 (sy_add (sy_sub e (sy_c hi)) (sy_c (-1))) = some g' → sy_Good x q (sy_at S g' t S.2.1.2.2.1 r)) : sy_Good x q S := by
  refine sy_open (fun ρ τ w lc cf d hm hlv hf hd => ?_) hM
  rw [hst]
  obtain ⟨b1, b2⟩ := sy_b_e hm.2.1 hb
  have ex := sy_fit_e hfit b1 b2
  have hbr : px_br (.tableswitch dflt lo hi offs) S.2.1.2.1 len ((.inl e :: r : List sy_A).map (sy_v ρ τ)) = (if (Int32.ofInt (sy_e ρ e)).toInt < lo ∨ hi < (Int32.ofInt (sy_e ρ e)).toInt then (px_tgt S.2.1.2.1 dflt).map (fun t => (t, r.map (sy_v ρ τ))) else (offs[((Int32.ofInt (sy_e ρ e)).toInt - lo).toNat]?.bind (fun o => px_tgt S.2.1.2.1 o)).map (fun t => (t, r.map (sy_v ρ τ)))) := rfl
  rw [ex] at hbr
  have fin : ∀ t2 : Nat, px_br (.tableswitch dflt lo hi offs) S.2.1.2.1 len ((.inl e :: r : List sy_A).map (sy_v ρ τ)) = some (t2, r.map (sy_v ρ τ)) → ∀ mx, px_s1 (.tableswitch dflt lo hi offs) len S.2.1.2.1 mx lc ((.inl e :: r : List sy_A).map (sy_v ρ τ)) = some (t2, lc, r.map (sy_v ρ τ)) := by
    intro t2 h mx
    refine px_s1_4 rfl ?_
    unfold px_a4
    rw [h]
    rfl
  by_cases hc : sy_e ρ e < lo ∨ hi < sy_e ρ e
  · rw [if_pos hc, ht] at hbr
    refine pf_next (px_step_1 hq (fin t hbr _)) ?_
    rcases hc with hc | hc
    · obtain ⟨g', h1, h2⟩ := sy_asm_ok hm (e := sy_add (sy_sub (sy_c lo) e) (sy_c (-1))) (by rw [sy_add_e, sy_sub_e, sy_c_e, sy_c_e]; omega)
      exact sy_use (hF1 g' h1) hM h2 hlv hf hd
    · obtain ⟨g', h1, h2⟩ := sy_asm_ok hm (e := sy_add (sy_sub e (sy_c hi)) (sy_c (-1))) (by rw [sy_add_e, sy_sub_e, sy_c_e, sy_c_e]; omega)
      exact sy_use (hF2 g' h1) hM h2 hlv hf hd
  · rw [if_neg hc] at hbr
    have hk : (sy_e ρ e - lo).toNat < offs.size := by rw [hlen]; omega
    have ho : offs[(sy_e ρ e - lo).toNat]? = some offs[(sy_e ρ e - lo).toNat] := Array.getElem?_eq_getElem hk
    obtain ⟨z, z1, z2, z3⟩ := sy_tab_ok hm offs.toList 0 l hl (sy_e ρ e - lo).toNat offs[(sy_e ρ e - lo).toNat] (by rw [Array.getElem?_toList]; exact ho) (by omega)
    rw [ho] at hbr
    simp only [Option.bind_some, z2, Option.map_some] at hbr
    refine pf_next (px_step_1 hq (fin z.2 hbr _)) ?_
    exact sy_use (hT z z1) hM z3 hlv hf hd
end STEP

end
