noncomputable section
/-! THE MACHINE GOES AS THE PURE ONE -/
section PX3
variable {p : Program} {l : Launch} {e : Env} {R : Room} {s : State} {m : MethodId} {args : Array Value} {below : List Frame} {meth : Method} {c : Code} {H : Heap} {locs : List Loc} {cells slots : Nat} {Q : State → Prop}
variable {pc : Nat} {ls : Array Slot} {rest : List Value} {cl : List vw_C} {ad : Nat → Option Nat} {D : va_G} {cI cJ : ClassId} {B : Nat} {w : px_W} {Ts Ns : List Cond} {P : List px_M} {h : px_Hd} {L : px_L} {lt : List (List Int32)} {SL : List (String × Nat × Nat)}
theorem px_n1 (a : Nat) (h : 1 ≤ a ∧ a ≤ 16) : a - 1 < 16 ∧ 1 + (a - 1) = a ∧ 17 + (a - 1) = a + 16 := by omega
theorem px_n17 (a : Nat) (h : 17 ≤ a ∧ a ≤ 32) : a - 17 < 16 ∧ 17 + (a - 17) = a := by omega
theorem px_ad {a : Nat} (had : ∀ k, ad (64 + k) = some (B + k)) (ha : 64 ≤ a) : px_tr ad (.ref a) = .ref (B + (a - 64)) := by
  show va_rf (ad a) = _
  have h1 := had (a - 64)
  rw [show 64 + (a - 64) = a by omega] at h1
  rw [h1]
  rfl
theorem px_locs1 {k j : Nat} (hlocs : ∀ q ∈ locs, B ≤ q.base) : ∀ q ∈ locs ++ [(⟨B + k, j⟩ : Loc)], B ≤ q.base := by
  intro q hq
  rcases List.mem_append.mp hq with h | h
  · exact hlocs q h
  · rw [List.mem_singleton.mp h]
    exact Nat.le_add_right B k
set_option maxHeartbeats 2000000 in
theorem px_W2 (E : px_Env Ts Ns cl D cI cJ h p s m args meth c) (hcl : ∀ r ∈ cl, px_okK Ts r) (hL : px_okL Ts Ns cl SL P h.1.cls L) (hai : Cond.arrayClass .int ∈ Ts) (haj : Cond.arrayClass .long ∈ Ts) (had : ∀ k, ad (64 + k) = some (B + k)) {i : Instr} {len : Nat} {scr : Option (List Int32)} {st : List Value} {z : List Value × px_W × Nat × Nat}
    (hd : decode h.2.1 pc = .ok (i, len)) (hz : px_s2 cl lt i len scr h.1.name h.1.cls L st w = some z) (hH : px_H cl ad D cI cJ B w H) (hfr : ∀ q, q < B → H[q]? = s.heap[q]?) (hlocs : ∀ q ∈ locs, B ≤ q.base) (hcells : cells + z.2.2.1 ≤ R.cells) (hslots : slots + z.2.2.2 ≤ R.slots)
    (hscr : ∀ xs, scr = some xs → ∃ b0, ad 0 = some b0 ∧ va_X b0 xs.length (fun j => xs.getD j 0) s s.heap ∧ b0 < B) (hXX : px_X lt SL ad B s s.heap)
    (kk : ∀ (H1 : Heap) (locs1 : List Loc), px_H cl ad D cI cJ B z.2.1 H1 → (∀ q, q < B → H1[q]? = s.heap[q]?) → (∀ q ∈ locs1, B ≤ q.base) → W p l e R s m args below meth c H1 locs1 (cells + z.2.2.1) (slots + z.2.2.2) Q (F0 m (pc + len) ls (z.1.map (px_tr ad)))) : W p l e R s m args below meth c H locs cells slots Q (F0 m pc ls (st.map (px_tr ad))) := by
  obtain ⟨hx, hb, hml, hr, hlk, hnm, hown, hts, hK, hNs⟩ := E
  have hkf : ∀ a : Nat, a < s.heap.size → ¬ B ≤ a → H[a]? = s.heap[a]? := fun a _ z => hfr a (Nat.not_le.mp z)
  have hmem : ∀ {ci : Nat} {r : vw_C}, cl[ci]? = some r → px_okK Ts r := fun hc => hcl _ (List.mem_of_getElem? hc)
  unfold px_s2 at hz
  split at hz
  · split at hz
    · rename_i hc
      split at hz
      · rename_i q o hq ho
        split at hz
        · rename_i he
          obtain ⟨v, hv, h2⟩ := Option.map_eq_some_iff.mp hz
          clear hz
          subst h2
          rw [hc.1] at hd kk
          obtain ⟨r, g1, g2, g3⟩ := hL.1 _ (px_look_mem hq)
          have ho' : px_at cl ad D cI cJ (B + _) (.inr (.inr o)) H := hH.2 _ _ ho
          obtain ⟨o1, o2⟩ := o
          rw [List.map_cons, px_ad had hc.2]
          cases he
          exact px_get_W hx hb hts hown hK g1 (hmem g1) g2 g3 ho' hv hd (kk H locs hH hfr hlocs)
        · cases hz
      · cases hz
    · split at hz
      · rename_i hc
        obtain ⟨k, hk, h2⟩ := Option.bind_eq_some_iff.mp hz
        clear hz
        rw [hc.1] at hd kk
        obtain ⟨g0, g1⟩ := hL.2.2.2.2.2.2.2 _ (px_look_mem hk)
        obtain ⟨adK, adV, x1, x2, x3, x4, x5⟩ := hXX
        rename_i a r _
        obtain ⟨hj, hj1, hj2⟩ := px_n1 a hc.2
        have ea : ad a = some (adK (a - 1)) := by have := (x1 (a - 1) hj).1; rwa [hj1] at this
        have ev : ad (a + 16) = some (adV (a - 1)) := by have := (x1 (a - 1) hj).2; rwa [hj2] at this
        rw [List.map_cons, show px_tr ad (.ref a) = .ref (adK (a - 1)) by show va_rf (ad a) = _; rw [ea]; rfl]
        split at h2
        · rename_i hk0
          cases h2
          obtain ⟨cf, kf, fi, f, cell, f1, f2, f3, f4, f5, f6⟩ := ((x2.1 (a - 1) hj).2.2.1).kept hkf
          have k2 := kk H locs hH hfr hlocs
          rw [List.map_cons, show px_tr ad (.ref (a + 16)) = .ref (adV (a - 1)) by show va_rf (ad (a + 16)) = _; rw [ev]; rfl] at k2
          exact W.getf hx hb hown (hts _ (g0 hk0)) f1 f2 f3 f4 f5 rfl rfl hd k2
        · split at h2
          · rename_i hk1
            cases h2
            obtain ⟨cf, kf, fi, f, cell, f1, f2, f3, f4, f5, f6⟩ := ((x2.1 (a - 1) hj).2.1).kept hkf
            exact W.getf hx hb hown (hts _ (g1 hk1)) f1 f2 f3 f4 f5 rfl rfl hd (kk H locs hH hfr hlocs)
          · cases h2
      · cases hz
  · split at hz
    · rename_i hc
      rw [hc] at hd kk
      split at hz
      · rename_i ha
        split at hz
        · rename_i xs
          split at hz
          · rename_i hj
            cases hz
            obtain ⟨b0, e0, hX, hlt⟩ := hscr xs rfl
            obtain ⟨cell, h1, h2, h3, h4, h5⟩ := hX
            obtain ⟨hin, hjl⟩ := px_ix_in hj
            subst ha
            rw [List.map_cons, List.map_cons, show px_tr ad (.ref 0) = .ref b0 by show va_rf (ad 0) = _; rw [e0]; rfl]
            exact W.iald (a := b0) (v := .int (xs.getD _ 0)) hx hb (by rw [hfr _ hlt]; exact h1) h2 h3 (by rw [h4]; exact hin) (h5 _ hjl) rfl rfl hd (kk H locs hH hfr hlocs)
          · cases hz
        · cases hz
      · split at hz
        · rename_i ha
          split at hz
          · rename_i ll hw
            split at hz
            · rename_i hj
              cases hz
              rw [List.map_cons, List.map_cons, px_ad had ha]
              exact px_iald_W hx hb hK (hH.2 _ _ hw) hj hd (kk H locs hH hfr hlocs)
            · cases hz
          · cases hz
        · cases hz
    · cases hz
  · split at hz
    · rename_i hc
      rw [hc.1] at hd kk
      split at hz
      · rename_i ll hw
        split at hz
        · rename_i hj
          cases hz
          rw [List.map_cons, List.map_cons, List.map_cons, px_ad had hc.2]
          exact px_iast_W hx hb hK hH hw hj hd (fun H1 a1 a2 => kk H1 _ a1 (fun q hq => (a2 q hq).trans (hfr q hq)) (px_locs1 hlocs))
        · cases hz
      · cases hz
    · cases hz
  · split at hz
    · rename_i hc
      rw [hc.1] at hd kk
      split at hz
      · rename_i q o hq ho
        split at hz
        · rename_i r hr2
          split at hz
          · rename_i he
            cases hz
            obtain ⟨he1, he2, he3, he4⟩ := he
            obtain ⟨r', g1, g2, g3⟩ := hL.1 _ (px_look_mem hq)
            obtain ⟨o1, o2⟩ := o
            cases he1
            have hrr : r' = r := Option.some.inj (g1.symm.trans hr2)
            subst hrr
            rw [List.map_cons, List.map_cons, px_ad had hc.2]
            exact px_put_W hx hb hts hown hK g1 (hmem g1) g2 g3 hH ho he2 he3 (fun z => ⟨hnm (he4 z).1, (he4 z).2⟩) hd (fun H1 f a1 a2 => kk H1 _ a1 (fun q hq => (a2 q hq).trans (hfr q hq)) (px_locs1 hlocs))
          · cases hz
        · cases hz
      · cases hz
    · cases hz
  · split at hz
    · rename_i hc
      rw [hc] at hd kk
      have hz1 := px_or_some hz
      clear hz
      rcases hz1 with hz | hz
      · obtain ⟨v, hv, h2⟩ := Option.map_eq_some_iff.mp hz
        clear hz
        subst h2
        exact lv_ldc hx hb hown (hts _ (hL.2.2.2.1 _ (px_look_mem hv))) hd (kk H locs hH hfr hlocs)
      · obtain ⟨j, hv, h2⟩ := Option.map_eq_some_iff.mp hz
        clear hz
        subst h2
        obtain ⟨adK, adV, x1, x2, x3, x4, x5⟩ := hXX
        obtain ⟨hj, tx, hR⟩ := x3 _ (hL.2.2.2.2.2.1 _ (px_look_mem hv))
        have k2 := kk H locs hH hfr hlocs
        rw [List.map_cons, show px_tr ad (.ref (1 + j)) = .ref (adK j) by show va_rf (ad (1 + j)) = _; rw [(x1 j hj).1]; rfl] at k2
        exact va_ldcS hx hb hown hR hd k2
    · cases hz
  · split at hz
    · rename_i hc
      rw [hc] at hd kk
      obtain ⟨k, hk, h2⟩ := Option.bind_eq_some_iff.mp hz
      clear hz
      obtain ⟨g0, g1⟩ := hL.2.2.2.2.2.2.1 _ (px_look_mem hk)
      obtain ⟨adK, adV, x1, x2, x3, x4, x5⟩ := hXX
      split at h2
      · rename_i hk0
        cases h2
        obtain ⟨cf, kf, fi, f, a, cell, f1, f2, f3, f4, f5, f6, f7, f8⟩ := x4.kept hkf
        exact W.gets hx hb hown (hts _ (g0 hk0)) f1 f2 f3 f4 f5 (fun e => by rw [e] at f6; cases f6) f7 rfl hd (kk H locs hH hfr hlocs)
      · split at h2
        · rename_i hk1
          cases h2
          obtain ⟨cf, kf, fi, f, a, cell, f1, f2, f3, f4, f5, f6, f7, f8⟩ := x5.kept hkf
          exact W.gets hx hb hown (hts _ (g1 hk1)) f1 f2 f3 f4 f5 (fun e => by rw [e] at f6; cases f6) f7 rfl hd (kk H locs hH hfr hlocs)
        · cases h2
    · cases hz
  · split at hz
    · rename_i hc
      cases hz
      rw [hc.1] at hd kk
      obtain ⟨adK, adV, x1, x2, x3, x4, x5⟩ := hXX
      rename_i j a r
      obtain ⟨hj, hj1⟩ := px_n17 a ⟨hc.2.1, hc.2.2.1⟩
      have ev : ad a = some (adV (a - 17)) := by have := (x1 (a - 17) hj).2; rwa [hj1] at this
      rw [List.map_cons, List.map_cons, show px_tr ad (.ref a) = .ref (adV (a - 17)) by show va_rf (ad a) = _; rw [ev]; rfl]
      obtain ⟨cell, h1, h2, h3, h4, h5, h6, h7⟩ := ((x2.1 (a - 17) hj).2.2.2).kept hkf
      obtain ⟨hin, hjl⟩ := px_ix_in hc.2.2.2
      refine W.bald (a := adV (a - 17)) (v := .int ((lt.getD (a - 17) []).getD j.toNatClampNeg 0)) hx hb h1 h2 h3 (fun q => ?_) (h6 _ hjl) rfl rfl hd (kk H locs hH hfr hlocs)
      rcases q with q | q
      · exact hin (Or.inl q)
      · omega
    · cases hz
  · split at hz
    · rename_i hc
      rw [hc] at hd kk
      obtain ⟨v, hv, h2⟩ := Option.map_eq_some_iff.mp hz
      clear hz
      subst h2
      exact lv_ldcw hx hb hown (hts _ (hL.2.2.2.1 _ (px_look_mem hv))) hd (kk H locs hH hfr hlocs)
    · cases hz
  · split at hz
    · rename_i hc
      rw [hc] at hd kk
      obtain ⟨v, hv, h2⟩ := Option.map_eq_some_iff.mp hz
      clear hz
      subst h2
      exact lv_ldc2 hx hb hown (hts _ (hL.2.2.2.2.1 _ (px_look_mem hv))) hd (kk H locs hH hfr hlocs)
    · cases hz
  · split at hz
    · rename_i hc
      rw [hc] at hd kk
      split at hz
      · rename_i ha
        split at hz
        · rename_i xs
          cases hz
          obtain ⟨b0, e0, hX, hlt⟩ := hscr xs rfl
          obtain ⟨cell, h1, h2, h3, h4, h5⟩ := hX
          subst ha
          rw [List.map_cons, show px_tr ad (.ref 0) = .ref b0 by show va_rf (ad 0) = _; rw [e0]; rfl]
          exact W.alen (a := b0) (n := Int32.ofNat xs.length) hx hb (by rw [hfr _ hlt]; exact h1) h2 (by rw [h4] <;> rfl) rfl rfl hd (kk H locs hH hfr hlocs)
        · cases hz
      · split at hz
        · rename_i ha
          split at hz
          · rename_i ll hw
            cases hz
            rw [List.map_cons, px_ad had ha]
            exact px_alen_W hx hb hK (hH.2 _ _ hw) hd (kk H locs hH hfr hlocs)
          · cases hz
        · split at hz
          · rename_i hc2
            cases hz
            obtain ⟨adK, adV, x1, x2, x3, x4, x5⟩ := hXX
            rename_i a r _ _
            obtain ⟨hj, hj1⟩ := px_n17 a hc2
            have ev : ad a = some (adV (a - 17)) := by have := (x1 (a - 17) hj).2; rwa [hj1] at this
            rw [List.map_cons, show px_tr ad (.ref a) = .ref (adV (a - 17)) by show va_rf (ad a) = _; rw [ev]; rfl]
            obtain ⟨cell, h1, h2, h3, h4, h5, h6, h7⟩ := ((x2.1 (a - 17) hj).2.2.2).kept hkf
            exact W.alen (n := Int32.ofNat ((lt.map List.length).getD (a - 17) 0)) hx hb h1 h2 h5 rfl rfl hd (kk H locs hH hfr hlocs)
          · cases hz
    · cases hz
  · split at hz
    · rename_i hc
      rw [hc.1] at hd kk
      split at hz
      · rename_i ll hw
        split at hz
        · rename_i hj
          cases hz
          rw [List.map_cons, List.map_cons, px_ad had hc.2]
          exact px_lald_W hx hb hK (hH.2 _ _ hw) hj hd (kk H locs hH hfr hlocs)
        · cases hz
      · cases hz
    · cases hz
  · split at hz
    · rename_i hc
      rw [hc.1] at hd kk
      split at hz
      · rename_i ll hw
        split at hz
        · rename_i hj
          cases hz
          rw [List.map_cons, List.map_cons, List.map_cons, px_ad had hc.2]
          exact px_last_W hx hb hK hH hw hj hd (fun H1 a1 a2 => kk H1 _ a1 (fun q hq => (a2 q hq).trans (hfr q hq)) (px_locs1 hlocs))
        · cases hz
      · cases hz
    · cases hz
  · split at hz
    · rename_i hc
      rw [hc] at hd kk
      obtain ⟨ci, hci, h2⟩ := Option.bind_eq_some_iff.mp hz
      clear hz
      obtain ⟨r, hr2, h3⟩ := Option.map_eq_some_iff.mp h2
      clear h2
      subst h3
      obtain ⟨r', g1, g2⟩ := hL.2.2.1 _ (px_look_mem hci)
      have hrr : r' = r := Option.some.inj (g1.symm.trans hr2)
      subst hrr
      refine px_new_W hx hb hts hown hK hH g1 (hmem g1) g2 hcells hslots hd (fun H1 a1 a2 => ?_)
      have k2 := kk H1 locs a1 (fun q hq => (a2 q hq).trans (hfr q hq)) hlocs
      rw [List.map_cons, px_ad had (by omega), show 64 + w.length - 64 = w.length by omega] at k2
      exact k2
    · cases hz
  · split at hz
    · rename_i hc
      cases hz
      rw [hc.1] at hd kk
      rw [List.map_cons]
      refine px_newi_W hx hb (hts _ hai) hK hH hc.2.1 hc.2.2 hcells hslots hd (fun H1 a1 a2 => ?_)
      have k2 := kk H1 locs a1 (fun q hq => (a2 q hq).trans (hfr q hq)) hlocs
      rw [List.map_cons, px_ad had (by omega), show 64 + w.length - 64 = w.length by omega] at k2
      exact k2
    · cases hz
  · split at hz
    · rename_i hc
      cases hz
      rw [hc.1] at hd kk
      rw [List.map_cons]
      refine px_newl_W hx hb (hts _ haj) hK hH hc.2.1 hc.2.2 hcells hslots hd (fun H1 a1 a2 => ?_)
      have k2 := kk H1 locs a1 (fun q hq => (a2 q hq).trans (hfr q hq)) hlocs
      rw [List.map_cons, px_ad had (by omega), show 64 + w.length - 64 = w.length by omega] at k2
      exact k2
    · cases hz
  · cases hz
theorem px_W3 (E : px_Env Ts Ns cl D cI cJ h p s m args meth c) (hL : px_okL Ts Ns cl SL P h.1.cls L) (had : ∀ k, ad (64 + k) = some (B + k)) {i : Instr} {len d : Nat} {st : List Value} {z : List Value × px_W} {lv : List (Nat × Value)}
    (hl : lv_has ls h.2.2.1 lv) (hd : decode h.2.1 pc = .ok (i, len)) (hz : px_s3 i len d L st w = some z) (hH : px_H cl ad D cI cJ B w H) (hfr : ∀ q, q < B → H[q]? = s.heap[q]?) (hlocs : ∀ q ∈ locs, B ≤ q.base) (hdf : d ≤ R.frames) (hdl : 100 * d ≤ R.locals)
    (kk : ∀ (H1 : Heap) (locs1 : List Loc), px_H cl ad D cI cJ B z.2 H1 → (∀ q, q < B → H1[q]? = s.heap[q]?) → (∀ q ∈ locs1, B ≤ q.base) → W p l e R s m args below meth c H1 locs1 cells slots Q (F0 m (pc + 3) ls (z.1.map (px_tr ad)))) : W p l e R s m args below meth c H locs cells slots Q (F0 m pc ls (st.map (px_tr ad))) := by
  obtain ⟨hx, hb, hml, hr, hlk, hnm, hown, hts, hK, hNs⟩ := E
  unfold px_s3 at hz
  split at hz
  · split at hz
    · rename_i hc
      obtain ⟨c1, c2, c3, c4, c5, c6, c7, c8⟩ := hc
      rw [c1] at hd
      split at hz
      · rename_i q la lb hq ha hb2
        split at hz
        · rename_i he
          cases hz
          obtain ⟨g6, -⟩ := hL.2.1 _ (px_look_mem hq)
          obtain ⟨g1, g2, g3, g4⟩ := g6 he.1
          rw [List.map_cons, List.map_cons, List.map_cons, List.map_cons, List.map_cons, px_ad had c3, px_ad had c4]
          exact px_copy_W hx hb (by rw [hml]; exact hl.1.symm) hown (hts _ g1) (hts _ g2) (hts _ g3) (hts _ g4) hK hH ha hb2 c5 c6 c7 he.2.1 he.2.2 (by omega) (by rw [px_tr_sum]; omega) hd (fun H1 locs1 a1 a2 a3 => kk H1 locs1 a1 (fun q hq => (a2 q hq).trans (hfr q hq)) (fun q hq => (a3 q hq).elim (hlocs q) (fun e => by rw [e]; exact Nat.le_add_right _ _)))
        · cases hz
      · cases hz
    · cases hz
  · split at hz
    · rename_i hc
      rw [hc.1] at hd
      split at hz
      · rename_i q hq
        split at hz
        · rename_i he
          cases hz
          obtain ⟨-, g7, -⟩ := hL.2.1 _ (px_look_mem hq)
          obtain ⟨g1, g2, g3⟩ := g7 he
          rw [List.map_cons, px_ad had hc.2.2.1]
          exact W.objInit hx hb hown (hts _ g1) (hts _ g2) (hts _ g3) rfl (by rw [hml]; exact hl.1) rfl hd (by omega) (by show 2 * 0 + _ + 12 ≤ _; rw [px_tr_sum]; omega) (kk H locs hH hfr hlocs)
        · cases hz
      · cases hz
    · cases hz
  · cases hz
theorem px_W6 (E : px_Env Ts Ns cl D cI cJ h p s m args meth c) (hL : px_okL Ts Ns cl SL P h.1.cls L) {i : Instr} {len d : Nat} {st : List Value} {z : List Value} {lv : List (Nat × Value)}
    (hl : lv_has ls h.2.2.1 lv) (hd : decode h.2.1 pc = .ok (i, len)) (hz : px_s6 i len d L st = some z) (hdf : d ≤ R.frames) (hdl : 100 * d ≤ R.locals) (hcc : cells ≤ R.cells) (hss : slots ≤ R.slots)
    (kk : W p l e R s m args below meth c H locs cells slots Q (F0 m (pc + 3) ls (z.map (px_tr ad)))) : W p l e R s m args below meth c H locs cells slots Q (F0 m pc ls (st.map (px_tr ad))) := by
  obtain ⟨hx, hb, hml, hr, hlk, hnm, hown, hts, hK, hNs⟩ := E
  have hml2 : c.maxLocals = ls.size := by rw [hml]; exact hl.1.symm
  unfold px_s6 at hz
  split at hz
  · split at hz
    · rename_i hc
      rw [hc.1] at hd
      obtain ⟨q, hq, hz1⟩ := Option.bind_eq_some_iff.mp hz
      clear hz
      obtain ⟨-, -, -, g8, g9, g10⟩ := hL.2.1 _ (px_look_mem hq)
      split at hz1
      · split at hz1
        · rename_i he
          split at hz1
          · rename_i hs2
            cases hz1
            obtain ⟨a1, a2, a3, a4⟩ := g10 he
            exact va_mabs hx hb hml2 hown (hts _ a1) (hts _ a2) (hts _ a3) (hts _ a4) (by omega) (by rw [px_tr_sum]; omega) hcc hss hd kk
          · cases hz1
        · split at hz1
          · split at hz1
            · rename_i hs2
              split at hz1
              · rename_i he
                cases hz1
                obtain ⟨a1, a2, a3, a4⟩ := g8 he
                exact va_mmax hx hb hml2 hown (hts _ a1) (hts _ a2) (hts _ a3) (hts _ a4) (by omega) (by rw [px_tr_sum]; omega) hcc hss hd kk
              · split at hz1
                · rename_i he
                  cases hz1
                  obtain ⟨a1, a2, a3, a4⟩ := g9 he
                  exact va_mmin hx hb hml2 hown (hts _ a1) (hts _ a2) (hts _ a3) (hts _ a4) (by omega) (by rw [px_tr_sum]; omega) hcc hss hd kk
                · cases hz1
            · cases hz1
          · cases hz1
      · cases hz1
    · cases hz
  · cases hz
def px_Qc (cl : List vw_C) (ad : Nat → Option Nat) (D : va_G) (cI cJ : ClassId) (B : Nat) (v : Option Value) (w' : px_W) : Array Value → State → Outcome → State → Prop := fun _ st o t => o = .returned (v.map (px_tr ad)) ∧ px_H cl ad D cI cJ B w' t.heap ∧ ∀ q, q < B → t.heap[q]? = st.heap[q]?
def px_Pc (Ns : List Cond) (cl : List vw_C) (lt : List (List Int32)) (SL : List (String × Nat × Nat)) (ad : Nat → Option Nat) (D : va_G) (cI cJ : ClassId) (B : Nat) (as : List Value) (w : px_W) : Array Value → State → Prop := fun a U => a = (as.map (px_tr ad)).toArray ∧ px_H cl ad D cI cJ B w U.heap ∧ va_K D cl [(cI, .int), (cJ, .long)] U ∧ (∀ x ∈ Ns, va_Nw x U) ∧ px_X lt SL ad B U U.heap
theorem px_Pc_blind (hN : ∀ x ∈ Ns, ∃ (a : String) (i : Nat) (y : MethodName) (h : String), x = Cond.methodLinkNest a i y h) {as : List Value} : FrameBlind (px_Pc Ns cl lt SL ad D cI cJ B as w) := by
  intro a U g mk q
  obtain ⟨q1, q2, q3, q4, q5⟩ := q
  refine ⟨q1, q2, va_K.moved (u := U) (U := U.calling g mk a) (Vm.Alike.refl U.vm) q3, fun x hx => ?_, px_X.same (u := U) (U := U.calling g mk a) rfl q5⟩
  obtain ⟨b, i, y, h, rfl⟩ := hN x hx
  exact va_Nw.same rfl (u := U) (U := U.calling g mk a) rfl (q4 _ hx)
theorem px_after {v : Option Value} {w' : px_W} {a : Array Value} {mc ms : Nat} {st0 rest' : List Value} (hr : va_Run p l e R s m args below meth c H locs cells slots mc ms (F0 m pc ls st0) rest' (px_Qc cl ad D cI cJ B v w' a) (fun q => B ≤ q)) (hfr : ∀ q, q < B → H[q]? = s.heap[q]?) (hlocs : ∀ q ∈ locs, B ≤ q.base)
    (kk : ∀ (H1 : Heap) (locs1 : List Loc), px_H cl ad D cI cJ B w' H1 → (∀ q, q < B → H1[q]? = s.heap[q]?) → (∀ q ∈ locs1, B ≤ q.base) → W p l e R s m args below meth c H1 locs1 (cells + mc) (slots + ms) Q (F0 m (pc + 3) ls ((v.map (px_tr ad)).toList ++ rest'))) : W p l e R s m args below meth c H locs cells slots Q (F0 m pc ls st0) := by
  intro T hT X
  obtain ⟨v2, st₀, t, T', L2, h0, X', hL2, e1, e2, ⟨hv, hh, hf⟩, st⟩ := hr T hT X
  cases hv
  obtain ⟨t2, a1, b1⟩ := kk T'.heap (locs ++ L2) (by rw [e1]; exact hh) (fun q hq => by rw [e1, hf q hq, h0]; exact hfr q hq) (fun q hq => (List.mem_append.mp hq).elim (hlocs q) (hL2 q)) T' rfl X'
  exact ⟨t2, st t2 a1, b1⟩
end PX3

end
