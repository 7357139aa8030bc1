noncomputable section
/-! CALLS, AND RUNS -/
section PX4
variable {p : Program} {l : Launch} {e : Env} {R : Room} {s : State} {m : MethodId} {args : Array Value} {below : List Frame} {meth : Method} {c : Code} {H : Heap} {locs : List Loc} {cells slots : Nat} {Q : State → Prop}
variable {pc : Nat} {ls : Array Slot} {rest : List Value} {cl : List vw_C} {ad : Nat → Option Nat} {D : va_G} {cI cJ : ClassId} {B : Nat} {w : px_W} {Ts Ns : List Cond} {P : List px_M} {h : px_Hd} {L : px_L} {lt : List (List Int32)} {SL : List (String × Nat × Nat)}
theorem px_good (hg : ∀ w ∈ Ts, goodWord w = true) {x : Cond} (hx : x ∈ Ts) : GoodIn Ts (x :: Ts) := fun w hw => (List.mem_cons.mp hw).elim (fun e => by subst e; exact ⟨hx, good_of_word (hg _ hx)⟩) (fun q => ⟨q, good_of_word (hg _ q)⟩)
theorem px_stack {st r : List Value} {b n : Nat} (hdr : st.drop n = .ref b :: r) : st.map (px_tr ad) = (((st.take n).reverse).map (px_tr ad)).reverse ++ px_tr ad (.ref b) :: r.map (px_tr ad) := by
  rw [← List.map_reverse, List.reverse_reverse, ← List.map_cons, ← List.map_append, ← hdr, List.take_append_drop]
theorem px_stackS (st : List Value) (n : Nat) : st.map (px_tr ad) = (((st.take n).reverse).map (px_tr ad)).reverse ++ (st.drop n).map (px_tr ad) := by
  rw [← List.map_reverse, List.reverse_reverse, ← List.map_append, List.take_append_drop]
theorem px_W4 (E : px_Env Ts Ns cl D cI cJ h p s m args meth c) (hO : px_okP Ts Ns cl SL P) (hL : px_okL Ts Ns cl SL P h.1.cls L) (had : ∀ k, ad (64 + k) = some (B + k)) {i : Instr} {len d : Nat} {st : List Value} {lv : List (Nat × Value)}
    (hl : lv_has ls h.2.2.1 lv) (hd : decode h.2.1 pc = .ok (i, len)) {q : Nat × List Value × List Value} (hz : px_s4 cl P i len L st w = some q) {M' : px_M} (hM' : P[q.1]? = some M') {mc ms : Nat} {v : Option Value} {w' : px_W}
    (hMet : Met l M'.1.1 (Cond.code M'.1.1 M'.1.2.1 M'.1.2.2.1 M'.1.2.2.2.1 :: Ts) { frames := d, cells := mc, slots := ms, locals := 100 * d } (px_Pc Ns cl lt SL ad D cI cJ B q.2.1 w) (px_Qc cl ad D cI cJ B v w') mc ms (fun a => B ≤ a))
    (hH : px_H cl ad D cI cJ B w H) (hfr : ∀ q, q < B → H[q]? = s.heap[q]?) (hlocs : ∀ q ∈ locs, B ≤ q.base) (hXX : px_X lt SL ad B s s.heap) (hdf : d + 1 ≤ R.frames) (hdl : 100 * (d + 1) ≤ R.locals) (hcc : cells + mc ≤ R.cells) (hss : slots + ms ≤ R.slots)
    (kk : ∀ (H1 : Heap) (locs1 : List Loc), px_H cl ad D cI cJ B w' H1 → (∀ q, q < B → H1[q]? = s.heap[q]?) → (∀ q ∈ locs1, B ≤ q.base) → W p l e R s m args below meth c H1 locs1 (cells + mc) (slots + ms) Q (F0 m (pc + 3) ls ((v.map (px_tr ad)).toList ++ q.2.2.map (px_tr ad)))) : W p l e R s m args below meth c H locs cells slots Q (F0 m pc ls (st.map (px_tr ad))) := by
  obtain ⟨hx, hb, hml, hr, hlk, hnm, hown, hts, hK, hNs⟩ := E
  have hMP : M' ∈ P := List.mem_of_getElem? hM'
  obtain ⟨⟨o1, o2, o3, o4, o5⟩, -, -⟩ := hO.2.1 M' hMP
  have hG := px_good hO.2.2.2.2.1 o1
  have hbl : ∀ as : List Value, FrameBlind (px_Pc Ns cl lt SL ad D cI cJ B as w) := fun as => px_Pc_blind hO.2.2.2.2.2
  have hR : d + 1 ≤ R.frames ∧ 8 + (M'.1.2.2.1 + 11) + 100 * d ≤ R.locals := ⟨hdf, by omega⟩
  have hNw : ∀ (U : State), s.WarmedH U.vm → ∀ x ∈ Ns, va_Nw x U := fun U hW x hx => by
    obtain ⟨b, j, y, hh, rfl⟩ := hO.2.2.2.2.2 x hx
    exact va_Nw.warmM hW (hNs _ hx)
  have hPc : ∀ (as : List Value) (U : State), U.heap = H → s.WarmedH U.vm → px_Pc Ns cl lt SL ad D cI cJ B as w (as.map (px_tr ad)).toArray U := fun as U hU hW => ⟨rfl, by rw [hU]; exact hH, va_K.moved hW.alike hK, hNw U hW, hXX.to hW (fun q hq => by rw [hU]; exact hfr q hq)⟩
  have S : CallFix p m c h.2.1 h.2.2.1 s args Ts h.1.cls := ⟨hx, hb, hml, hown, hts⟩
  unfold px_s4 at hz
  split at hz
  · split at hz
    · rename_i hc
      rw [hc] at hd
      obtain ⟨k, hk, hz1⟩ := Option.bind_eq_some_iff.mp hz
      clear hz
      obtain ⟨M2, hM2, hz⟩ := Option.bind_eq_some_iff.mp hz1
      clear hz1
      split at hz
      · rename_i b r hdr
        split at hz
        · rename_i hcs
          split at hz
          · rename_i o ho
            split at hz
            · rename_i kc hkc
              split at hz
              · rename_i hcn
                cases hz
                have e2 : M2 = M' := Option.some.inj (hM2.symm.trans hM')
                subst e2
                obtain ⟨g0, -⟩ := (hL.2.1 _ (px_look_mem hk)).2.2.1 M2 hM2
                obtain ⟨g1, g2, g3⟩ := g0 hcs.1
                obtain ⟨r2, k1, cell, k2, k3, k4, -⟩ := hH.2 _ _ ho
                have hrr : r2 = kc := Option.some.inj (k1.symm.trans hkc)
                subst hrr
                rw [px_stack hdr, px_ad had hcs.2.2.1]
                have hfc : s.vm.findClass M2.1.1.cls = some cell.cls := by rw [← hcn, k3]; exact (hK.1 _ _ k1).2.1
                have hPre := hPc (.ref b :: (st.take M2.1.2.2.2.2).reverse)
                rw [List.map_cons, px_ad had hcs.2.2.1] at hPre
                exact px_after (va_runV (As := ((st.take M2.1.2.2.2.2).reverse).map (px_tr ad)) (C := M2.1.1.cls) S hMet ⟨callB_of M2.1.2.2.2.2 hts hG rfl rfl rfl (hts _ o3) (hts _ g1) o4 hR, hts _ g2, hts _ g3⟩ ⟨hbl _, ⟨cell, k2, by rw [k4]; rfl, hfc⟩, hPre⟩ rfl (by simp; omega) hl.1 rfl (lv_room (by rw [px_tr_sum]; exact hcs.2.2.2)) hd ⟨hcc, hss⟩) hfr hlocs kk
              · cases hz
            · cases hz
          · cases hz
        · split at hz
          · rename_i hcs
            cases hz
            have e2 : M2 = M' := Option.some.inj (hM2.symm.trans hM')
            subst e2
            obtain ⟨g0, -⟩ := (hL.2.1 _ (px_look_mem hk)).2.2.1 M2 hM2
            obtain ⟨g1, g2, g3⟩ := g0 hcs.1
            obtain ⟨adK, adV, x1, x2, x3, x4, x5⟩ := id hXX
            obtain ⟨hj, hj1, hj2⟩ := px_n1 b ⟨hcs.2.2.1, hcs.2.2.2.1⟩
            have ea : ad b = some (adK (b - 1)) := by have := (x1 (b - 1) hj).1; rwa [hj1] at this
            have eb : px_tr ad (.ref b) = .ref (adK (b - 1)) := by show va_rf (ad b) = _; rw [ea]; rfl
            obtain ⟨cell, k2, k4, k3, -⟩ := ((x2.1 (b - 1) hj).1).kept (H1 := H) (fun a _ z => hfr a (Nat.not_le.mp z))
            rw [px_stack hdr, eb]
            have hPre := hPc (.ref b :: (st.take M2.1.2.2.2.2).reverse)
            rw [List.map_cons, eb] at hPre
            exact px_after (va_runV (As := ((st.take M2.1.2.2.2.2).reverse).map (px_tr ad)) (C := M2.1.1.cls) S hMet ⟨callB_of M2.1.2.2.2.2 hts hG rfl rfl rfl (hts _ o3) (hts _ g1) o4 hR, hts _ g2, hts _ g3⟩ ⟨hbl _, ⟨cell, k2, k4, by rw [hcs.2.2.2.2.1]; exact k3⟩, hPre⟩ rfl (by simp; omega) hl.1 rfl (lv_room (by rw [px_tr_sum]; exact hcs.2.2.2.2.2)) hd ⟨hcc, hss⟩) hfr hlocs kk
          · cases hz
      · cases hz
    · cases hz
  · split at hz
    · rename_i hc
      rw [hc] at hd
      obtain ⟨k, hk, hz1⟩ := Option.bind_eq_some_iff.mp hz
      clear hz
      obtain ⟨M2, hM2, hz⟩ := Option.bind_eq_some_iff.mp hz1
      clear hz1
      split at hz
      · rename_i hcs
        cases hz
        have e2 : M2 = M' := Option.some.inj (hM2.symm.trans hM')
        subst e2
        obtain ⟨-, g1, -, g4, -⟩ := (hL.2.1 _ (px_look_mem hk)).2.2.1 M2 hM2
        rw [px_stackS st M2.1.2.2.2.2]
        rcases hcs.1 with hk1 | hk1
        · obtain ⟨g1, g2⟩ := g1 hk1
          exact px_after (va_runS (As := ((st.take M2.1.2.2.2.2).reverse).map (px_tr ad)) S hMet ⟨callB_of M2.1.2.2.2.2 hts hG rfl rfl rfl (hts _ o3) (hts _ g1) o4 hR, hts _ g2⟩ ⟨hbl _, hPc _⟩ rfl (by simp; omega) hl.1 rfl (lv_room (by rw [px_tr_sum]; exact hcs.2.2)) hd ⟨hcc, hss⟩) hfr hlocs kk
        · obtain ⟨g1, g2⟩ := g4 hk1
          exact px_after (va_runSN (As := ((st.take M2.1.2.2.2.2).reverse).map (px_tr ad)) S hMet ⟨va_cnB M2.1.2.2.2.2 hts hG rfl rfl rfl (hNs _ g1) (hts _ o3) o4 hR, hts _ g2, trivial⟩ ⟨hbl _, hPc _⟩ rfl (by simp; omega) hl.1 rfl (lv_room (by rw [px_tr_sum]; exact hcs.2.2)) hd ⟨hcc, hss⟩) hfr hlocs kk
      · cases hz
    · cases hz
  · split at hz
    · rename_i hc
      rw [hc] at hd
      obtain ⟨k, hk, hz1⟩ := Option.bind_eq_some_iff.mp hz
      clear hz
      obtain ⟨M2, hM2, hz⟩ := Option.bind_eq_some_iff.mp hz1
      clear hz1
      split at hz
      · rename_i b r hdr
        split at hz
        · rename_i hcs
          cases hz
          have e2 : M2 = M' := Option.some.inj (hM2.symm.trans hM')
          subst e2
          obtain ⟨-, -, g2, -, g5⟩ := (hL.2.1 _ (px_look_mem hk)).2.2.1 M2 hM2
          have hPre := hPc (.ref b :: (st.take M2.1.2.2.2.2).reverse)
          rw [List.map_cons, px_ad had hcs.2.2.1] at hPre
          rw [px_stack hdr, px_ad had hcs.2.2.1]
          obtain ⟨⟨y2, cc2, mx2, ret2, n2⟩, co2, L2⟩ := M2
          have hn2 : n2 ≤ st.length := hcs.2.1
          rcases hcs.1 with hk1 | hk1
          · obtain ⟨g1, g2, g3, g4⟩ := g2 hk1
            cases g4
            exact px_after (va_runI (As := ((st.take n2).reverse).map (px_tr ad)) S hMet ⟨callB_of n2 hts hG rfl rfl rfl (hts _ o3) (hts _ g1) o4 hR, g2, hts _ g3⟩ ⟨hbl _, hPre⟩ rfl (by simp; omega) hl.1 rfl (lv_room (by rw [px_tr_sum]; exact hcs.2.2.2)) hd ⟨hcc, hss⟩) hfr hlocs kk
          · obtain ⟨g1, g2, g3, g4⟩ := g5 hk1
            cases g4
            exact px_after (va_runIN (As := ((st.take n2).reverse).map (px_tr ad)) S hMet ⟨va_cnB n2 hts hG rfl rfl rfl (hNs _ g1) (hts _ o3) o4 hR, g2, hts _ g3⟩ ⟨hbl _, hPre⟩ rfl (by simp; omega) hl.1 rfl (lv_room (by rw [px_tr_sum]; exact hcs.2.2.2)) hd ⟨hcc, hss⟩) hfr hlocs kk
        · cases hz
      · cases hz
    · cases hz
  · cases hz
theorem px_s5_st {i : Instr} {len : Nat} {ret : Option FieldType} {st : List Value} {v : Option Value} (hz : px_s5 i len ret st = some v) : st = v.toList := by
  unfold px_s5 at hz
  split at hz
  · split at hz
    · split at hz
      · cases hz; rfl
      · cases hz
    · cases hz
  · split at hz
    · cases hz; rfl
    · cases hz
  · split at hz
    · cases hz; rfl
    · cases hz
  · cases hz
theorem px_ret_W (hx : p.tables.exec = Jvm.exec) {cc : ByteArray} (hb : c.code = cc) {ret : Option FieldType} (hr : meth.sig.returnType = ret) (hlocks : meth.locks = false) {Qc : Array Value → State → Outcome → State → Prop} {free : Addr → Prop} {i : Instr} {len : Nat} {v : Option Value} (hd : decode cc pc = .ok (i, len)) (hz : px_s5 i len ret v.toList = some v) (hq : ∀ t : State, t.heap = H → s.WarmedH t.vm → Qc args s (.returned (v.map (px_tr ad))) t) (hf : ∀ q ∈ locs, free q.base) :
    W p l e R s m args below meth c H locs cells slots (MQ below Qc args s cells slots free) (F0 m pc ls (v.toList.map (px_tr ad))) := by
  generalize hst : v.toList = st at hz
  unfold px_s5 at hz
  split at hz
  · split at hz
    · split at hz
      · rename_i hc
        cases hz
        rw [hc.1] at hd
        exact W.zret hx hb hr hc.2 hq hf hd hlocks
      · cases hz
    · cases hz
  · split at hz
    · rename_i hc
      cases hz
      rw [hc.1] at hd
      rw [hc.2] at hr
      exact W.lret hx hb hr hq hf hd hlocks
    · cases hz
  · split at hz
    · rename_i hc
      cases hz
      rw [hc.1] at hd
      rw [hc.2] at hr
      exact W.vret hx hb hr hq hf hd hlocks
    · cases hz
  · cases hz
end PX4
def px_Goal (Ts Ns : List Cond) (cl : List vw_C) (lt : List (List Int32)) (SL : List (String × Nat × Nat)) (P : List px_M) (n : Nat) : Prop :=
  ∀ (d : Nat) (scr : Option (List Int32)) (M : px_M) (pc : Nat) (lv : List (Nat × Value)) (st : List Value) (w : px_W) (b : Nat × Nat) (r : Option Value × px_W × (Nat × Nat)), px_exec cl lt P n d scr M pc lv st w b = some r → (∀ q ∈ M.2.1, decode M.1.2.1 q.1 = .ok q.2) ∧ px_okL Ts Ns cl SL P M.1.1.cls M.2.2 →
  ∀ (D : va_G) (cI cJ : ClassId) (B : Nat) (ad : Nat → Option Nat) (p : Program) (l : Launch) (e : Env) (R : Room) (s : State) (m : MethodId) (args : Array Value) (below : List Frame) (meth : Method) (c : Code) (H : Heap) (locs : List Loc) (cells slots : Nat) (Q : State → Prop) (ls : Array Slot),
  (∀ k, ad (64 + k) = some (B + k)) → px_Env Ts Ns cl D cI cJ M.1 p s m args meth c → lv_has ls M.1.2.2.1 (px_lv ad lv) → px_H cl ad D cI cJ B w H → (∀ q, q < B → H[q]? = s.heap[q]?) → (∀ q ∈ locs, B ≤ q.base) → d ≤ R.frames → 100 * d ≤ R.locals → cells + (b.1 - r.2.2.1) ≤ R.cells → slots + (b.2 - r.2.2.2) ≤ R.slots →
  (∀ xs, scr = some xs → ∃ b0, ad 0 = some b0 ∧ va_X b0 xs.length (fun j => xs.getD j 0) s s.heap ∧ b0 < B) → px_X lt SL ad B s s.heap →
  (∀ (H1 : Heap) (ls1 : Array Slot) (pc1 : Nat) (i1 : Instr) (len1 : Nat) (locs1 : List Loc) (cells1 slots1 : Nat), px_H cl ad D cI cJ B r.2.1 H1 → (∀ q, q < B → H1[q]? = s.heap[q]?) → (∀ q ∈ locs1, B ≤ q.base) → decode M.1.2.1 pc1 = .ok (i1, len1) → px_s5 i1 len1 M.1.2.2.2.1 r.1.toList = some r.1 → cells1 ≤ cells + (b.1 - r.2.2.1) → slots1 ≤ slots + (b.2 - r.2.2.2) → W p l e R s m args below meth c H1 locs1 cells1 slots1 Q (F0 m pc1 ls1 (r.1.toList.map (px_tr ad)))) →
  W p l e R s m args below meth c H locs cells slots Q (F0 m pc ls (st.map (px_tr ad)))
theorem px_met {Ts Ns : List Cond} {cl : List vw_C} {lt : List (List Int32)} {SL : List (String × Nat × Nat)} {P : List px_M} (hO : px_okP Ts Ns cl SL P) {n : Nat} (IH : px_Goal Ts Ns cl lt SL P n) {d : Nat} {M : px_M} {as : List Value} {w : px_W} {b : Nat × Nat} {r : Option Value × px_W × (Nat × Nat)} (hex : px_exec cl lt P n d none M 0 (lv_args 0 as) [] w b = some r) (hM : M ∈ P) (hfit : (lg_sl as).length ≤ M.1.2.2.1)
    (l : Launch) (D : va_G) (cI cJ : ClassId) (B : Nat) (ad : Nat → Option Nat) (had : ∀ k, ad (64 + k) = some (B + k)) : Met l M.1.1 (Cond.code M.1.1 M.1.2.1 M.1.2.2.1 M.1.2.2.2.1 :: Ts) { frames := d, cells := b.1 - r.2.2.1, slots := b.2 - r.2.2.2, locals := 100 * d } (px_Pc Ns cl lt SL ad D cI cJ B as w) (px_Qc cl ad D cI cJ B r.1 r.2.1) (b.1 - r.2.2.1) (b.2 - r.2.2.2) (fun a => B ≤ a) := by
  obtain ⟨⟨o1, o2, o3, o4, o5⟩, -, -⟩ := hO.2.1 M hM
  refine Met.ofW (cc := M.1.2.1) (maxL := M.1.2.2.1) (ret := M.1.2.2.2.1) o2 rfl ?_
  intro p e s m args below meth c s₁ Bd hml hv
  obtain ⟨rfl, hH, hK, hN, hXX⟩ := hv
  have hts0 := atoms_spec (ws := Cond.code M.1.1 M.1.2.1 M.1.2.2.1 M.1.2.2.2.1 :: Ts) Bd.pre
  have hts : ∀ x ∈ Ts, x.before _ s = true := fun x hx => hts0 x (List.mem_cons_of_mem _ hx)
  have hown : s.vm.findClass M.1.1.cls = some m.cls := findClass_of_methodNamed Bd.named
  have hnm : M.1.1.name = "<init>" → meth.name = "<init>" := fun z => (name_of_methodNamed Bd.named Bd.method).1.trans z
  have hl := lv_entry (as.map (px_tr ad)) (n := M.1.2.2.1) (by rw [px_sl_tr]; exact hfit)
  rw [px_args_tr] at hl
  rw [lg_entry_eq]
  refine IH d none M 0 _ [] w b r hex (hO.2.1 M hM).2 D cI cJ B ad p l e _ s m _ below meth c s.heap [] 0 0 _ _ had ⟨Bd.exec, Bd.bytes, hml, Bd.returns, Bd.notSynchronized, hnm, hown, hts, hK, hN⟩ hl hH (fun _ _ => rfl) (fun _ z => by cases z) (Nat.le_refl _) (Nat.le_refl _) (by show 0 + (b.1 - r.2.2.1) ≤ b.1 - r.2.2.1; omega) (by show 0 + (b.2 - r.2.2.2) ≤ b.2 - r.2.2.2; omega) (fun _ z => by cases z) hXX ?_
  intro H1 ls1 pc1 i1 len1 locs1 cells1 slots1 a1 a2 a3 a4 a5 a6 a7
  refine W.widen (k := b.1 - r.2.2.1) (n := b.2 - r.2.2.2) (by omega) (by omega) ?_
  exact px_ret_W Bd.exec Bd.bytes Bd.returns Bd.notSynchronized a4 a5 (fun t ht _ => ⟨rfl, by rw [ht]; exact a1, fun q hq => by rw [ht]; exact a2 q hq⟩) a3
theorem px_sim {Ts Ns : List Cond} {cl : List vw_C} {lt : List (List Int32)} {SL : List (String × Nat × Nat)} {P : List px_M} (hO : px_okP Ts Ns cl SL P) : ∀ n, px_Goal Ts Ns cl lt SL P n := by
  intro n
  induction n with
  | zero =>
    intro d scr M pc lv st w b r hex
    simp [px_exec] at hex
  | succ n IH =>
    intro d scr M pc lv st w b r hex hM D cI cJ B ad p l e R s m args below meth c H locs cells slots Q ls had E hl hH hfr hlocs hdf hdl hcc hss hscr hXX hret
    obtain ⟨hdec, hL⟩ := id hM
    unfold px_exec at hex
    split at hex
    · cases hex
    · rename_i z hst
      split at hex
      · rename_i hbud
        have hmo := px_mono _ _ _ _ _ _ _ _ _ _ hex
        simp only at hmo
        unfold px_step at hst
        obtain ⟨q, hq, hs⟩ := Option.bind_eq_some_iff.mp hst
        clear hst
        have hd := hdec _ (px_look_mem hq)
        have hs1 := px_or_some hs
        clear hs
        rcases hs1 with hs | hs
        · obtain ⟨y, hy, hs2⟩ := Option.map_eq_some_iff.mp hs
          cases hs2
          refine px_W1 E.1 E.2.1 ad hd hy hl (fun ls' hl' => ?_)
          exact IH d scr M _ _ _ w _ r hex hM D cI cJ B ad p l e R s m args below meth c H locs cells slots Q ls' had E hl' hH hfr hlocs hdf hdl hcc hss hscr hXX hret
        have hs1 := px_or_some hs
        clear hs
        rcases hs1 with hs | hs
        · obtain ⟨y, hy, hs2⟩ := Option.map_eq_some_iff.mp hs
          cases hs2
          simp only at hbud hmo hex
          refine px_W2 E hO.1 hL hO.2.2.1 hO.2.2.2.1 had hd hy hH hfr hlocs (by omega) (by omega) hscr hXX (fun H1 locs1 a1 a2 a3 => ?_)
          exact IH d scr M _ _ _ _ _ r hex hM D cI cJ B ad p l e R s m args below meth c H1 locs1 _ _ Q ls had E hl a1 a2 a3 hdf hdl (by simp only; omega) (by simp only; omega) hscr hXX (fun H2 ls2 pc2 i2 len2 locs2 cells2 slots2 b1 b2 b3 b4 b5 b6 b7 => hret H2 ls2 pc2 i2 len2 locs2 cells2 slots2 b1 b2 b3 b4 b5 (by simp only at b6; omega) (by simp only at b7; omega))
        have hs1 := px_or_some hs
        clear hs
        rcases hs1 with hs | hs
        · obtain ⟨y, hy, hs2⟩ := Option.map_eq_some_iff.mp hs
          cases hs2
        have hs1 := px_or_some hs
        clear hs
        rcases hs1 with hs | hs
        · obtain ⟨y, hy, hs2⟩ := Option.map_eq_some_iff.mp hs
          cases hs2
          refine px_W3 E hL had hl hd hy hH hfr hlocs hdf hdl (fun H1 locs1 a1 a2 a3 => ?_)
          exact IH d scr M _ _ _ _ _ r hex hM D cI cJ B ad p l e R s m args below meth c H1 locs1 cells slots Q ls had E hl a1 a2 a3 hdf hdl hcc hss hscr hXX hret
        have hs1 := px_or_some hs
        clear hs
        rcases hs1 with hs | hs
        · obtain ⟨y, hy, hs2⟩ := Option.map_eq_some_iff.mp hs
          cases hs2
          refine px_W6 E hL hl hd hy hdf hdl (by omega) (by omega) ?_
          exact IH d scr M _ _ _ _ _ r hex hM D cI cJ B ad p l e R s m args below meth c H locs cells slots Q ls had E hl hH hfr hlocs hdf hdl hcc hss hscr hXX hret
        · obtain ⟨y, hy, hs2⟩ := Option.map_eq_some_iff.mp hs
          cases hs2
      · cases hex
    · rename_i v hst
      cases hex
      unfold px_step at hst
      obtain ⟨q, hq, hs⟩ := Option.bind_eq_some_iff.mp hst
      clear hst
      have hd := hdec _ (px_look_mem hq)
      have hs1 := px_or_some hs
      clear hs
      rcases hs1 with hs | hs
      · obtain ⟨y, hy, hs2⟩ := Option.map_eq_some_iff.mp hs
        cases hs2
      have hs1 := px_or_some hs
      clear hs
      rcases hs1 with hs | hs
      · obtain ⟨y, hy, hs2⟩ := Option.map_eq_some_iff.mp hs
        cases hs2
      have hs1 := px_or_some hs
      clear hs
      rcases hs1 with hs | hs
      · obtain ⟨y, hy, hs2⟩ := Option.map_eq_some_iff.mp hs
        cases hs2
        have hst := px_s5_st hy
        subst hst
        exact hret H ls pc _ _ locs cells slots hH hfr hlocs hd hy (by omega) (by omega)
      have hs1 := px_or_some hs
      clear hs
      rcases hs1 with hs | hs
      · obtain ⟨y, hy, hs2⟩ := Option.map_eq_some_iff.mp hs
        cases hs2
      have hs1 := px_or_some hs
      clear hs
      rcases hs1 with hs | hs
      · obtain ⟨y, hy, hs2⟩ := Option.map_eq_some_iff.mp hs
        cases hs2
      · obtain ⟨y, hy, hs2⟩ := Option.map_eq_some_iff.mp hs
        cases hs2
    · rename_i k hst
      split at hex
      · rename_i d' M' hM'
        split at hex
        · rename_i hfit
          split at hex
          · cases hex
          · rename_i r2 hex2
            have hm1 := px_mono _ _ _ _ _ _ _ _ _ _ hex2
            have hm2 := px_mono _ _ _ _ _ _ _ _ _ _ hex
            unfold px_step at hst
            obtain ⟨q, hq, hs⟩ := Option.bind_eq_some_iff.mp hst
            clear hst
            have hd := hdec _ (px_look_mem hq)
            have hs1 := px_or_some hs
            clear hs
            rcases hs1 with hs | hs
            · obtain ⟨y, hy, hs2⟩ := Option.map_eq_some_iff.mp hs
              cases hs2
            have hs1 := px_or_some hs
            clear hs
            rcases hs1 with hs | hs
            · obtain ⟨y, hy, hs2⟩ := Option.map_eq_some_iff.mp hs
              cases hs2
            have hs1 := px_or_some hs
            clear hs
            rcases hs1 with hs | hs
            · obtain ⟨y, hy, hs2⟩ := Option.map_eq_some_iff.mp hs
              cases hs2
            have hs1 := px_or_some hs
            clear hs
            rcases hs1 with hs | hs
            · obtain ⟨y, hy, hs2⟩ := Option.map_eq_some_iff.mp hs
              cases hs2
            have hs1 := px_or_some hs
            clear hs
            rcases hs1 with hs | hs
            · obtain ⟨y, hy, hs2⟩ := Option.map_eq_some_iff.mp hs
              cases hs2
            · obtain ⟨y, hy, hs2⟩ := Option.map_eq_some_iff.mp hs
              cases hs2
              have hMet := px_met hO IH hex2 (List.mem_of_getElem? hM') hfit l D cI cJ B ad had
              refine px_W4 E hO hL had hl hd hy hM' hMet hH hfr hlocs hXX hdf hdl (by omega) (by omega) (fun H1 locs1 a1 a2 a3 => ?_)
              have e2 : (r2.1.map (px_tr ad)).toList ++ k.2.2.map (px_tr ad) = (r2.1.toList ++ k.2.2).map (px_tr ad) := by
                rw [List.map_append]
                cases r2.1 <;> rfl
              rw [e2]
              exact IH _ scr M _ _ _ _ _ r hex hM D cI cJ B ad p l e R s m args below meth c H1 locs1 _ _ Q ls had E hl a1 a2 a3 hdf hdl (by omega) (by omega) hscr hXX (fun H2 ls2 pc2 i2 len2 locs2 cells2 slots2 b1 b2 b3 b4 b5 b6 b7 => hret H2 ls2 pc2 i2 len2 locs2 cells2 slots2 b1 b2 b3 b4 b5 (by omega) (by omega))
        · cases hex
      · cases hex

end
