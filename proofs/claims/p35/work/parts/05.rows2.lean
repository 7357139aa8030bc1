noncomputable section
/-! ROWS: cells and the pool -/
section PX2
variable {p : Program} {l : Launch} {e : Env} {R : Room} {s : State} {m : MethodId} {args : Array Value} {below : List Frame} {meth : Method} {c : Code} {H : Heap} {locs : List Loc} {cells slots : Nat} {Q : State → Prop}
variable {cc : ByteArray} {pc : Nat} {ls : Array Slot} {rest : List Value} {cl : List vw_C} {ad : Nat → Option Nat} {D : va_G} {cI cJ : ClassId} {B : Nat} {w : px_W} {tys : List (ClassId × FieldType)} {Ts : List Cond} {own : String}
theorem px_get_W (hx : p.tables.exec = Jvm.exec) (hb : c.code = cc) (hts : ∀ w ∈ Ts, w.before args s = true) (hown : s.vm.findClass own = some m.cls) (hK : va_K D cl tys s) {r : vw_C} {ci k index a : Nat} (hc : cl[ci]? = some r) (hr : px_okK Ts r) (hk : k < r.2.2) (hlink : Cond.fieldLink own index (r.2.1 k).1 (r.2.1 k).2.1 (r.2.1 k).2.2.1 ∈ Ts) {fs : List Value} (he : px_at cl ad D cI cJ a (.inr (.inr (ci, fs))) H) {v : Value} (hv : fs[k]? = some v) (hdg : decode cc pc = .ok (.getfield index, 3))
    (kk : W p l e R s m args below meth c H locs cells slots Q (F0 m (pc + 3) ls (px_tr ad v :: rest))) : W p l e R s m args below meth c H locs cells slots Q (F0 m pc ls (.ref a :: rest)) := by
  obtain ⟨r', h1, cell, q1, q2, q3, q4⟩ := he
  have hr' : r' = r := Option.some.inj (h1.symm.trans hc)
  subst hr'
  obtain ⟨hS, hfc, kC, hkC, hkind⟩ := hK.1 ci _ hc
  obtain ⟨cf, kf, fi, f, hi, hsl⟩ := hS k hk
  refine W.getf hx hb hown (hts _ hlink) hi (u_facts hfc hkC (u_lays hts hr.1 hk) hi).1 q1 (by rw [q3]; exact fun h => by cases h) (v := px_tr ad v) ?_ rfl rfl hdg kk
  rw [hsl, q4 k hk]
  simp [vp_V, hv]
theorem px_put_W (hx : p.tables.exec = Jvm.exec) (hb : c.code = cc) (hts : ∀ w ∈ Ts, w.before args s = true) (hown : s.vm.findClass own = some m.cls) (hK : va_K D cl tys s) {r : vw_C} {ci k index j : Nat} (hc : cl[ci]? = some r) (hr : px_okK Ts r) (hk : k < r.2.2) (hlink : Cond.fieldLink own index (r.2.1 k).1 (r.2.1 k).2.1 (r.2.1 k).2.2.1 ∈ Ts) {fs : List Value} (hH : px_H cl ad D cI cJ B w H) (he : w[j]? = some (.inr (.inr (ci, fs)))) {v : Value} (hl : k < fs.length) (hf : px_fit (px_ty r.2.1 k) v = true) (hfin : (r.2.1 k).2.2.2 = true → meth.name = "<init>" ∧ (r.2.1 k).1 = own) (hdg : decode cc pc = .ok (.putfield index, 3))
    (kk : ∀ (H1 : Heap) (f : Field), px_H cl ad D cI cJ B (w.set j (.inr (.inr (ci, fs.set k v)))) H1 → (∀ q, q < B → H1[q]? = H[q]?) → W p l e R s m args below meth c H1 (locs ++ [⟨B + j, f.slot⟩]) cells slots Q (F0 m (pc + 3) ls rest)) : W p l e R s m args below meth c H locs cells slots Q (F0 m pc ls (px_tr ad v :: .ref (B + j) :: rest)) := by
  obtain ⟨hn, hft⟩ := px_fit_ok ad hf
  have hap := va_apart (own := own) hts hr.1 (px_ty r.2.1) hr.2.1 hr.2.2.1 hK hc
  obtain ⟨r', h1, cell, q1, q2, q3, q4⟩ := hH.2 j _ he
  have hr' : r' = r := Option.some.inj (h1.symm.trans hc)
  subst hr'
  obtain ⟨hS, hfc, kC, hkC, hkind⟩ := hK.1 ci _ hc
  obtain ⟨cf, kf, fi, f, hi, hsl⟩ := hS k hk
  have hlay := hts _ (hr.1 _ (u_in_lay hk))
  have hst := (u_facts hfc hkC (u_lays hts hr.1 hk) hi).1
  have hd := hr.2.1 k hk
  have fin : ∀ H' : Heap, H'[B + j]? = some (cell.setSlot f.slot (px_tr ad v)) → H'.size = H.size → (∀ q, q ≠ B + j → H'[q]? = H[q]?) → W p l e R s m args below meth c H' (locs ++ [⟨B + j, f.slot⟩]) cells slots Q (F0 m (pc + 3) ls rest) := by
    intro H' e1 e2 e3
    refine kk H' f (hH.set he e2 e3 ⟨_, hc, ?_⟩) (fun q hq => e3 q (by omega))
    rw [hsl] at e1
    refine t_OB.to (V := updV (vp_V (fs.map (px_tr ad))) k (px_tr ad v)) ⟨_, e1, q2, q3, t_set q4 hap hk (px_tr ad v)⟩ (fun z _ => ?_)
    rw [vp_updV_set (by rw [List.length_map]; exact hl), List.map_set]
  unfold u_lay at hlay
  by_cases hf2 : (r'.2.1 k).2.2.2 = true
  · obtain ⟨hin2, hdecl⟩ := hfin hf2
    rw [if_pos hf2] at hlay
    have hcf : m.cls = cf := by
      obtain ⟨_, _, c', _, _, _, -, -, hf', -, -, -, hown2, -⟩ := Cond.laysFinal_spec hlay
      have e1 : c' = cf := by have := hi.symm.trans hf'; simp at this; exact this.1.symm
      rw [hdecl] at hown2
      rw [← e1]; exact Option.some.inj (hown.symm.trans hown2)
    have h6 := u_fits hfc hkC hkind (Or.inr hlay) hi hd hn hft
    exact W.putFinK hx hb hown (hts _ hlink) hi hst hcf hin2 (by rw [q2]; exact h6) q1 q3 (by rw [hsl]; exact k2_hasslot (q4 k hk)) rfl rfl hdg fin
  · rw [if_neg hf2] at hlay
    have h6 := u_store hfc hkC hkind hlay hi hd hn hft
    exact W.putK hx hb (f := f) ⟨hown, hts _ hlink, ⟨_, _, _, hi⟩, hst⟩ (by rw [q2]; exact h6) q1 q3 (by rw [hsl]; exact k2_hasslot (q4 k hk)) rfl rfl hdg fin
theorem px_iald_W (hx : p.tables.exec = Jvm.exec) (hb : c.code = cc) (hK : va_K D cl [(cI, .int), (cJ, .long)] s) {a : Nat} {ll : List Int32} (he : px_at cl ad D cI cJ a (.inl ll) H) {j : Int32} (hj : px_ix j ll.length = true) (hdg : decode cc pc = .ok (.iaload, 1))
    (kk : W p l e R s m args below meth c H locs cells slots Q (F0 m (pc + 1) ls (.int (ll.getD j.toNatClampNeg 0) :: rest))) : W p l e R s m args below meth c H locs cells slots Q (F0 m pc ls (.int j :: .ref a :: rest)) := by
  obtain ⟨hin, hlt⟩ := px_ix_in hj
  exact W.iald (v := .int (ll.getD j.toNatClampNeg 0)) hx hb he ((hK.2 0 _ rfl).1 ll.length (fun j => .int (ll.getD j 0))) (fun q => by cases q) (by show ¬ (j < 0 ∨ (arrV _ _ _).slots.size ≤ _); rw [arrV_size]; exact hin) (by show (arrV _ _ _).slots[_]? = _; rw [arrV_read _ _ hlt]) rfl rfl hdg kk
theorem px_lald_W (hx : p.tables.exec = Jvm.exec) (hb : c.code = cc) (hK : va_K D cl [(cI, .int), (cJ, .long)] s) {a : Nat} {ll : List Int64} (he : px_at cl ad D cI cJ a (.inr (.inl ll)) H) {j : Int32} (hj : px_ix j ll.length = true) (hdg : decode cc pc = .ok (.laload, 1))
    (kk : W p l e R s m args below meth c H locs cells slots Q (F0 m (pc + 1) ls (.long (ll.getD j.toNatClampNeg 0) :: rest))) : W p l e R s m args below meth c H locs cells slots Q (F0 m pc ls (.int j :: .ref a :: rest)) := by
  obtain ⟨hin, hlt⟩ := px_ix_in hj
  exact W.lald (v := .long (ll.getD j.toNatClampNeg 0)) hx hb he ((hK.2 1 _ rfl).1 ll.length (fun j => .long (ll.getD j 0))) (fun q => by cases q) (by show ¬ (j < 0 ∨ (arrV _ _ _).slots.size ≤ _); rw [arrV_size]; exact hin) (by show (arrV _ _ _).slots[_]? = _; rw [arrV_read _ _ hlt]) rfl rfl hdg kk
theorem px_iast_W (hx : p.tables.exec = Jvm.exec) (hb : c.code = cc) (hK : va_K D cl [(cI, .int), (cJ, .long)] s) (hH : px_H cl ad D cI cJ B w H) {k : Nat} {ll : List Int32} (he : w[k]? = some (.inl ll)) {j z : Int32} (hj : px_ix j ll.length = true) (hdg : decode cc pc = .ok (.iastore, 1))
    (kk : ∀ (H1 : Heap), px_H cl ad D cI cJ B (w.set k (.inl (ll.set j.toNatClampNeg z))) H1 → (∀ q, q < B → H1[q]? = H[q]?) → W p l e R s m args below meth c H1 (locs ++ [⟨B + k, j.toNatClampNeg⟩]) cells slots Q (F0 m (pc + 1) ls rest)) : W p l e R s m args below meth c H locs cells slots Q (F0 m pc ls (.int z :: .int j :: .ref (B + k) :: rest)) := by
  obtain ⟨hin, hlt⟩ := px_ix_in hj
  refine W.iast hx hb (hH.2 k _ he) ((hK.2 0 _ rfl).1 ll.length (fun j => .int (ll.getD j 0))) (fun q => by cases q) (by show ¬ (j < 0 ∨ (arrV _ _ _).slots.size ≤ _); rw [arrV_size]; exact hin) rfl rfl hdg fun H1 e1 z1 o1 => ?_
  refine kk H1 (hH.set he z1 o1 ?_) (fun q hq => o1 q (Nat.ne_of_lt (Nat.lt_of_lt_of_le hq (Nat.le_add_right B k))))
  show H1[B + k]? = some (vp_cell _ _)
  rw [e1, px_cell_set hlt]
theorem px_last_W (hx : p.tables.exec = Jvm.exec) (hb : c.code = cc) (hK : va_K D cl [(cI, .int), (cJ, .long)] s) (hH : px_H cl ad D cI cJ B w H) {k : Nat} {ll : List Int64} (he : w[k]? = some (.inr (.inl ll))) {j : Int32} {z : Int64} (hj : px_ix j ll.length = true) (hdg : decode cc pc = .ok (.lastore, 1))
    (kk : ∀ (H1 : Heap), px_H cl ad D cI cJ B (w.set k (.inr (.inl (ll.set j.toNatClampNeg z)))) H1 → (∀ q, q < B → H1[q]? = H[q]?) → W p l e R s m args below meth c H1 (locs ++ [⟨B + k, j.toNatClampNeg⟩]) cells slots Q (F0 m (pc + 1) ls rest)) : W p l e R s m args below meth c H locs cells slots Q (F0 m pc ls (.long z :: .int j :: .ref (B + k) :: rest)) := by
  obtain ⟨hin, hlt⟩ := px_ix_in hj
  refine W.last hx hb (hH.2 k _ he) ((hK.2 1 _ rfl).1 ll.length (fun j => .long (ll.getD j 0))) (fun q => by cases q) (by show ¬ (j < 0 ∨ (arrV _ _ _).slots.size ≤ _); rw [arrV_size]; exact hin) rfl rfl hdg fun H1 e1 z1 o1 => ?_
  refine kk H1 (hH.set he z1 o1 ?_) (fun q hq => o1 q (Nat.ne_of_lt (Nat.lt_of_lt_of_le hq (Nat.le_add_right B k))))
  show H1[B + k]? = some (vp_cell _ _)
  rw [e1, px_cell_setL hlt]
theorem px_alen_W (hx : p.tables.exec = Jvm.exec) (hb : c.code = cc) (hK : va_K D cl [(cI, .int), (cJ, .long)] s) {a : Nat} {ll : List Int32} (he : px_at cl ad D cI cJ a (.inl ll) H) (hdg : decode cc pc = .ok (.arraylength, 1))
    (kk : W p l e R s m args below meth c H locs cells slots Q (F0 m (pc + 1) ls (.int (Int32.ofNat ll.length) :: rest))) : W p l e R s m args below meth c H locs cells slots Q (F0 m pc ls (.ref a :: rest)) := by
  exact W.alen (n := Int32.ofNat ll.length) hx hb he ((hK.2 0 _ rfl).1 ll.length (fun j => .int (ll.getD j 0))) (by show (arrV _ _ _).slots.size.toInt32 = _; rw [arrV_size]) rfl rfl hdg kk
theorem px_new_W (hx : p.tables.exec = Jvm.exec) (hb : c.code = cc) (hts : ∀ w ∈ Ts, w.before args s = true) (hown : s.vm.findClass own = some m.cls) (hK : va_K D cl tys s) (hH : px_H cl ad D cI cJ B w H) {r : vw_C} {ci index : Nat} (hc : cl[ci]? = some r) (hr : px_okK Ts r) (hlink : Cond.classLink own index r.1 ∈ Ts) (hcells : cells + 1 ≤ R.cells) (hslots : slots + r.2.2 ≤ R.slots) (hdg : decode cc pc = .ok (.new index, 3))
    (kk : ∀ (H1 : Heap), px_H cl ad D cI cJ B (w ++ [.inr (.inr (ci, (List.range r.2.2).map (fun j => defaultValue (px_ty r.2.1 j))))]) H1 → (∀ q, q < B → H1[q]? = H[q]?) → W p l e R s m args below meth c H1 locs (cells + 1) (slots + r.2.2) Q (F0 m (pc + 3) ls (.ref (B + w.length) :: rest))) : W p l e R s m args below meth c H locs cells slots Q (F0 m pc ls rest) := by
  have hKn := hK.1 ci _ hc
  refine W.newcK hx hb hown (hts _ hlink) (hts _ hr.2.2.2.1) (hts _ hr.2.2.2.2) rfl hdg hcells hslots hKn.2.1 hH.1 fun H1 kC hkC e1 z1 o1 => ?_
  refine kk H1 (hH.push (by rw [z1, hH.1]) (fun q hq => o1 q (by rw [← hH.1]; exact hq)) ⟨r, hc, ?_⟩) (fun q hq => o1 q (by omega))
  rw [← hH.1] at e1
  refine (u_born (px_ty r.2.1) hts hr.1 hKn hkC e1 hr.2.1).to (fun z hz => ?_)
  have hzl : z < (List.range r.2.2).length := by rw [List.length_range]; exact hz
  simp [vp_V, px_tr_def, hz]
theorem px_newi_W (hx : p.tables.exec = Jvm.exec) (hb : c.code = cc) (harr : (Cond.arrayClass .int).before args s = true) (hK : va_K D cl [(cI, .int), (cJ, .long)] s) (hH : px_H cl ad D cI cJ B w H) {n : Int32} (hn : ¬ n < 0) (hle : n.toNatClampNeg ≤ 100000) (hcells : cells + 1 ≤ R.cells) (hslots : slots + n.toNatClampNeg ≤ R.slots) (hdg : decode cc pc = .ok (.newarray .int, 2))
    (kk : ∀ (H1 : Heap), px_H cl ad D cI cJ B (w ++ [.inl (List.replicate n.toNatClampNeg 0)]) H1 → (∀ q, q < B → H1[q]? = H[q]?) → W p l e R s m args below meth c H1 locs (cells + 1) (slots + n.toNatClampNeg) Q (F0 m (pc + 2) ls (.ref (B + w.length) :: rest))) : W p l e R s m args below meth c H locs cells slots Q (F0 m pc ls (.int n :: rest)) := by
  refine va_newaK (atype := .int) hx hb harr rfl hdg rfl hn rfl (by show n.toNatClampNeg * 4 ≤ _; omega) hcells hslots hH.1 fun H1 cA e1 z1 o1 _ hNm => ?_
  have hcA : cA = cI := Option.some.inj (hNm.symm.trans (hK.2 0 _ rfl).2)
  subst hcA
  refine kk H1 (hH.push (by rw [z1, hH.1]) (fun q hq => o1 q (by rw [← hH.1]; exact hq)) ?_) (fun q hq => o1 q (by omega))
  show H1[H.size]? = some (vp_cell _ _)
  rw [hH.1, e1, vp_cell_i, List.length_replicate]
  congr 2
  funext j
  rw [List.getD_eq_getElem?_getD, List.getElem?_replicate]
  split <;> rfl
theorem px_newl_W (hx : p.tables.exec = Jvm.exec) (hb : c.code = cc) (harr : (Cond.arrayClass .long).before args s = true) (hK : va_K D cl [(cI, .int), (cJ, .long)] s) (hH : px_H cl ad D cI cJ B w H) {n : Int32} (hn : ¬ n < 0) (hle : n.toNatClampNeg ≤ 100000) (hcells : cells + 1 ≤ R.cells) (hslots : slots + n.toNatClampNeg ≤ R.slots) (hdg : decode cc pc = .ok (.newarray .long, 2))
    (kk : ∀ (H1 : Heap), px_H cl ad D cI cJ B (w ++ [.inr (.inl (List.replicate n.toNatClampNeg 0))]) H1 → (∀ q, q < B → H1[q]? = H[q]?) → W p l e R s m args below meth c H1 locs (cells + 1) (slots + n.toNatClampNeg) Q (F0 m (pc + 2) ls (.ref (B + w.length) :: rest))) : W p l e R s m args below meth c H locs cells slots Q (F0 m pc ls (.int n :: rest)) := by
  refine va_newaK (atype := .long) hx hb harr rfl hdg rfl hn rfl (by show n.toNatClampNeg * 8 ≤ _; omega) hcells hslots hH.1 fun H1 cA e1 z1 o1 _ hNm => ?_
  have hcA : cA = cJ := Option.some.inj (hNm.symm.trans (hK.2 1 _ rfl).2)
  subst hcA
  refine kk H1 (hH.push (by rw [z1, hH.1]) (fun q hq => o1 q (by rw [← hH.1]; exact hq)) ?_) (fun q hq => o1 q (by omega))
  show H1[H.size]? = some (vp_cell _ _)
  rw [hH.1, e1, vp_cell_l, List.length_replicate]
  congr 2
  funext j
  rw [List.getD_eq_getElem?_getD, List.getElem?_replicate]
  split <;> rfl
theorem px_copy_W (hx : p.tables.exec = Jvm.exec) (hb : c.code = cc) (hml : c.maxLocals = ls.size) {index : Nat} (hown : s.vm.findClass own = some m.cls) (hlink : (Cond.methodLink own index arraycopyName).before args s = true) (hnat : (Cond.native arraycopyName).before args s = true) (hstat : (Cond.static arraycopyName).before args s = true) (hini : (Cond.initialized "java/lang/System").before args s = true)
    (hK : va_K D cl [(cI, .int), (cJ, .long)] s) (hH : px_H cl ad D cI cJ B w H) {k0 k1 : Nat} {la lb : List Int32} (ha0 : w[k0]? = some (.inl la)) (ha1 : w[k1]? = some (.inl lb)) {sp dp n : Int32} (h1 : ¬ sp < 0) (h2 : ¬ dp < 0) (h3 : ¬ n < 0) (h4 : sp.toNatClampNeg + n.toNatClampNeg ≤ la.length) (h5 : dp.toNatClampNeg + n.toNatClampNeg ≤ lb.length)
    (hframes : 1 ≤ R.frames) (hlocals : (rest.map fun v => v.category).sum + 18 ≤ R.locals) (hdg : decode cc pc = .ok (.invokestatic index, 3))
    (kk : ∀ (H1 : Heap) (locs1 : List Loc), px_H cl ad D cI cJ B (w.set k1 (.inl (px_cpy la lb sp.toNatClampNeg dp.toNatClampNeg n.toNatClampNeg))) H1 → (∀ q, q < B → H1[q]? = H[q]?) → (∀ q ∈ locs1, q ∈ locs ∨ q.base = B + k1) → W p l e R s m args below meth c H1 locs1 cells slots Q (F0 m (pc + 3) ls rest)) : W p l e R s m args below meth c H locs cells slots Q (F0 m pc ls (.int n :: .int dp :: .ref (B + k1) :: .int sp :: .ref (B + k0) :: rest)) := by
  have nn : ∀ z : Int32, ¬ z < 0 → z.toInt = (z.toNatClampNeg : Int) := by
    intro z hz
    have hz0 : (0 : Int) ≤ z.toInt := by
      have := Int32.not_lt.mp hz
      simpa using Int32.le_iff_toInt_le.mp this
    show z.toInt = ((z.toInt.toNat : Nat) : Int)
    omega
  have hnw : nativeFrameWords "java/lang/System" "arraycopy" 5 = 7 := by decide +kernel
  intro T hT X
  have hc0 : H[B + k0]? = some (vp_cell cI (la.length, .inl (fun j => la.getD j 0))) := hH.2 k0 _ ha0
  have hc1 : H[B + k1]? = some (vp_cell cI (lb.length, .inl (fun j => lb.getD j 0))) := hH.2 k1 _ ha1
  obtain ⟨-, k0', hk0, cm0, hkk0⟩ := (hK.2 0 _ rfl).1 la.length (fun j => .int (la.getD j 0))
  obtain ⟨-, k1', hk1, cm1, hkk1⟩ := (hK.2 0 _ rfl).1 lb.length (fun j => .int (lb.getD j 0))
  obtain ⟨vm', X', step⟩ := X.arraycopy hx hown hlink hnat hstat hini (src := B + k0) (dst := B + k1) (cs := vp_cell cI (la.length, .inl (fun j => la.getD j 0))) (cd := vp_cell cI (lb.length, .inl (fun j => lb.getD j 0))) (srcPos := sp) (destPos := dp) (n := n) (by rw [hT]; exact hc0) (by rw [hT]; exact hc1)
    (fun _ h => by cases h) (fun _ h => by cases h) (fun h => by cases h) (fun h => by cases h) hk0 hk1 hkk0 hkk1 (by simp [refKind]) h1 h2 h3
    (by rw [nn sp h1, nn n h3]; show ¬ _ > ((arrV cI la.length (fun j => .int (la.getD j 0))).slots.size : Int); rw [arrV_size]; omega)
    (by rw [nn dp h2, nn n h3]; show ¬ _ > ((arrV cI lb.length (fun j => .int (lb.getD j 0))).slots.size : Int); rw [arrV_size]; omega)
    (fun vm₁ _ i hi => by
      have e : (vp_cell cI (la.length, .inl (fun j => la.getD j 0))).slots.getD (sp.toNatClampNeg + i) .null = .int (la.getD (sp.toNatClampNeg + i) 0) := by
        show (arrV cI la.length (fun j => .int (la.getD j 0))).slots.getD _ _ = _
        rw [Array.getD_eq_getD_getElem?, arrV_read _ _ (by omega)]
        rfl
      refine ⟨?_, ?_⟩
      · rw [e]
        rfl
      · rw [e]
        exact trivial)
    (g := F0 m pc ls (.int n :: .int dp :: .ref (B + k1) :: .int sp :: .ref (B + k0) :: rest)) rfl (by rw [hml]) (rest := rest) rfl (by rw [hb]; exact hdg) hframes (by show 2 * 0 + _ + (nativeFrameWords "java/lang/System" "arraycopy" 5 + 11) ≤ _; rw [hnw]; omega)
  have e1 : copied (vp_cell cI (la.length, .inl (fun j => la.getD j 0))) (vp_cell cI (lb.length, .inl (fun j => lb.getD j 0))) sp dp n = vp_cell cI ((px_cpy la lb sp.toNatClampNeg dp.toNatClampNeg n.toNatClampNeg).length, .inl (fun j => (px_cpy la lb sp.toNatClampNeg dp.toNatClampNeg n.toNatClampNeg).getD j 0)) := by
    have e0 : copied (vp_cell cI (la.length, .inl (fun j => la.getD j 0))) (vp_cell cI (lb.length, .inl (fun j => lb.getD j 0))) sp dp n = vp_cell cI (lb.length, .inl (va_cpy (fun j => la.getD j 0) (fun j => lb.getD j 0) sp.toNatClampNeg dp.toNatClampNeg n.toNatClampNeg)) := va_copied (fun z => .int z) cI cI (fun j => la.getD j 0) (fun j => lb.getD j 0) h4
    rw [e0, px_cpy_len h4 h5]
    congr 3
    funext j
    exact (px_cpy_at h4 h5 j).symm
  rw [e1] at X' step
  have hl : B + k1 < H.size := (Array.getElem?_eq_some_iff.mp hc1).1
  generalize hcell : vp_cell cI ((px_cpy la lb sp.toNatClampNeg dp.toNatClampNeg n.toNatClampNeg).length, .inl (fun j => (px_cpy la lb sp.toNatClampNeg dp.toNatClampNeg n.toNatClampNeg).getD j 0)) = cell1 at X' step
  have hheap : ((T.setVm vm').setCell (B + k1) cell1).heap = H.setIfInBounds (B + k1) cell1 := by rw [← hT]; rfl
  have oq : ∀ q : Nat, q ≠ B + k1 → (H.setIfInBounds (B + k1) cell1)[q]? = H[q]? := fun q hq => by simp [Array.getElem?_setIfInBounds, Ne.symm hq]
  have self : (H.setIfInBounds (B + k1) cell1)[B + k1]? = some cell1 := by simp [Array.getElem?_setIfInBounds, hl]
  obtain ⟨t, a1, b1⟩ := kk _ _ (hH.set ha1 (by simp) oq (show (H.setIfInBounds (B + k1) cell1)[B + k1]? = some _ by rw [self, hcell])) (fun q hq => oq q (by omega)) (fun q hq => by
      rcases List.mem_append.mp hq with h | h
      · exact Or.inl h
      · obtain ⟨z, -, hz⟩ := List.mem_map.mp h
        rw [← hz]
        exact Or.inr rfl) _ hheap X'
  exact ⟨t, step t a1, b1⟩
end PX2

end
