noncomputable section
/-! THE CLAIM OUT OF ONE WALK OF THE LAW'S BODY. Your part is whole_start (and what it stands on); all else here is the same for every law, but numbers. -/
def R_law : String := "HalfBoatsLaw"
def lw_P (b : Addr) (xs : List Int32) (args : Array Value) (s : State) : Prop := args = #[.ref b] ∧ s.IntsAt b xs ∧ xs.length ≤ 3072 ∧ (Jvm.Cond.and given_1 narrow_1).before args s = true
def lw_Q (_ : Array Value) (s : State) (o : Outcome) (t : State) : Prop := o = .returned (some (.int 1)) ∧ Framed s o t [] 600000 7302250
def lw_Z (below : List Frame) (a : Array Value) (s : State) : State → Prop := fun t => ∃ o, t.status = .running ∧ Ended t below o ∧ lw_Q a s o t
/-- the law's own end, with 1 on the stack, nothing written that was there before, its room as the claim has it -/
theorem lw_ret {p : Program} {l : Launch} {e : Env} {s : State} {m : MethodId} {below : List Frame} {meth : Method} {c : Code} {b : Nat} (hx : p.tables.exec = Jvm.exec) (hb : c.code = code) (hr : meth.sig.returnType = ret) (hlocks : meth.locks = false) {pc : Nat} {H : Heap} {ls : Array Slot} (hdg : decode code pc = .ok (.ireturn, 1)) : W p l e room_1 s m #[Value.ref b] below meth c H [] 600000 7302250 (lw_Z below #[Value.ref b] s) (F0 m pc ls [.int 1]) := by
  intro T hT X
  obtain ⟨fs, hret, hrun, hended, hW, hframe⟩ := X.leave (v := some (.int 1)) (hlocks := hlocks) (fun h => by rw [hr] at h; cases h)
  have hmeth' : T.vm.method? m = some meth := X.method'
  refine ⟨T.setFrames fs, ?_, .returned (some (.int 1)), hrun, hended, rfl, ⟨_, rfl⟩, hW, hframe⟩
  jvm_step X.here [X.here.top, hx, hb, hdg, hmeth', hr, ret, narrow_b1]
  (try refine ⟨rfl, ?_⟩); (try refine ⟨rfl, ?_⟩)
  first | (intro acts; rw [hret _ acts rfl rfl rfl]) | rw [hret _ _ rfl rfl rfl]
  exact Steps.refl _
/-- what holds at the law's entry: the machine, the code, the tables' words (any of lw_tbl by 'hts w (by decide +kernel)'), the script of L ints xs at the cell b, what the Statement gives of the start (any of its parts by flat_of_before) -/
def lw_At (p : Program) (s : State) (m : MethodId) (meth : Method) (c : Code) (b L : Nat) (xs : Nat → Int32) : Prop :=
  p.tables.exec = Jvm.exec ∧ c.code = code ∧ meth.sig.returnType = ret ∧ c.maxLocals = 4 ∧ s.vm.findClass R_law = some m.cls ∧ (∀ w ∈ lw_tbl, w.before #[Value.ref b] s = true) ∧ va_X b L xs s s.heap ∧ b < s.heap.size ∧ meth.locks = false ∧ (Jvm.Cond.and given_1 narrow_1).before #[Value.ref b] s = true
def hb_ne : List (Nat × Nat × Nat) := [(0, 1, 21), (0, 2, 29), (1, 2, 30), (0, 3, 38), (1, 3, 39), (2, 3, 40), (0, 4, 48), (1, 4, 49), (2, 4, 50), (3, 4, 51), (0, 5, 59), (1, 5, 60), (2, 5, 61), (3, 5, 62), (4, 5, 63), (0, 6, 71), (1, 6, 72), (2, 6, 73), (3, 6, 74), (4, 6, 75), (5, 6, 76), (0, 7, 85), (1, 7, 86), (2, 7, 87), (3, 7, 88), (4, 7, 89), (5, 7, 90), (6, 7, 91), (0, 8, 100), (1, 8, 101), (2, 8, 102), (3, 8, 103), (4, 8, 104), (5, 8, 105), (6, 8, 106), (7, 8, 107), (0, 9, 117), (1, 9, 118), (2, 9, 119), (3, 9, 120), (4, 9, 121), (5, 9, 122), (6, 9, 123), (7, 9, 124), (8, 9, 125), (0, 10, 135), (1, 10, 136), (2, 10, 137), (3, 10, 138), (4, 10, 139), (5, 10, 140), (6, 10, 141), (7, 10, 142), (8, 10, 143), (9, 10, 144), (0, 11, 154), (1, 11, 155), (2, 11, 156), (3, 11, 157), (4, 11, 158), (5, 11, 159), (6, 11, 160), (7, 11, 161), (8, 11, 162), (9, 11, 163), (10, 11, 164), (0, 12, 174), (1, 12, 175), (2, 12, 176), (3, 12, 177), (4, 12, 178), (5, 12, 179), (6, 12, 180), (7, 12, 181), (8, 12, 182), (9, 12, 183), (10, 12, 184), (11, 12, 185), (0, 13, 195), (1, 13, 196), (2, 13, 197), (3, 13, 198), (4, 13, 199), (5, 13, 200), (6, 13, 201), (7, 13, 202), (8, 13, 203), (9, 13, 204), (10, 13, 205), (11, 13, 206), (12, 13, 207), (0, 14, 218), (1, 14, 219), (2, 14, 220), (3, 14, 221), (4, 14, 222), (5, 14, 223), (6, 14, 224), (7, 14, 225), (8, 14, 226), (9, 14, 227), (10, 14, 228), (11, 14, 229), (12, 14, 230), (13, 14, 231), (0, 15, 244), (1, 15, 245), (2, 15, 246), (3, 15, 247), (4, 15, 248), (5, 15, 249), (6, 15, 250), (7, 15, 251), (8, 15, 252), (9, 15, 253), (10, 15, 254), (11, 15, 255), (12, 15, 256), (13, 15, 257), (14, 15, 258)]
def hb_tm (i : Nat) : Term := .string "HalfBoats$Reader" (hb_SL.getD i ("", 0, 0)).2.1
def hb_flat : List Cond := flatC (Jvm.Cond.and given_1 narrow_1)
def hb_vt (i : Nat) : Term := .field (hb_tm i) "java/lang/String" "value" "[B"
theorem hb_t1 : (List.range 16).all (fun i => decide (Cond.exactly (hb_tm i) "java/lang/String" ∈ hb_flat)) = true := by decide +kernel
theorem hb_t2 : (List.range 16).all (fun i => decide (Cond.eq (.field (hb_tm i) "java/lang/String" "coder" "B") (.int 0) ∈ hb_flat)) = true := by decide +kernel
theorem hb_t3 : (List.range 16).all (fun i => decide (Cond.arrayOf (hb_vt i) .byte ∈ hb_flat)) = true := by decide +kernel
theorem hb_t4 : (List.range 16).all (fun i => decide (Cond.eq (.length (hb_vt i)) (.int (Int32.ofNat ((hb_lt.map List.length).getD i 0))) ∈ hb_flat)) = true := by decide +kernel
theorem hb_t5 : (List.range 16).all (fun i => (List.range ((hb_lt.map List.length).getD i 0)).all (fun j => decide (Cond.eq (.elem (hb_vt i) (.int (Int32.ofNat j))) (.int ((hb_lt.getD i []).getD j 0)) ∈ hb_flat))) = true := by decide +kernel
theorem hb_t6a : (hb_ne.take 40).all (fun q => decide (hb_flat[q.2.2]? = some (Cond.not (Cond.eq (hb_tm q.1) (hb_tm q.2.1))))) = true := by decide +kernel
theorem hb_t6b : ((hb_ne.drop 40).take 40).all (fun q => decide (hb_flat[q.2.2]? = some (Cond.not (Cond.eq (hb_tm q.1) (hb_tm q.2.1))))) = true := by decide +kernel
theorem hb_t6c : (hb_ne.drop 80).all (fun q => decide (hb_flat[q.2.2]? = some (Cond.not (Cond.eq (hb_tm q.1) (hb_tm q.2.1))))) = true := by decide +kernel
theorem hb_t6d : (List.range 16).all (fun i => (List.range 16).all (fun j => i == j || hb_ne.any (fun q => (q.1 == i && q.2.1 == j) || (q.1 == j && q.2.1 == i)))) = true := by decide +kernel
theorem hb_t6 : ∀ q ∈ hb_ne, Cond.not (Cond.eq (hb_tm q.1) (hb_tm q.2.1)) ∈ hb_flat := by
  intro q hq
  have h : q ∈ hb_ne.take 40 ++ ((hb_ne.drop 40).take 40 ++ hb_ne.drop 80) := by
    rw [show hb_ne.drop 80 = (hb_ne.drop 40).drop 40 by rw [List.drop_drop], List.take_append_drop, List.take_append_drop]
    exact hq
  rcases List.mem_append.mp h with h | h
  · exact List.mem_of_getElem? (of_decide_eq_true (List.all_eq_true.mp hb_t6a q h))
  · rcases List.mem_append.mp h with h | h
    · exact List.mem_of_getElem? (of_decide_eq_true (List.all_eq_true.mp hb_t6b q h))
    · exact List.mem_of_getElem? (of_decide_eq_true (List.all_eq_true.mp hb_t6c q h))
theorem hb_t7 : (List.range 16).all (fun i => decide ((hb_lt.map List.length).getD i 0 < 2 ^ 31)) = true := by decide +kernel
theorem hb_t8 : hb_SL.all (fun q => decide (q.1 = "HalfBoats$Reader") && (decide (q.2.2 < 16) && decide (hb_SL.getD q.2.2 ("", 0, 0) = q))) = true := by decide +kernel
theorem hb_t9 : hb_SL.all (fun q => tables_1.any (fun w => match w with
  | .stringRef o k _ => decide (o = q.1) && decide (k = q.2.1)
  | _ => false)) = true := by decide +kernel
theorem hb_all {f : Nat → Bool} (h : (List.range 16).all f = true) {i : Nat} (hi : i < 16) : f i = true := List.all_eq_true.mp h i (List.mem_range.mpr hi)
theorem hb_start (hO : px_okP px_Ts px_Ns hb_cl hb_SL hb_P) (hDL : (∀ q ∈ hb_m302.2.1, decode hb_m302.1.2.1 q.1 = .ok q.2) ∧ px_okL px_Ts px_Ns hb_cl hb_SL hb_P hb_m302.1.1.cls hb_m302.2.2)
    (hp : ∀ xs : List Int32, xs.length ≤ 3072 → ∃ (n : Nat) (r : Option Value × px_W × (Nat × Nat)), px_exec hb_cl hb_lt hb_P n 40 (some xs) hb_m302 0 [(0, .ref 0)] [] [] (600000, 7302250) = some r ∧ r.1 = some (.int 1))
    {p : Program} {e : Env} {s : State} {m : MethodId} {below : List Frame} {meth : Method} {c : Code} (l : Launch) {b L : Nat} {xs : Nat → Int32} (hL : L ≤ 3072) (C0 : lw_At p s m meth c b L xs) : W p l e room_1 s m #[Value.ref b] below meth c s.heap [] 0 0 (lw_Z below #[Value.ref b] s) (entryFrame m ([Value.ref b] : List Value).toArray 4) := by
  obtain ⟨hx, hb, hr, hml, hown, hts, hX, hbl, hlk, hgv⟩ := C0
  have hfl := flat_of_before _ hgv
  have htT : ∀ w ∈ px_Ts, w.before #[Value.ref b] s = true := fun w hw => hts w (List.mem_filter.mp hw).1
  have htt : ∀ w ∈ tables_1, w.before #[Value.ref b] s = true := fun w hw => hts w (List.mem_append_right _ hw)
  -- the made kinds
  have hD0 : ∀ ci : Nat, ∃ q : ClassId × (Nat → Nat), ∀ r : vw_C, hb_cl[ci]? = some r → u_Kn s r.1 r.2.1 r.2.2 q.1 q.2 := by
    intro ci
    cases hc : hb_cl[ci]? with
    | none => exact ⟨(0, fun _ => 0), fun r h => by cases h⟩
    | some r =>
      obtain ⟨h1, -, -, h4, -⟩ := hO.1 r (List.mem_of_getElem? hc)
      obtain ⟨cC, iS, hk⟩ := u_known htT h1 (htT _ h4)
      exact ⟨(cC, iS), fun r' h => by cases h; exact hk⟩
  obtain ⟨dd, hdd⟩ := Classical.axiomOfChoice hD0
  obtain ⟨cI, kI, compI, i1, i2, i3⟩ := Cond.arrayClass_spec (htT _ hO.2.2.1)
  obtain ⟨cJ, kJ, compJ, j1, j2, j3⟩ := Cond.arrayClass_spec (htT _ hO.2.2.2.1)
  have hK : va_K (fun i => (dd i).1, fun i => (dd i).2) hb_cl [(cI, .int), (cJ, .long)] s := by
    refine ⟨fun ci q hq => hdd ci q hq, fun k q hk => ?_⟩
    match k, hk with
    | 0, hk => cases hk; exact ⟨fun n z => ⟨fun k h => (by cases h), kI, i2, compI, i3⟩, i1⟩
    | 1, hk => cases hk; exact ⟨fun n z => ⟨fun k h => (by cases h), kJ, j2, compJ, j3⟩, j1⟩
    | k + 2, hk => simp at hk
  have hNs : ∀ x ∈ px_Ns, va_Nw x s := fun x hx => by
    obtain ⟨a, i, y, h, rfl⟩ := px_Ns_ok x hx
    exact va_Nw.of rfl (htt _ (List.mem_filter.mp hx).1)
  -- texts
  have hA : ∀ a : Nat, a < s.heap.size → ¬ s.heap.size ≤ a := fun a h z => absurd h (Nat.not_lt.mpr z)
  obtain ⟨adK, adV, hS, hev⟩ := vk_Sof (args := #[Value.ref b]) (s := s) (N := 16) (tm := hb_tm) (len := hb_lt.map List.length) (byt := hb_lt) (A := fun q => s.heap.size ≤ q)
    (fun i hi => of_decide_eq_true (hb_all hb_t7 hi)) (fun i hi => hfl _ (of_decide_eq_true (hb_all hb_t1 hi))) (fun i hi => hfl _ (of_decide_eq_true (hb_all hb_t2 hi))) (fun i hi => hfl _ (of_decide_eq_true (hb_all hb_t3 hi))) (fun i hi => hfl _ (of_decide_eq_true (hb_all hb_t4 hi)))
    (fun i hi j hj => hfl _ (of_decide_eq_true (List.all_eq_true.mp (hb_all hb_t5 hi) j (List.mem_range.mpr hj))))
    (fun i j hi hj hij => by
      have h1 := List.all_eq_true.mp (hb_all hb_t6d hi) j (List.mem_range.mpr hj)
      simp only [Bool.or_eq_true, beq_iff_eq] at h1
      rcases h1 with h1 | h1
      · exact absurd h1 hij
      · obtain ⟨q, hq, h2⟩ := List.any_eq_true.mp h1
        simp only [Bool.or_eq_true, Bool.and_eq_true, beq_iff_eq] at h2
        have h3 := hfl _ (hb_t6 q hq)
        rcases h2 with h2 | h2
        · rw [h2.1, h2.2] at h3
          exact Or.inl h3
        · rw [h2.1, h2.2] at h3
          exact Or.inr h3) hA
  obtain ⟨fv, hf1, hf2⟩ := Cond.isRef_spec (hfl (Cond.isRef (.static "jdk/internal/util/Preconditions" "SIOOBE_FORMATTER" "Ljava/util/function/BiFunction;")) (by decide +kernel))
  have hfm : ∃ fm : Option Nat, fv = va_rf fm := by
    cases fv with
    | null => exact ⟨none, rfl⟩
    | ref a => exact ⟨some a, rfl⟩
    | _ => simp [Value.isRef] at hf2
  obtain ⟨fm, rfl⟩ := hfm
  have hZ1 := va_Zof (args := #[Value.ref b]) (s := s) (A := fun q => s.heap.size ≤ q) (htt (.laysStatic "java/lang/String" "COMPACT_STRINGS" "Z") (by decide +kernel)) (htt (.initialized "java/lang/String") (by decide +kernel)) (va_eqi (hfl (Cond.eq (.static "java/lang/String" "COMPACT_STRINGS" "Z") (.int 1)) (by decide +kernel))) hA
  have hZ2 := va_Zof (args := #[Value.ref b]) (s := s) (A := fun q => s.heap.size ≤ q) (htt (.laysStatic "jdk/internal/util/Preconditions" "SIOOBE_FORMATTER" "Ljava/util/function/BiFunction;") (by decide +kernel)) (htt (.initialized "jdk/internal/util/Preconditions") (by decide +kernel)) hf1 hA
  -- where the pure references lie
  let ad : Nat → Option Nat := fun k => if k = 0 then some b else if k ≤ 16 then some (adK (k - 1)) else if k ≤ 32 then some (adV (k - 17)) else if k = 33 then fm else some (s.heap.size + (k - 64))
  have had : ∀ k, ad (64 + k) = some (s.heap.size + k) := fun k => by
    show (if 64 + k = 0 then some b else if 64 + k ≤ 16 then _ else if 64 + k ≤ 32 then _ else if 64 + k = 33 then _ else _) = _
    rw [if_neg (by omega), if_neg (by omega), if_neg (by omega), if_neg (by omega), show 64 + k - 64 = k by omega]
  have hXX : px_X hb_lt hb_SL ad s.heap.size s s.heap := by
    refine ⟨adK, adV, fun j hj => ⟨?_, ?_⟩, hS, fun q hq => ?_, hZ1, hZ2⟩
    · show (if 1 + j = 0 then some b else if 1 + j ≤ 16 then some (adK (1 + j - 1)) else _) = _
      rw [if_neg (by omega), if_pos (by omega), show 1 + j - 1 = j by omega]
    · show (if 17 + j = 0 then some b else if 17 + j ≤ 16 then _ else if 17 + j ≤ 32 then some (adV (17 + j - 17)) else _) = _
      rw [if_neg (by omega), if_neg (by omega), if_pos (by omega), show 17 + j - 17 = j by omega]
    · have h8 := List.all_eq_true.mp hb_t8 q hq
      have h9 := List.all_eq_true.mp hb_t9 q hq
      simp only [Bool.and_eq_true, decide_eq_true_eq] at h8
      obtain ⟨w, hw, hw2⟩ := List.any_eq_true.mp h9
      refine ⟨h8.2.1, ?_⟩
      split at hw2
      · rename_i o k tx
        simp only [Bool.and_eq_true, decide_eq_true_eq] at hw2
        obtain ⟨e1, e2⟩ := hw2
        subst e1; subst e2
        have h10 := hev q.2.2 h8.2.1
        refine ⟨tx, vk_R.of (htt _ hw) ?_⟩
        unfold hb_tm at h10
        rw [h8.2.2] at h10
        rw [h8.1]
        exact h10
      · cases hw2
  -- the script
  obtain ⟨n, r, hex, hr1⟩ := hp ((List.range L).map xs) (by rw [List.length_map, List.length_range]; exact hL)
  have hxl : ((List.range L).map xs).length = L := by rw [List.length_map, List.length_range]
  have hX2 : va_X b ((List.range L).map xs).length (fun j => ((List.range L).map xs).getD j 0) s s.heap := by
    obtain ⟨scr, g1, g2, g3, g4, g5⟩ := hX
    refine ⟨scr, g1, g2, g3, by rw [hxl]; exact g4, fun j hj => ?_⟩
    rw [hxl] at hj
    rw [g5 j hj]
    simp [hj]
  have hmo := px_mono _ _ _ _ _ _ _ _ _ _ hex
  have hl := lv_entry (([.ref 0] : List Value).map (px_tr ad)) (n := 4) (by rw [px_sl_tr]; decide)
  rw [px_args_tr] at hl
  have e0 : (([.ref 0] : List Value).map (px_tr ad)) = [Value.ref b] := rfl
  rw [← e0, lg_entry_eq]
  refine px_sim hO n 40 (some ((List.range L).map xs)) hb_m302 0 [(0, .ref 0)] [] [] (600000, 7302250) r hex hDL (fun i => (dd i).1, fun i => (dd i).2) cI cJ s.heap.size ad p l e room_1 s m _ below meth c s.heap [] 0 0 _ _ had ⟨hx, hb, hml, hr, hlk, fun z => absurd z (by decide), hown, htT, hK, hNs⟩ hl ⟨rfl, fun k x hk => by simp at hk⟩ (fun _ _ => rfl) (fun _ z => by cases z) (by decide) (by decide) (by show 0 + (600000 - _) ≤ 600000; omega) (by show 0 + (7302250 - _) ≤ 7302250; omega) (fun ys hys => by cases hys; exact ⟨b, rfl, hX2, hbl⟩) hXX ?_
  intro H1 ls1 pc1 i1' len1 locs1 cells1 slots1 a1 a2 a3 a4 a5 a6 a7
  rw [hr1] at a5 ⊢
  have hi : i1' = .ireturn ∧ len1 = 1 := by
    unfold px_s5 at a5
    split at a5
    · split at a5
      · split at a5
        · rename_i hc
          rename_i x _ _ _ hst
          exact ⟨rfl, hc.1⟩
        · cases a5
      · cases a5
    · split at a5
      · cases a5
      · cases a5
    · split at a5
      · cases a5
      · cases a5
    · cases a5
  obtain ⟨rfl, rfl⟩ := hi
  refine va_forget (fun q hq => a3 q hq) (W.widen (k := 600000) (n := 7302250) (by omega) (by omega) ?_)
  exact lw_ret hx hb hr hlk a4

end
