noncomputable section
/-! THE MACHINE'S HEAP AND THE PURE CELLS -/
def px_tr (ad : Nat → Option Nat) (v : Value) : Value := match v with
  | .ref k => va_rf (ad k)
  | v => v
theorem px_tr_cat (ad : Nat → Option Nat) (v : Value) : (px_tr ad v).category = v.category := by
  cases v with
  | ref k =>
    show (va_rf (ad k)).category = 1
    cases ad k <;> rfl
  | _ => rfl
theorem px_tr_sum (ad : Nat → Option Nat) (l : List Value) : ((l.map (px_tr ad)).map fun v => v.category).sum = (l.map fun v => v.category).sum := by
  rw [List.map_map]
  congr 1
  exact List.map_congr_left (fun v _ => px_tr_cat ad v)
theorem px_tr_def (ad : Nat → Option Nat) (t : FieldType) : px_tr ad (defaultValue t) = defaultValue t := by cases t <;> rfl
def px_lv (ad : Nat → Option Nat) (lv : List (Nat × Value)) : List (Nat × Value) := lv.map (fun q => (q.1, px_tr ad q.2))
theorem px_sto_tr (ad : Nat → Option Nat) (lv : List (Nat × Value)) (i : Nat) (v : Value) : (i, px_tr ad v) :: (px_lv ad lv).filter (fun q => !(q.1 == i) && !(q.1 + 1 == i && q.2.category == 2)) = px_lv ad (px_sto lv i v) := by
  unfold px_lv px_sto
  rw [List.map_cons, List.filter_map]
  congr 2
  apply List.filter_congr
  intro q _
  show (!(q.1 == i) && !(q.1 + 1 == i && (px_tr ad q.2).category == 2)) = _
  rw [px_tr_cat]
theorem px_args_tr (ad : Nat → Option Nat) : ∀ (as : List Value) (i : Nat), lv_args i (as.map (px_tr ad)) = px_lv ad (lv_args i as)
  | [], _ => rfl
  | v :: vs, i => by
    show (i, px_tr ad v) :: lv_args (if (px_tr ad v).category = 2 then i + 2 else i + 1) (vs.map (px_tr ad)) = _
    rw [px_tr_cat, px_args_tr ad vs]
    rfl
theorem px_sl_tr (ad : Nat → Option Nat) : ∀ (as : List Value), (lg_sl (as.map (px_tr ad))).length = (lg_sl as).length
  | [] => rfl
  | v :: vs => by
    have ih := px_sl_tr ad vs
    unfold lg_sl at ih ⊢
    rw [List.map_cons, List.flatMap_cons, List.flatMap_cons, List.length_append, List.length_append, ih, px_tr_cat]
    congr 1
    split <;> rfl
def px_at (cl : List vw_C) (ad : Nat → Option Nat) (D : va_G) (cI cJ : ClassId) (a : Nat) (e : px_E) (H : Heap) : Prop := match e with
  | .inl l => H[a]? = some (vp_cell cI (l.length, .inl (fun j => l.getD j 0)))
  | .inr (.inl l) => H[a]? = some (vp_cell cJ (l.length, .inr (.inl (fun j => l.getD j 0))))
  | .inr (.inr o) => ∃ r : vw_C, cl[o.1]? = some r ∧ t_OB a (D.1 o.1) r.2.2 (D.2 o.1) H (vp_V (o.2.map (px_tr ad)))
def px_H (cl : List vw_C) (ad : Nat → Option Nat) (D : va_G) (cI cJ : ClassId) (B : Nat) (w : px_W) (H : Heap) : Prop := H.size = B + w.length ∧ ∀ (k : Nat) (e : px_E), w[k]? = some e → px_at cl ad D cI cJ (B + k) e H
theorem px_at.kept {cl : List vw_C} {ad : Nat → Option Nat} {D : va_G} {cI cJ : ClassId} {a : Nat} {e : px_E} {H H1 : Heap} (h : px_at cl ad D cI cJ a e H) (hq : H1[a]? = H[a]?) : px_at cl ad D cI cJ a e H1 := by
  match e, h with
  | .inl l, h => exact hq.trans h
  | .inr (.inl l), h => exact hq.trans h
  | .inr (.inr o), ⟨r, h1, h2⟩ => exact ⟨r, h1, h2.kept hq⟩
theorem px_H.set {cl : List vw_C} {ad : Nat → Option Nat} {D : va_G} {cI cJ : ClassId} {B k : Nat} {w : px_W} {e0 e : px_E} {H H1 : Heap} (h : px_H cl ad D cI cJ B w H) (hk : w[k]? = some e0) (hz : H1.size = H.size) (ho : ∀ q, q ≠ B + k → H1[q]? = H[q]?) (he : px_at cl ad D cI cJ (B + k) e H1) : px_H cl ad D cI cJ B (w.set k e) H1 := by
  have hl := (List.getElem?_eq_some_iff.mp hk).1
  refine ⟨by rw [hz, h.1, List.length_set], fun j x hj => ?_⟩
  by_cases hjk : j = k
  · subst hjk
    rw [List.getElem?_set_self hl] at hj
    cases hj
    exact he
  · rw [List.getElem?_set_ne (Ne.symm hjk)] at hj
    exact (h.2 j x hj).kept (ho _ (by omega))
theorem px_H.push {cl : List vw_C} {ad : Nat → Option Nat} {D : va_G} {cI cJ : ClassId} {B : Nat} {w : px_W} {e : px_E} {H H1 : Heap} (h : px_H cl ad D cI cJ B w H) (hz : H1.size = H.size + 1) (ho : ∀ q, q < H.size → H1[q]? = H[q]?) (he : px_at cl ad D cI cJ H.size e H1) : px_H cl ad D cI cJ B (w ++ [e]) H1 := by
  refine ⟨by rw [hz, h.1, List.length_append]; simp; omega, fun j x hj => ?_⟩
  by_cases hl : j < w.length
  · rw [List.getElem?_append_left hl] at hj
    exact (h.2 j x hj).kept (ho _ (by rw [h.1]; omega))
  · rw [List.getElem?_append_right (by omega)] at hj
    have hz0 : j - w.length < 1 := (List.getElem?_eq_some_iff.mp hj).1
    have hj0 : j = w.length := by omega
    subst hj0
    rw [Nat.sub_self] at hj
    cases hj
    rw [← h.1]
    exact he
theorem px_getD_set {α : Type} {l : List α} {k : Nat} {z d : α} (hk : k < l.length) (j : Nat) : (l.set k z).getD j d = if j = k then z else l.getD j d := by
  rw [List.getD_eq_getElem?_getD, List.getD_eq_getElem?_getD]
  by_cases h : j = k
  · subst h
    rw [if_pos rfl, List.getElem?_set_self hk]
    rfl
  · rw [if_neg h, List.getElem?_set_ne (Ne.symm h)]
theorem px_cell_set {cA : ClassId} {l : List Int32} {k : Nat} {z : Int32} (hk : k < l.length) : (vp_cell cA (l.length, .inl (fun j => l.getD j 0))).setSlot k (.int z) = vp_cell cA ((l.set k z).length, .inl (fun j => (l.set k z).getD j 0)) := by
  rw [vp_cell_i, vp_cell_i, arrV_store, List.length_set]
  congr 1
  funext j
  rw [px_getD_set hk]
  unfold updV
  split <;> rfl
theorem px_cell_setL {cA : ClassId} {l : List Int64} {k : Nat} {z : Int64} (hk : k < l.length) : (vp_cell cA (l.length, .inr (.inl (fun j => l.getD j 0)))).setSlot k (.long z) = vp_cell cA ((l.set k z).length, .inr (.inl (fun j => (l.set k z).getD j 0))) := by
  rw [vp_cell_l, vp_cell_l, arrV_store, List.length_set]
  congr 1
  funext j
  rw [px_getD_set hk]
  unfold updV
  split <;> rfl
theorem px_cpy_len {a b : List Int32} {sp dp n : Nat} (h1 : sp + n ≤ a.length) (h2 : dp + n ≤ b.length) : (px_cpy a b sp dp n).length = b.length := by
  unfold px_cpy
  simp only [List.length_append, List.length_take, List.length_drop]
  omega
theorem px_cpy_at {a b : List Int32} {sp dp n : Nat} (h1 : sp + n ≤ a.length) (h2 : dp + n ≤ b.length) (j : Nat) : (px_cpy a b sp dp n).getD j 0 = va_cpy (fun j => a.getD j 0) (fun j => b.getD j 0) sp dp n j := by
  unfold px_cpy va_cpy
  simp only [List.getD_eq_getElem?_getD]
  have l1 : (b.take dp).length = dp := by rw [List.length_take]; omega
  have l2 : ((a.drop sp).take n).length = n := by rw [List.length_take, List.length_drop]; omega
  by_cases c1 : j < dp
  · rw [List.getElem?_append_left (by omega), if_neg (by omega), List.getElem?_take_of_lt c1]
  · by_cases c2 : j < dp + n
    · rw [List.getElem?_append_right (by omega), l1, List.getElem?_append_left (by omega), if_pos (by omega), List.getElem?_take_of_lt (by omega), List.getElem?_drop]
    · rw [List.getElem?_append_right (by omega), l1, List.getElem?_append_right (by omega), l2, if_neg (by omega), List.getElem?_drop]
      congr 2
      omega
theorem px_fit_ok {t : FieldType} {v : Value} (ad : Nat → Option Nat) (h : px_fit t v = true) : narrow t (px_tr ad v) = px_tr ad v ∧ fits t (px_tr ad v) = true := by
  cases v with
  | int x =>
    unfold px_fit at h
    simp only [Bool.and_eq_true, decide_eq_true_eq] at h
    exact h
  | ref a =>
    unfold px_fit px_rt at h
    show narrow t (va_rf (ad a)) = va_rf (ad a) ∧ fits t (va_rf (ad a)) = true
    cases t <;> first | (cases ad a <;> exact ⟨rfl, rfl⟩) | simp at h
  | _ => simp [px_fit] at h
/-! what the tables must say of a program -/
def px_okK (Ts : List Cond) (r : vw_C) : Prop := (∀ w ∈ u_ws r.1 r.2.1 r.2.2, w ∈ Ts) ∧ (∀ k, k < r.2.2 → parseFieldDescriptor (r.2.1 k).2.2.1 = some (px_ty r.2.1 k)) ∧ (∀ a, a < r.2.2 → ∀ b, b < r.2.2 → a ≠ b → (r.2.1 a).2.1 ≠ (r.2.1 b).2.1) ∧ Cond.instantiable r.1 r.2.2 ∈ Ts ∧ Cond.initialized r.1 ∈ Ts
def px_okF (Ts : List Cond) (cl : List vw_C) (own : String) (q : Nat × Nat × Nat) : Prop := ∃ r : vw_C, cl[q.2.1]? = some r ∧ q.2.2 < r.2.2 ∧ Cond.fieldLink own q.1 (r.2.1 q.2.2).1 (r.2.1 q.2.2).2.1 (r.2.1 q.2.2).2.2.1 ∈ Ts
def px_okC (Ts Ns : List Cond) (P : List px_M) (own : String) (q : Nat × Nat × Nat) : Prop :=
  (q.2.1 = 6 → Cond.methodLink own q.1 arraycopyName ∈ Ts ∧ Cond.native arraycopyName ∈ Ts ∧ Cond.static arraycopyName ∈ Ts ∧ Cond.initialized "java/lang/System" ∈ Ts) ∧
  (q.2.1 = 7 → Cond.methodLink own q.1 objectInit ∈ Ts ∧ Cond.instanceMethod objectInit ∈ Ts ∧ Cond.code objectInit ⟨#[0xb1]⟩ 1 none ∈ Ts) ∧
  (∀ M : px_M, P[q.2.2]? = some M → (q.2.1 = 0 → Cond.methodLink own q.1 M.1.1 ∈ Ts ∧ Cond.instanceMethod M.1.1 ∈ Ts ∧ Cond.selects M.1.1.cls M.1.1 M.1.1 ∈ Ts) ∧
    (q.2.1 = 1 → Cond.methodLink own q.1 M.1.1 ∈ Ts ∧ Cond.static M.1.1 ∈ Ts) ∧
    (q.2.1 = 2 → Cond.methodLink own q.1 M.1.1 ∈ Ts ∧ M.1.1.name = "<init>" ∧ Cond.instanceMethod M.1.1 ∈ Ts ∧ M.1.2.2.2.1 = none) ∧
    (q.2.1 = 4 → Cond.methodLinkNest own q.1 M.1.1 "HalfBoats" ∈ Ns ∧ Cond.static M.1.1 ∈ Ts) ∧
    (q.2.1 = 5 → Cond.methodLinkNest own q.1 M.1.1 "HalfBoats" ∈ Ns ∧ M.1.1.name = "<init>" ∧ Cond.instanceMethod M.1.1 ∈ Ts ∧ M.1.2.2.2.1 = none)) ∧
  (q.2.1 = 8 → Cond.methodLink own q.1 Lib.Math.max.name ∈ Ts ∧ Cond.static Lib.Math.max.name ∈ Ts ∧ Cond.initialized "java/lang/Math" ∈ Ts ∧ Cond.code Lib.Math.max.name Lib.Math.max.code 2 (some .int) ∈ Ts) ∧
  (q.2.1 = 9 → Cond.methodLink own q.1 Lib.Math.min.name ∈ Ts ∧ Cond.static Lib.Math.min.name ∈ Ts ∧ Cond.initialized "java/lang/Math" ∈ Ts ∧ Cond.code Lib.Math.min.name Lib.Math.min.code 2 (some .int) ∈ Ts) ∧
  (q.2.1 = 10 → Cond.methodLink own q.1 Lib.Math.abs.name ∈ Ts ∧ Cond.static Lib.Math.abs.name ∈ Ts ∧ Cond.initialized "java/lang/Math" ∈ Ts ∧ Cond.code Lib.Math.abs.name Lib.Math.abs.code 1 (some .int) ∈ Ts)
def px_okL (Ts Ns : List Cond) (cl : List vw_C) (SL : List (String × Nat × Nat)) (P : List px_M) (own : String) (L : px_L) : Prop :=
  (∀ q ∈ L.1, px_okF Ts cl own q) ∧ (∀ q ∈ L.2.1, px_okC Ts Ns P own q) ∧ (∀ q ∈ L.2.2.1, ∃ r : vw_C, cl[q.2]? = some r ∧ Cond.classLink own q.1 r.1 ∈ Ts) ∧ (∀ q ∈ L.2.2.2.1, Cond.constant own q.1 q.2 ∈ Ts) ∧ (∀ q ∈ L.2.2.2.2.1, Cond.constantLong own q.1 q.2 ∈ Ts) ∧ (∀ q ∈ L.2.2.2.2.2.1, (own, q.1, q.2) ∈ SL) ∧
  (∀ q ∈ L.2.2.2.2.2.2.1, (q.2 = 0 → Cond.fieldLink own q.1 "java/lang/String" "COMPACT_STRINGS" "Z" ∈ Ts) ∧ (q.2 = 1 → Cond.fieldLink own q.1 "jdk/internal/util/Preconditions" "SIOOBE_FORMATTER" "Ljava/util/function/BiFunction;" ∈ Ts)) ∧
  ∀ q ∈ L.2.2.2.2.2.2.2, (q.2 = 0 → Cond.fieldLink own q.1 "java/lang/String" "value" "[B" ∈ Ts) ∧ (q.2 = 1 → Cond.fieldLink own q.1 "java/lang/String" "coder" "B" ∈ Ts)
def px_okM (Ts Ns : List Cond) (cl : List vw_C) (SL : List (String × Nat × Nat)) (P : List px_M) (M : px_M) : Prop :=
  (Cond.code M.1.1 M.1.2.1 M.1.2.2.1 M.1.2.2.2.1 ∈ Ts ∧ plainName M.1.1.cls = true ∧ Cond.initialized M.1.1.cls ∈ Ts ∧ (M.1.1.cls ≠ "java/lang/invoke/MethodHandle" ∧ M.1.1.cls ≠ "java/lang/invoke/VarHandle" ∧ (parseMethodDescriptor M.1.1.desc).map (fun d => d.parameters.length) = some M.1.2.2.2.2) ∧ M.1.2.2.1 ≤ 64) ∧
  (∀ q ∈ M.2.1, decode M.1.2.1 q.1 = .ok q.2) ∧ px_okL Ts Ns cl SL P M.1.1.cls M.2.2
def px_okP (Ts Ns : List Cond) (cl : List vw_C) (SL : List (String × Nat × Nat)) (P : List px_M) : Prop :=
  (∀ r ∈ cl, px_okK Ts r) ∧ (∀ M ∈ P, px_okM Ts Ns cl SL P M) ∧ Cond.arrayClass .int ∈ Ts ∧ Cond.arrayClass .long ∈ Ts ∧ (∀ w ∈ Ts, goodWord w = true) ∧ ∀ x ∈ Ns, ∃ (a : String) (i : Nat) (y : MethodName) (h : String), x = Cond.methodLinkNest a i y h
/-- what holds all through a method's body -/
def px_Env (Ts Ns : List Cond) (cl : List vw_C) (D : va_G) (cI cJ : ClassId) (h : px_Hd) (p : Program) (s : State) (m : MethodId) (args : Array Value) (meth : Method) (c : Code) : Prop :=
  p.tables.exec = Jvm.exec ∧ c.code = h.2.1 ∧ c.maxLocals = h.2.2.1 ∧ meth.sig.returnType = h.2.2.2.1 ∧ meth.locks = false ∧ (h.1.name = "<init>" → meth.name = "<init>") ∧ s.vm.findClass h.1.cls = some m.cls ∧ (∀ w ∈ Ts, w.before args s = true) ∧ va_K D cl [(cI, .int), (cJ, .long)] s ∧ ∀ x ∈ Ns, va_Nw x s
/-- texts and statics, which nobody writes -/
def px_X (lt : List (List Int32)) (SL : List (String × Nat × Nat)) (ad : Nat → Option Nat) (B : Nat) (U : State) (H : Heap) : Prop := ∃ (adK adV : Nat → Nat), (∀ j, j < 16 → ad (1 + j) = some (adK j) ∧ ad (17 + j) = some (adV j)) ∧ vk_S 16 (lt.map List.length) lt adK adV (fun q => B ≤ q) U H ∧ (∀ q ∈ SL, q.2.2 < 16 ∧ ∃ tx, vk_R q.1 q.2.1 tx (adK q.2.2) U) ∧ va_Z "java/lang/String" "COMPACT_STRINGS" "Z" (.int 1) (fun q => B ≤ q) U H ∧ va_Z "jdk/internal/util/Preconditions" "SIOOBE_FORMATTER" "Ljava/util/function/BiFunction;" (va_rf (ad 33)) (fun q => B ≤ q) U H
theorem px_X.to {lt : List (List Int32)} {SL : List (String × Nat × Nat)} {ad : Nat → Option Nat} {B : Nat} {u U : State} {H H1 : Heap} (hW : u.WarmedH U.vm) (hf : ∀ q, q < B → H1[q]? = H[q]?) (h : px_X lt SL ad B u H) : px_X lt SL ad B U H1 := by
  obtain ⟨adK, adV, h1, h2, h3, h4, h5⟩ := h
  have hk : ∀ a : Nat, a < H.size → ¬ B ≤ a → H1[a]? = H[a]? := fun a _ z => hf a (Nat.not_le.mp z)
  exact ⟨adK, adV, h1, (h2.moved hW.alike).kept hk, fun q hq => ⟨(h3 q hq).1, (h3 q hq).2.elim (fun tx z => ⟨tx, z.warm hW⟩)⟩, (h4.moved hW.alike).kept hk, (h5.moved hW.alike).kept hk⟩
theorem px_X.same {lt : List (List Int32)} {SL : List (String × Nat × Nat)} {ad : Nat → Option Nat} {B : Nat} {u U : State} {H : Heap} (hv : U.vm = u.vm) (h : px_X lt SL ad B u H) : px_X lt SL ad B U H := by
  obtain ⟨adK, adV, h1, h2, h3, h4, h5⟩ := h
  have ha : u.vm.Alike U.vm := by rw [hv]; exact Vm.Alike.refl _
  exact ⟨adK, adV, h1, h2.moved ha, fun q hq => ⟨(h3 q hq).1, (h3 q hq).2.elim (fun tx z => ⟨tx, z.same hv⟩)⟩, h4.moved ha, h5.moved ha⟩

end
