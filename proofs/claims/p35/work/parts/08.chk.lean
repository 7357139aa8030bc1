noncomputable section
/-! CHECKS BY PROGRAM of what the tables must say -/
def px_T (l : List (String × String × String × Bool)) : u_T := fun k => l.getD k ("", "", "", false)
def px_Ts : List Cond := lw_tbl.filter goodWord
def px_isN (w : Cond) : Bool := match w with
  | .methodLinkNest _ _ _ _ => true
  | _ => false
def px_Ns : List Cond := tables_1.filter px_isN
theorem px_Ns_ok : ∀ x ∈ px_Ns, ∃ (a : String) (i : Nat) (y : MethodName) (h : String), x = Cond.methodLinkNest a i y h := by
  intro x hx
  have h := (List.mem_filter.mp hx).2
  unfold px_isN at h
  split at h
  · exact ⟨_, _, _, _, rfl⟩
  · cases h
theorem px_Ts_good : ∀ w ∈ px_Ts, goodWord w = true := fun w hw => (List.mem_filter.mp hw).2
def px_nth {α : Type} (l : List α) (n : Nat) : Option α := List.rec (motive := fun _ => Nat → Option α) (fun _ => none) (fun a _ ih n => cond (Nat.beq n 0) (some a) (ih (Nat.sub n 1))) l n
theorem px_nth_ok {α : Type} : ∀ (l : List α) (n : Nat), px_nth l n = l[n]?
  | [], _ => rfl
  | a :: r, 0 => rfl
  | a :: r, n + 1 => by
    show px_nth r n = r[n]?
    exact px_nth_ok r n
def px_wd (k : Nat) (w : Cond) : Bool := goodWord w && decide (px_nth lw_tbl k = some w)
theorem px_wd_in {k : Nat} {w : Cond} (h : px_wd k w = true) : w ∈ px_Ts := by
  unfold px_wd at h
  simp only [Bool.and_eq_true, decide_eq_true_eq] at h
  have h1 := h.2
  rw [px_nth_ok] at h1
  exact List.mem_filter.mpr ⟨List.mem_of_getElem? h1, h.1⟩
def px_wn (k : Nat) (w : Cond) : Bool := decide (px_nth px_Ns k = some w)
theorem px_wn_in {k : Nat} {w : Cond} (h : px_wn k w = true) : w ∈ px_Ns := by
  have h1 : px_nth px_Ns k = some w := of_decide_eq_true h
  rw [px_nth_ok] at h1
  exact List.mem_of_getElem? h1
def px_all2 {α β : Type} (f : α → β → Bool) : List α → List β → Bool
  | [], _ => true
  | a :: l, b :: m => f a b && px_all2 f l m
  | _ :: _, [] => false
theorem px_all2_mem {α β : Type} {f : α → β → Bool} : ∀ {l : List α} {m : List β}, px_all2 f l m = true → ∀ a ∈ l, ∃ b, f a b = true
  | [], _, _, _, ha => absurd ha List.not_mem_nil
  | x :: l, [], h, _, _ => by simp [px_all2] at h
  | x :: l, b :: m, h, a, ha => by
    simp only [px_all2, Bool.and_eq_true] at h
    rcases List.mem_cons.mp ha with e | e
    · subst e; exact ⟨b, h.1⟩
    · exact px_all2_mem h.2 a e
def px_bK (r : vw_C) (hs : List Nat) (ki kn : Nat) : Bool :=
  (List.range r.2.2).all (fun k => px_wd (hs.getD k 0) (u_lay r.1 r.2.1 k)) && ((List.range r.2.2).all (fun k => (parseFieldDescriptor (r.2.1 k).2.2.1).isSome) && ((List.range r.2.2).all (fun a => (List.range r.2.2).all (fun b => a == b || !(decide ((r.2.1 a).2.1 = (r.2.1 b).2.1)))) && (px_wd ki (.instantiable r.1 r.2.2) && px_wd kn (.initialized r.1))))
theorem px_bK_ok {r : vw_C} {hs : List Nat} {ki kn : Nat} (h : px_bK r hs ki kn = true) : px_okK px_Ts r := by
  unfold px_bK at h
  simp only [Bool.and_eq_true] at h
  obtain ⟨h1, h2, h3, h4, h5⟩ := h
  refine ⟨fun w hw => ?_, fun k hk => ?_, fun a ha b hb hab => ?_, px_wd_in h4, px_wd_in h5⟩
  · obtain ⟨k, hk, rfl⟩ := List.mem_map.mp hw
    exact px_wd_in (List.all_eq_true.mp h1 k hk)
  · have h6 := List.all_eq_true.mp h2 k (List.mem_range.mpr hk)
    unfold px_ty
    cases hp : parseFieldDescriptor (r.2.1 k).2.2.1 with
    | none => rw [hp] at h6; cases h6
    | some t => rfl
  · have h6 := List.all_eq_true.mp (List.all_eq_true.mp h3 a (List.mem_range.mpr ha)) b (List.mem_range.mpr hb)
    simp only [Bool.or_eq_true, beq_iff_eq, Bool.not_eq_true', decide_eq_false_iff_not] at h6
    exact h6.elim (fun e => absurd e hab) id
def px_bF (cl : List vw_C) (own : String) (q : Nat × Nat × Nat) (k : Nat) : Bool := match cl[q.2.1]? with
  | some r => decide (q.2.2 < r.2.2) && px_wd k (.fieldLink own q.1 (r.2.1 q.2.2).1 (r.2.1 q.2.2).2.1 (r.2.1 q.2.2).2.2.1)
  | none => false
def px_bC (P : List px_M) (own : String) (q : Nat × Nat × Nat) (h : List Nat) : Bool :=
  if q.2.1 = 6 then px_wd (h.getD 0 0) (.methodLink own q.1 arraycopyName) && (px_wd (h.getD 1 0) (.native arraycopyName) && (px_wd (h.getD 2 0) (.static arraycopyName) && px_wd (h.getD 3 0) (.initialized "java/lang/System")))
  else if q.2.1 = 7 then px_wd (h.getD 0 0) (.methodLink own q.1 objectInit) && (px_wd (h.getD 1 0) (.instanceMethod objectInit) && px_wd (h.getD 2 0) (.code objectInit ⟨#[0xb1]⟩ 1 none))
  else if q.2.1 = 8 then px_wd (h.getD 0 0) (.methodLink own q.1 Lib.Math.max.name) && (px_wd (h.getD 1 0) (.static Lib.Math.max.name) && (px_wd (h.getD 2 0) (.initialized "java/lang/Math") && px_wd (h.getD 3 0) (.code Lib.Math.max.name Lib.Math.max.code 2 (some .int))))
  else if q.2.1 = 9 then px_wd (h.getD 0 0) (.methodLink own q.1 Lib.Math.min.name) && (px_wd (h.getD 1 0) (.static Lib.Math.min.name) && (px_wd (h.getD 2 0) (.initialized "java/lang/Math") && px_wd (h.getD 3 0) (.code Lib.Math.min.name Lib.Math.min.code 2 (some .int))))
  else if q.2.1 = 10 then px_wd (h.getD 0 0) (.methodLink own q.1 Lib.Math.abs.name) && (px_wd (h.getD 1 0) (.static Lib.Math.abs.name) && (px_wd (h.getD 2 0) (.initialized "java/lang/Math") && px_wd (h.getD 3 0) (.code Lib.Math.abs.name Lib.Math.abs.code 1 (some .int))))
  else match P[q.2.2]? with
  | none => false
  | some M => if q.2.1 = 0 then px_wd (h.getD 0 0) (.methodLink own q.1 M.1.1) && (px_wd (h.getD 1 0) (.instanceMethod M.1.1) && px_wd (h.getD 2 0) (.selects M.1.1.cls M.1.1 M.1.1))
    else if q.2.1 = 1 then px_wd (h.getD 0 0) (.methodLink own q.1 M.1.1) && px_wd (h.getD 1 0) (.static M.1.1)
    else if q.2.1 = 2 then px_wd (h.getD 0 0) (.methodLink own q.1 M.1.1) && (decide (M.1.1.name = "<init>") && (px_wd (h.getD 1 0) (.instanceMethod M.1.1) && M.1.2.2.2.1.isNone))
    else if q.2.1 = 4 then px_wn (h.getD 0 0) (.methodLinkNest own q.1 M.1.1 "HalfBoats") && px_wd (h.getD 1 0) (.static M.1.1)
    else if q.2.1 = 5 then px_wn (h.getD 0 0) (.methodLinkNest own q.1 M.1.1 "HalfBoats") && (decide (M.1.1.name = "<init>") && (px_wd (h.getD 1 0) (.instanceMethod M.1.1) && M.1.2.2.2.1.isNone))
    else false
theorem px_bC_ok {P : List px_M} {own : String} {q : Nat × Nat × Nat} {h : List Nat} (hb : px_bC P own q h = true) : px_okC px_Ts px_Ns P own q := by
  unfold px_bC at hb
  refine ⟨fun e => ?_, fun e => ?_, fun M hM => ⟨fun e => ?_, fun e => ?_, fun e => ?_, fun e => ?_, fun e => ?_⟩, fun e => ?_, fun e => ?_, fun e => ?_⟩
  · rw [if_pos e] at hb
    simp only [Bool.and_eq_true] at hb
    exact ⟨px_wd_in hb.1, px_wd_in hb.2.1, px_wd_in hb.2.2.1, px_wd_in hb.2.2.2⟩
  · rw [if_neg (by omega), if_pos e] at hb
    simp only [Bool.and_eq_true] at hb
    exact ⟨px_wd_in hb.1, px_wd_in hb.2.1, px_wd_in hb.2.2⟩
  · rw [if_neg (by omega), if_neg (by omega), if_neg (by omega), if_neg (by omega), if_neg (by omega), hM] at hb
    simp only [if_pos e, Bool.and_eq_true] at hb
    exact ⟨px_wd_in hb.1, px_wd_in hb.2.1, px_wd_in hb.2.2⟩
  · rw [if_neg (by omega), if_neg (by omega), if_neg (by omega), if_neg (by omega), if_neg (by omega), hM] at hb
    dsimp only at hb
    rw [if_neg (by omega), if_pos e] at hb
    simp only [Bool.and_eq_true] at hb
    exact ⟨px_wd_in hb.1, px_wd_in hb.2⟩
  · rw [if_neg (by omega), if_neg (by omega), if_neg (by omega), if_neg (by omega), if_neg (by omega), hM] at hb
    dsimp only at hb
    rw [if_neg (by omega), if_neg (by omega), if_pos e] at hb
    simp only [Bool.and_eq_true, decide_eq_true_eq, Option.isNone_iff_eq_none] at hb
    exact ⟨px_wd_in hb.1, hb.2.1, px_wd_in hb.2.2.1, hb.2.2.2⟩
  · rw [if_neg (by omega), if_neg (by omega), if_neg (by omega), if_neg (by omega), if_neg (by omega), hM] at hb
    dsimp only at hb
    rw [if_neg (by omega), if_neg (by omega), if_neg (by omega), if_pos e] at hb
    simp only [Bool.and_eq_true] at hb
    exact ⟨px_wn_in hb.1, px_wd_in hb.2⟩
  · rw [if_neg (by omega), if_neg (by omega), if_neg (by omega), if_neg (by omega), if_neg (by omega), hM] at hb
    dsimp only at hb
    rw [if_neg (by omega), if_neg (by omega), if_neg (by omega), if_neg (by omega), if_pos e] at hb
    simp only [Bool.and_eq_true, decide_eq_true_eq, Option.isNone_iff_eq_none] at hb
    exact ⟨px_wn_in hb.1, hb.2.1, px_wd_in hb.2.2.1, hb.2.2.2⟩
  · rw [if_neg (by omega), if_neg (by omega), if_pos e] at hb
    simp only [Bool.and_eq_true] at hb
    exact ⟨px_wd_in hb.1, px_wd_in hb.2.1, px_wd_in hb.2.2.1, px_wd_in hb.2.2.2⟩
  · rw [if_neg (by omega), if_neg (by omega), if_neg (by omega), if_pos e] at hb
    simp only [Bool.and_eq_true] at hb
    exact ⟨px_wd_in hb.1, px_wd_in hb.2.1, px_wd_in hb.2.2.1, px_wd_in hb.2.2.2⟩
  · rw [if_neg (by omega), if_neg (by omega), if_neg (by omega), if_neg (by omega), if_pos e] at hb
    simp only [Bool.and_eq_true] at hb
    exact ⟨px_wd_in hb.1, px_wd_in hb.2.1, px_wd_in hb.2.2.1, px_wd_in hb.2.2.2⟩
def px_bKl (cl : List vw_C) (own : String) (q : Nat × Nat) (k : Nat) : Bool := match cl[q.2]? with
  | some r => px_wd k (.classLink own q.1 r.1)
  | none => false
def px_bS (own : String) (q : Nat × Nat) (k : Nat) : Bool := if q.2 = 0 then px_wd k (.fieldLink own q.1 "java/lang/String" "COMPACT_STRINGS" "Z") else if q.2 = 1 then px_wd k (.fieldLink own q.1 "jdk/internal/util/Preconditions" "SIOOBE_FORMATTER" "Ljava/util/function/BiFunction;") else false
def px_bX (own : String) (q : Nat × Nat) (k : Nat) : Bool := if q.2 = 0 then px_wd k (.fieldLink own q.1 "java/lang/String" "value" "[B") else if q.2 = 1 then px_wd k (.fieldLink own q.1 "java/lang/String" "coder" "B") else false
def px_bL (cl : List vw_C) (SL : List (String × Nat × Nat)) (P : List px_M) (own : String) (L : px_L) (h : List Nat × List (List Nat) × List Nat × List Nat × List Nat × List Nat × List Nat) : Bool :=
  px_all2 (px_bF cl own) L.1 h.1 && (px_all2 (px_bC P own) L.2.1 h.2.1 && (px_all2 (px_bKl cl own) L.2.2.1 h.2.2.1 && (px_all2 (fun q k => px_wd k (.constant own q.1 q.2)) L.2.2.2.1 h.2.2.2.1 && (px_all2 (fun q k => px_wd k (.constantLong own q.1 q.2)) L.2.2.2.2.1 h.2.2.2.2.1 && (L.2.2.2.2.2.1.all (fun q => decide ((own, q.1, q.2) ∈ SL)) && (px_all2 (px_bS own) L.2.2.2.2.2.2.1 h.2.2.2.2.2.1 && px_all2 (px_bX own) L.2.2.2.2.2.2.2 h.2.2.2.2.2.2))))))
theorem px_bL_ok {cl : List vw_C} {SL : List (String × Nat × Nat)} {P : List px_M} {own : String} {L : px_L} {h : List Nat × List (List Nat) × List Nat × List Nat × List Nat × List Nat × List Nat} (hb : px_bL cl SL P own L h = true) : px_okL px_Ts px_Ns cl SL P own L := by
  unfold px_bL at hb
  simp only [Bool.and_eq_true] at hb
  obtain ⟨h1, h2, h3, h4, h5, h6, h7, h8⟩ := hb
  refine ⟨fun q hq => ?_, fun q hq => ?_, fun q hq => ?_, fun q hq => ?_, fun q hq => ?_, fun q hq => ?_, fun q hq => ?_, fun q hq => ?_⟩
  · obtain ⟨k, hk⟩ := px_all2_mem h1 q hq
    unfold px_bF at hk
    split at hk
    · rename_i r hr
      simp only [Bool.and_eq_true, decide_eq_true_eq] at hk
      exact ⟨r, hr, hk.1, px_wd_in hk.2⟩
    · cases hk
  · obtain ⟨k, hk⟩ := px_all2_mem h2 q hq
    exact px_bC_ok hk
  · obtain ⟨k, hk⟩ := px_all2_mem h3 q hq
    unfold px_bKl at hk
    split at hk
    · rename_i r hr
      exact ⟨r, hr, px_wd_in hk⟩
    · cases hk
  · obtain ⟨k, hk⟩ := px_all2_mem h4 q hq
    exact px_wd_in hk
  · obtain ⟨k, hk⟩ := px_all2_mem h5 q hq
    exact px_wd_in hk
  · exact of_decide_eq_true (List.all_eq_true.mp h6 q hq)
  · obtain ⟨k, hk⟩ := px_all2_mem h7 q hq
    unfold px_bS at hk
    refine ⟨fun e => ?_, fun e => ?_⟩
    · rw [if_pos e] at hk; exact px_wd_in hk
    · rw [if_neg (by omega), if_pos e] at hk; exact px_wd_in hk
  · obtain ⟨k, hk⟩ := px_all2_mem h8 q hq
    unfold px_bX at hk
    refine ⟨fun e => ?_, fun e => ?_⟩
    · rw [if_pos e] at hk; exact px_wd_in hk
    · rw [if_neg (by omega), if_pos e] at hk; exact px_wd_in hk
theorem px_code_in {k : Nat} {y : MethodName} {cc : ByteArray} {mx : Nat} {rt : Option FieldType} (h : lw_tbl[k]? = some (Cond.code y cc mx rt)) : Cond.code y cc mx rt ∈ px_Ts := List.mem_filter.mpr ⟨List.mem_of_getElem? h, rfl⟩
def px_bM (h : px_Hd) (ki : Nat) : Bool := plainName h.1.cls && (px_wd ki (.initialized h.1.cls) && (decide (h.1.cls ≠ "java/lang/invoke/MethodHandle") && (decide (h.1.cls ≠ "java/lang/invoke/VarHandle") && (decide ((parseMethodDescriptor h.1.desc).map (fun d => d.parameters.length) = some h.2.2.2.2) && decide (h.2.2.1 ≤ 64)))))
theorem px_bM_ok {h : px_Hd} {k ki : Nat} (hw : lw_tbl[k]? = some (Cond.code h.1 h.2.1 h.2.2.1 h.2.2.2.1)) (hb : px_bM h ki = true) : Cond.code h.1 h.2.1 h.2.2.1 h.2.2.2.1 ∈ px_Ts ∧ plainName h.1.cls = true ∧ Cond.initialized h.1.cls ∈ px_Ts ∧ (h.1.cls ≠ "java/lang/invoke/MethodHandle" ∧ h.1.cls ≠ "java/lang/invoke/VarHandle" ∧ (parseMethodDescriptor h.1.desc).map (fun d => d.parameters.length) = some h.2.2.2.2) ∧ h.2.2.1 ≤ 64 := by
  unfold px_bM at hb
  simp only [Bool.and_eq_true, decide_eq_true_eq] at hb
  exact ⟨px_code_in hw, hb.1, px_wd_in hb.2.1, ⟨hb.2.2.1, hb.2.2.2.1, hb.2.2.2.2.1⟩, hb.2.2.2.2.2⟩

end
