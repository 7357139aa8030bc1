noncomputable section
/-! NUMBERS, QUICKLY: by the recursors, for the kernel -/
def qi_sub (m n : Nat) : Int := cond (Nat.ble n m) (Int.ofNat (Nat.sub m n)) (Int.negSucc (Nat.sub (Nat.sub n m) 1))
theorem qi_sub_e (m n : Nat) : qi_sub m n = (m : Int) - (n : Int) := by
  unfold qi_sub
  cases h : Nat.ble n m with
  | true =>
    have h1 := Nat.le_of_ble_eq_true h
    show ((m - n : Nat) : Int) = _
    omega
  | false =>
    have h1 : m < n := Nat.lt_of_not_le (fun hle => by
      rw [Nat.ble_eq_true_of_le hle] at h
      cases h)
    show Int.negSucc (n - m - 1) = _
    rw [Int.negSucc_eq]
    omega
def qi_add (a b : Int) : Int := Int.rec (motive := fun _ => Int) (fun m => Int.rec (motive := fun _ => Int) (fun n => Int.ofNat (Nat.add m n)) (fun n => qi_sub m (Nat.succ n)) b) (fun m => Int.rec (motive := fun _ => Int) (fun n => qi_sub n (Nat.succ m)) (fun n => Int.negSucc (Nat.succ (Nat.add m n))) b) a
theorem qi_add_e (a b : Int) : qi_add a b = a + b := by
  cases a with
  | ofNat m => cases b with
    | ofNat n => rfl
    | negSucc n =>
      show qi_sub m (n + 1) = (m : Int) + Int.negSucc n
      rw [qi_sub_e, Int.negSucc_eq]
      omega
  | negSucc m => cases b with
    | ofNat n =>
      show qi_sub n (m + 1) = Int.negSucc m + (n : Int)
      rw [qi_sub_e, Int.negSucc_eq]
      omega
    | negSucc n =>
      show Int.negSucc (m + n + 1) = Int.negSucc m + Int.negSucc n
      rw [Int.negSucc_eq, Int.negSucc_eq, Int.negSucc_eq]
      omega
def qi_neg (a : Int) : Int := Int.rec (motive := fun _ => Int) (fun m => qi_sub 0 m) (fun m => Int.ofNat (Nat.succ m)) a
theorem qi_neg_e (a : Int) : qi_neg a = -a := by
  cases a with
  | ofNat m =>
    show qi_sub 0 m = -(m : Int)
    rw [qi_sub_e]
    omega
  | negSucc m =>
    show ((m + 1 : Nat) : Int) = -Int.negSucc m
    rw [Int.negSucc_eq]
    omega
def qi_mul (a b : Int) : Int := Int.rec (motive := fun _ => Int) (fun m => Int.rec (motive := fun _ => Int) (fun n => Int.ofNat (Nat.mul m n)) (fun n => qi_sub 0 (Nat.mul m (Nat.succ n))) b) (fun m => Int.rec (motive := fun _ => Int) (fun n => qi_sub 0 (Nat.mul (Nat.succ m) n)) (fun n => Int.ofNat (Nat.mul (Nat.succ m) (Nat.succ n))) b) a
theorem qi_mul_e (a b : Int) : qi_mul a b = a * b := by
  cases a with
  | ofNat m => cases b with
    | ofNat n => rfl
    | negSucc n =>
      show qi_sub 0 (m * (n + 1)) = (m : Int) * Int.negSucc n
      rw [qi_sub_e, Int.negSucc_eq, Int.mul_neg, Int.natCast_mul, Int.natCast_add]
      simp
  | negSucc m => cases b with
    | ofNat n =>
      show qi_sub 0 ((m + 1) * n) = Int.negSucc m * (n : Int)
      rw [qi_sub_e, Int.negSucc_eq, Int.neg_mul, Int.natCast_mul, Int.natCast_add]
      simp
    | negSucc n =>
      show (((m + 1) * (n + 1) : Nat) : Int) = Int.negSucc m * Int.negSucc n
      rw [Int.negSucc_eq, Int.negSucc_eq, Int.neg_mul_neg, Int.natCast_mul, Int.natCast_add, Int.natCast_add]
      simp
def qi_le (a b : Int) : Bool := Int.rec (motive := fun _ => Bool) (fun m => Int.rec (motive := fun _ => Bool) (fun n => Nat.ble m n) (fun _ => false) b) (fun m => Int.rec (motive := fun _ => Bool) (fun _ => true) (fun n => Nat.ble n m) b) a
theorem qi_le_e {a b : Int} : qi_le a b = true ↔ a ≤ b := by
  cases a with
  | ofNat m => cases b with
    | ofNat n =>
      show Nat.ble m n = true ↔ (m : Int) ≤ (n : Int)
      rw [Nat.ble_eq]
      omega
    | negSucc n =>
      show false = true ↔ (m : Int) ≤ Int.negSucc n
      rw [Int.negSucc_eq]
      constructor
      · intro h; cases h
      · intro h; omega
  | negSucc m => cases b with
    | ofNat n =>
      show true = true ↔ Int.negSucc m ≤ (n : Int)
      rw [Int.negSucc_eq]
      constructor
      · intro _; omega
      · intro _; rfl
    | negSucc n =>
      show Nat.ble n m = true ↔ Int.negSucc m ≤ Int.negSucc n
      rw [Nat.ble_eq, Int.negSucc_eq, Int.negSucc_eq]
      omega
def qi_eq (a b : Int) : Bool := Int.rec (motive := fun _ => Bool) (fun m => Int.rec (motive := fun _ => Bool) (fun n => Nat.beq m n) (fun _ => false) b) (fun m => Int.rec (motive := fun _ => Bool) (fun _ => false) (fun n => Nat.beq m n) b) a
theorem qi_eq_e {a b : Int} : qi_eq a b = true ↔ a = b := by
  cases a with
  | ofNat m => cases b with
    | ofNat n =>
      show Nat.beq m n = true ↔ _
      constructor
      · intro h; rw [Nat.eq_of_beq_eq_true h]
      · intro h; cases h; exact Nat.beq_refl m
    | negSucc n =>
      constructor
      · intro h; cases h
      · intro h; cases h
  | negSucc m => cases b with
    | ofNat n =>
      constructor
      · intro h; cases h
      · intro h; cases h
    | negSucc n =>
      show Nat.beq m n = true ↔ _
      constructor
      · intro h; rw [Nat.eq_of_beq_eq_true h]
      · intro h; cases h; exact Nat.beq_refl m
def qi_z (a : Int) : Bool := Int.rec (motive := fun _ => Bool) (fun m => Nat.beq m 0) (fun _ => false) a
theorem qi_z_e {a : Int} : qi_z a = true ↔ a = 0 := by
  cases a with
  | ofNat m =>
    show Nat.beq m 0 = true ↔ (m : Int) = 0
    constructor
    · intro h
      have := Nat.eq_of_beq_eq_true h
      omega
    · intro h
      have h1 : m = 0 := by omega
      rw [h1]
      rfl
  | negSucc m =>
    constructor
    · intro h; cases h
    · intro h; cases h
theorem qi_z_n {a : Int} (h : qi_z a = false) : a ≠ 0 := fun e => by
  rw [qi_z_e.mpr e] at h
  cases h
/-- whole parts of a division by a number that is not 0 -/
def qi_div (a : Int) (k : Nat) : Int := cond (Nat.beq k 1) a (Int.rec (motive := fun _ => Int) (fun m => Int.ofNat (Nat.div m k)) (fun m => Int.negSucc (Nat.div m k)) a)
theorem qi_div_e (a : Int) {k : Nat} (hk : 0 < k) : qi_div a k = a / (k : Int) := by
  unfold qi_div
  cases h : Nat.beq k 1 with
  | true =>
    have := Nat.eq_of_beq_eq_true h
    subst this
    show a = a / 1
    rw [Int.ediv_one]
  | false =>
    cases a with
    | ofNat m => rfl
    | negSucc m =>
      match k, hk with
      | k + 1, _ => rfl
def qi_abs (a : Int) : Nat := Int.rec (motive := fun _ => Nat) (fun m => m) (fun m => Nat.succ m) a
/-! lists, quickly -/
def qx_any {α : Type} (l : List α) (p : α → Bool) : Bool := List.rec (motive := fun _ => Bool) false (fun a _ ih => cond (p a) true ih) l
theorem qx_any_e {α : Type} {p : α → Bool} : ∀ {l : List α}, qx_any l p = l.any p
  | [] => rfl
  | a :: r => by
    show cond (p a) true (qx_any r p) = (p a || r.any p)
    rw [qx_any_e (l := r)]
    cases p a <;> rfl
def qx_all {α : Type} (l : List α) (p : α → Bool) : Bool := List.rec (motive := fun _ => Bool) true (fun a _ ih => cond (p a) ih false) l
theorem qx_all_e {α : Type} {p : α → Bool} : ∀ {l : List α}, qx_all l p = l.all p
  | [] => rfl
  | a :: r => by
    show cond (p a) (qx_all r p) false = (p a && r.all p)
    rw [qx_all_e (l := r)]
    cases p a <;> rfl
def qx_filter {α : Type} (l : List α) (p : α → Bool) : List α := List.rec (motive := fun _ => List α) [] (fun a _ ih => cond (p a) (a :: ih) ih) l
theorem qx_filter_e {α : Type} {p : α → Bool} : ∀ {l : List α}, qx_filter l p = l.filter p
  | [] => rfl
  | a :: r => by
    show cond (p a) (a :: qx_filter r p) (qx_filter r p) = _
    rw [qx_filter_e (l := r), List.filter_cons]
    cases p a <;> rfl
def qx_find {α : Type} (l : List α) (p : α → Bool) : Option α := List.rec (motive := fun _ => Option α) none (fun a _ ih => cond (p a) (some a) ih) l
theorem qx_find_e {α : Type} {p : α → Bool} : ∀ {l : List α}, qx_find l p = l.find? p
  | [] => rfl
  | a :: r => by
    show cond (p a) (some a) (qx_find r p) = _
    rw [qx_find_e (l := r), List.find?_cons]
    cases p a <;> rfl
def qx_len {α : Type} (l : List α) : Nat := List.rec (motive := fun _ => Nat) 0 (fun _ _ ih => Nat.succ ih) l
theorem qx_len_e {α : Type} : ∀ {l : List α}, qx_len l = l.length
  | [] => rfl
  | a :: r => by
    show Nat.succ (qx_len r) = r.length + 1
    rw [qx_len_e (l := r)]
def qx_set {α : Type} (l : List α) (n : Nat) (v : α) : List α := List.rec (motive := fun _ => Nat → List α) (fun _ => []) (fun a r ih n => Nat.rec (motive := fun _ => List α) (v :: r) (fun k _ => a :: ih k) n) l n
theorem qx_set_e {α : Type} {v : α} : ∀ {l : List α} {n : Nat}, qx_set l n v = l.set n v
  | [], _ => rfl
  | _ :: _, 0 => rfl
  | a :: r, n + 1 => by
    show a :: qx_set r n v = a :: r.set n v
    rw [qx_set_e (l := r) (n := n)]
def qx_nth {α : Type} (l : List α) (n : Nat) : Option α := List.rec (motive := fun _ => Nat → Option α) (fun _ => none) (fun a _ ih n => Nat.rec (motive := fun _ => Option α) (some a) (fun k _ => ih k) n) l n
theorem qx_nth_ok {α : Type} : ∀ (l : List α) (n : Nat), qx_nth l n = l[n]?
  | [], _ => rfl
  | a :: r, 0 => rfl
  | a :: r, n + 1 => by
    show qx_nth r n = r[n]?
    exact qx_nth_ok r n
/-! LINEAR FORMS OVER SYMBOLS -/
abbrev sy_L : Type := Int × List (Nat × Int)
def sy_s (ρ : Nat → Int) : List (Nat × Int) → Int
  | [] => 0
  | t :: r => t.2 * ρ t.1 + sy_s ρ r
def sy_e (ρ : Nat → Int) (e : sy_L) : Int := e.1 + sy_s ρ e.2
def sy_ins (i : Nat) (c : Int) (l : List (Nat × Int)) : List (Nat × Int) := List.rec (motive := fun _ => List (Nat × Int)) (cond (qi_z c) [] [(i, c)]) (fun t r ih => cond (Nat.ble t.1 i) (cond (Nat.beq t.1 i) (cond (qi_z (qi_add c t.2)) r ((i, qi_add c t.2) :: r)) (t :: ih)) (cond (qi_z c) (t :: r) ((i, c) :: t :: r))) l
theorem sy_ins_e (ρ : Nat → Int) (i : Nat) (c : Int) : ∀ l : List (Nat × Int), sy_s ρ (sy_ins i c l) = c * ρ i + sy_s ρ l
  | [] => by
    show sy_s ρ (cond (qi_z c) [] [(i, c)]) = _
    cases h : qi_z c with
    | true =>
      have := qi_z_e.mp h
      subst this
      simp [sy_s]
    | false => simp [sy_s]
  | t :: r => by
    show sy_s ρ (cond (Nat.ble t.1 i) (cond (Nat.beq t.1 i) (cond (qi_z (qi_add c t.2)) r ((i, qi_add c t.2) :: r)) (t :: sy_ins i c r)) (cond (qi_z c) (t :: r) ((i, c) :: t :: r))) = _
    cases h1 : Nat.ble t.1 i with
    | true =>
      cases h2 : Nat.beq t.1 i with
      | true =>
        have h := Nat.eq_of_beq_eq_true h2
        cases h3 : qi_z (qi_add c t.2) with
        | true =>
          have h4 := qi_z_e.mp h3
          rw [qi_add_e] at h4
          show sy_s ρ r = c * ρ i + (t.2 * ρ t.1 + sy_s ρ r)
          rw [h]
          have : (c + t.2) * ρ i = 0 := by rw [h4]; simp
          rw [Int.add_mul] at this
          omega
        | false =>
          show (qi_add c t.2) * ρ i + sy_s ρ r = c * ρ i + (t.2 * ρ t.1 + sy_s ρ r)
          rw [qi_add_e, h, Int.add_mul]
          omega
      | false =>
        show t.2 * ρ t.1 + sy_s ρ (sy_ins i c r) = c * ρ i + (t.2 * ρ t.1 + sy_s ρ r)
        rw [sy_ins_e ρ i c r]
        omega
    | false =>
      cases h3 : qi_z c with
      | true =>
        have := qi_z_e.mp h3
        subst this
        show sy_s ρ (t :: r) = 0 * ρ i + sy_s ρ (t :: r)
        simp
      | false => rfl
def sy_addl (a b : List (Nat × Int)) : List (Nat × Int) := List.rec (motive := fun _ => List (Nat × Int)) b (fun t _ ih => sy_ins t.1 t.2 ih) a
theorem sy_addl_e (ρ : Nat → Int) : ∀ a b : List (Nat × Int), sy_s ρ (sy_addl a b) = sy_s ρ a + sy_s ρ b
  | [], b => by
    show sy_s ρ b = 0 + sy_s ρ b
    omega
  | t :: r, b => by
    show sy_s ρ (sy_ins t.1 t.2 (sy_addl r b)) = t.2 * ρ t.1 + sy_s ρ r + sy_s ρ b
    rw [sy_ins_e, sy_addl_e ρ r b]
    omega
def sy_add (a b : sy_L) : sy_L := (qi_add a.1 b.1, sy_addl a.2 b.2)
theorem sy_add_e (ρ : Nat → Int) (a b : sy_L) : sy_e ρ (sy_add a b) = sy_e ρ a + sy_e ρ b := by
  unfold sy_e sy_add
  simp only [sy_addl_e, qi_add_e]
  omega
def sy_scll (k : Int) (l : List (Nat × Int)) : List (Nat × Int) := List.rec (motive := fun _ => List (Nat × Int)) [] (fun t _ ih => (t.1, qi_mul k t.2) :: ih) l
theorem sy_scl_s (ρ : Nat → Int) (k : Int) : ∀ l : List (Nat × Int), sy_s ρ (sy_scll k l) = k * sy_s ρ l
  | [] => by
    show (0 : Int) = k * 0
    simp
  | t :: r => by
    show qi_mul k t.2 * ρ t.1 + sy_s ρ (sy_scll k r) = k * (t.2 * ρ t.1 + sy_s ρ r)
    rw [qi_mul_e, sy_scl_s ρ k r, Int.mul_add, Int.mul_assoc]
def sy_scl (k : Int) (a : sy_L) : sy_L := cond (qi_z k) (0, []) (qi_mul k a.1, sy_scll k a.2)
theorem sy_scl_e (ρ : Nat → Int) (k : Int) (a : sy_L) : sy_e ρ (sy_scl k a) = k * sy_e ρ a := by
  unfold sy_scl
  cases h : qi_z k with
  | true =>
    have := qi_z_e.mp h
    subst this
    simp [sy_e, sy_s]
  | false =>
    show qi_mul k a.1 + sy_s ρ (sy_scll k a.2) = k * (a.1 + sy_s ρ a.2)
    rw [sy_scl_s, qi_mul_e, Int.mul_add]
def sy_negl (l : List (Nat × Int)) : List (Nat × Int) := List.rec (motive := fun _ => List (Nat × Int)) [] (fun t _ ih => (t.1, qi_neg t.2) :: ih) l
theorem sy_negl_s (ρ : Nat → Int) : ∀ l : List (Nat × Int), sy_s ρ (sy_negl l) = -sy_s ρ l
  | [] => rfl
  | t :: r => by
    show qi_neg t.2 * ρ t.1 + sy_s ρ (sy_negl r) = -(t.2 * ρ t.1 + sy_s ρ r)
    rw [qi_neg_e, sy_negl_s ρ r, Int.neg_mul]
    omega
def sy_sub (a b : sy_L) : sy_L := (qi_add a.1 (qi_neg b.1), sy_addl a.2 (sy_negl b.2))
theorem sy_sub_e (ρ : Nat → Int) (a b : sy_L) : sy_e ρ (sy_sub a b) = sy_e ρ a - sy_e ρ b := by
  unfold sy_e sy_sub
  simp only [sy_addl_e, qi_add_e, qi_neg_e, sy_negl_s]
  omega
def sy_c (k : Int) : sy_L := (k, [])
theorem sy_c_e (ρ : Nat → Int) (k : Int) : sy_e ρ (sy_c k) = k := by simp [sy_e, sy_c, sy_s]
def sy_x (i : Nat) : sy_L := (0, [(i, 1)])
theorem sy_x_e (ρ : Nat → Int) (i : Nat) : sy_e ρ (sy_x i) = ρ i := by simp [sy_e, sy_x, sy_s]
/-! ranges -/
abbrev sy_T : Type := List (Int × Int)
def sy_ok (ρ : Nat → Int) (R : sy_T) : Prop := ∀ (i : Nat) (q : Int × Int), R[i]? = some q → q.1 ≤ ρ i ∧ ρ i ≤ q.2
/-- what a form is at least: for what is at least 0 and what is below kept apart; k of both, d where a symbol has no range -/
def qy_lo {α : Type} (k : Nat → Nat → α) (d : α) (R : sy_T) (l : List (Nat × Int)) (P N : Nat) : α := List.rec (motive := fun _ => Nat → Nat → α) k (fun t _ ih P N => Option.rec (motive := fun _ => α) d (fun q => Int.rec (motive := fun _ => α) (fun m => Int.rec (motive := fun _ => α) (fun n => ih (Nat.add P (Nat.mul m n)) N) (fun n => ih P (Nat.add N (Nat.mul m (Nat.succ n)))) q.1) (fun m => Int.rec (motive := fun _ => α) (fun n => ih P (Nat.add N (Nat.mul (Nat.succ m) n))) (fun n => ih (Nat.add P (Nat.mul (Nat.succ m) (Nat.succ n))) N) q.2) t.2) (qx_nth R t.1)) l P N
def qy_hi {α : Type} (k : Nat → Nat → α) (d : α) (R : sy_T) (l : List (Nat × Int)) (P N : Nat) : α := List.rec (motive := fun _ => Nat → Nat → α) k (fun t _ ih P N => Option.rec (motive := fun _ => α) d (fun q => Int.rec (motive := fun _ => α) (fun m => Int.rec (motive := fun _ => α) (fun n => ih (Nat.add P (Nat.mul m n)) N) (fun n => ih P (Nat.add N (Nat.mul m (Nat.succ n)))) q.2) (fun m => Int.rec (motive := fun _ => α) (fun n => ih P (Nat.add N (Nat.mul (Nat.succ m) n))) (fun n => ih (Nat.add P (Nat.mul (Nat.succ m) (Nat.succ n))) N) q.1) t.2) (qx_nth R t.1)) l P N
/-- a term's bound, with its sign -/
theorem qy_m1 {c q z : Int} {m : Nat} (hc : c = (m : Int)) (h : q ≤ z) : (m : Int) * q ≤ c * z := by
  rw [hc]
  exact Int.mul_le_mul_of_nonneg_left h (Int.natCast_nonneg m)
theorem qy_m2 {c q z : Int} {m : Nat} (hc : c = Int.negSucc m) (h : z ≤ q) : -((m : Int) + 1) * q ≤ c * z := by
  rw [hc, Int.negSucc_eq]
  exact Int.mul_le_mul_of_nonpos_left (by omega) h
theorem qy_m3 {c q z : Int} {m : Nat} (hc : c = (m : Int)) (h : z ≤ q) : c * z ≤ (m : Int) * q := by
  rw [hc]
  exact Int.mul_le_mul_of_nonneg_left h (Int.natCast_nonneg m)
theorem qy_m4 {c q z : Int} {m : Nat} (hc : c = Int.negSucc m) (h : q ≤ z) : c * z ≤ -((m : Int) + 1) * q := by
  rw [hc, Int.negSucc_eq]
  exact Int.mul_le_mul_of_nonpos_left (by omega) h
theorem qy_v1 (m n : Nat) : (m : Int) * (n : Int) = ((m * n : Nat) : Int) := by rw [Int.natCast_mul]
theorem qy_v2 (m n : Nat) : (m : Int) * Int.negSucc n = -((m * (n + 1) : Nat) : Int) := by
  rw [Int.negSucc_eq, Int.mul_neg, Int.natCast_mul, Int.natCast_add]
  rfl
theorem qy_v3 (m n : Nat) : -((m : Int) + 1) * (n : Int) = -(((m + 1) * n : Nat) : Int) := by
  rw [Int.neg_mul, Int.natCast_mul, Int.natCast_add]
  rfl
theorem qy_v4 (m n : Nat) : -((m : Int) + 1) * Int.negSucc n = (((m + 1) * (n + 1) : Nat) : Int) := by
  rw [Int.negSucc_eq, Int.neg_mul_neg, Int.natCast_mul, Int.natCast_add, Int.natCast_add]
  rfl
theorem qy_lo_e {α : Type} {k : Nat → Nat → α} {d : α} {ρ : Nat → Int} {R : sy_T} (h : sy_ok ρ R) : ∀ (l : List (Nat × Int)) (P N : Nat), qy_lo k d R l P N = d ∨ ∃ P' N' : Nat, qy_lo k d R l P N = k P' N' ∧ (P' : Int) - (N' : Int) ≤ (P : Int) - (N : Int) + sy_s ρ l
  | [], P, N => .inr ⟨P, N, rfl, by show _ ≤ (P : Int) - (N : Int) + 0; omega⟩
  | t :: r, P, N => by
    have go : ∀ P1 N1 : Nat, ((P1 : Int) - (N1 : Int) ≤ (P : Int) - (N : Int) + t.2 * ρ t.1) → (qy_lo k d R r P1 N1 = d ∨ ∃ P' N' : Nat, qy_lo k d R r P1 N1 = k P' N' ∧ (P' : Int) - (N' : Int) ≤ (P : Int) - (N : Int) + sy_s ρ (t :: r)) := by
      intro P1 N1 h1
      rcases qy_lo_e h r P1 N1 with h2 | ⟨P', N', h2, h3⟩
      · exact .inl h2
      · refine .inr ⟨P', N', h2, ?_⟩
        show _ ≤ (P : Int) - (N : Int) + (t.2 * ρ t.1 + sy_s ρ r)
        omega
    cases hq : qx_nth R t.1 with
    | none =>
      refine .inl ?_
      show Option.rec (motive := fun _ => α) d _ (qx_nth R t.1) = d
      rw [hq]
    | some q =>
      rw [qx_nth_ok] at hq
      have hb := h _ _ hq
      rw [← qx_nth_ok] at hq
      obtain ⟨i, c⟩ := t
      obtain ⟨q1, q2⟩ := q
      have e0 : qy_lo k d R ((i, c) :: r) P N = Int.rec (motive := fun _ => α) (fun m => Int.rec (motive := fun _ => α) (fun n => qy_lo k d R r (P + m * n) N) (fun n => qy_lo k d R r P (N + m * (n + 1))) q1) (fun m => Int.rec (motive := fun _ => α) (fun n => qy_lo k d R r P (N + (m + 1) * n)) (fun n => qy_lo k d R r (P + (m + 1) * (n + 1)) N) q2) c := by
        show Option.rec (motive := fun _ => α) d _ (qx_nth R i) = _
        rw [hq]
        rfl
      rw [e0]
      match c, q1, q2, hb, go with
      | .ofNat m, .ofNat n, q2, hb, go =>
        have h5 := qy_m1 (m := m) rfl hb.1
        have h6 := qy_v1 m n
        refine go (P + m * n) N ?_
        show ((P + m * n : Nat) : Int) - _ ≤ _ + (m : Int) * ρ i
        have h7 : (m : Int) * (n : Int) ≤ (m : Int) * ρ i := h5
        omega
      | .ofNat m, .negSucc n, q2, hb, go =>
        have h5 : (m : Int) * Int.negSucc n ≤ (m : Int) * ρ i := qy_m1 (m := m) rfl hb.1
        rw [qy_v2] at h5
        refine go P (N + m * (n + 1)) ?_
        show _ - ((N + m * (n + 1) : Nat) : Int) ≤ _ + (m : Int) * ρ i
        omega
      | .negSucc m, q1, .ofNat n, hb, go =>
        have h5 : -((m : Int) + 1) * (n : Int) ≤ Int.negSucc m * ρ i := qy_m2 (m := m) rfl hb.2
        rw [qy_v3] at h5
        refine go P (N + (m + 1) * n) ?_
        show _ - ((N + (m + 1) * n : Nat) : Int) ≤ _ + Int.negSucc m * ρ i
        omega
      | .negSucc m, q1, .negSucc n, hb, go =>
        have h5 : -((m : Int) + 1) * Int.negSucc n ≤ Int.negSucc m * ρ i := qy_m2 (m := m) rfl hb.2
        rw [qy_v4] at h5
        refine go (P + (m + 1) * (n + 1)) N ?_
        show ((P + (m + 1) * (n + 1) : Nat) : Int) - _ ≤ _ + Int.negSucc m * ρ i
        omega
theorem qy_hi_e {α : Type} {k : Nat → Nat → α} {d : α} {ρ : Nat → Int} {R : sy_T} (h : sy_ok ρ R) : ∀ (l : List (Nat × Int)) (P N : Nat), qy_hi k d R l P N = d ∨ ∃ P' N' : Nat, qy_hi k d R l P N = k P' N' ∧ (P : Int) - (N : Int) + sy_s ρ l ≤ (P' : Int) - (N' : Int)
  | [], P, N => .inr ⟨P, N, rfl, by show (P : Int) - (N : Int) + 0 ≤ _; omega⟩
  | t :: r, P, N => by
    have go : ∀ P1 N1 : Nat, ((P : Int) - (N : Int) + t.2 * ρ t.1 ≤ (P1 : Int) - (N1 : Int)) → (qy_hi k d R r P1 N1 = d ∨ ∃ P' N' : Nat, qy_hi k d R r P1 N1 = k P' N' ∧ (P : Int) - (N : Int) + sy_s ρ (t :: r) ≤ (P' : Int) - (N' : Int)) := by
      intro P1 N1 h1
      rcases qy_hi_e h r P1 N1 with h2 | ⟨P', N', h2, h3⟩
      · exact .inl h2
      · refine .inr ⟨P', N', h2, ?_⟩
        show (P : Int) - (N : Int) + (t.2 * ρ t.1 + sy_s ρ r) ≤ _
        omega
    cases hq : qx_nth R t.1 with
    | none =>
      refine .inl ?_
      show Option.rec (motive := fun _ => α) d _ (qx_nth R t.1) = d
      rw [hq]
    | some q =>
      rw [qx_nth_ok] at hq
      have hb := h _ _ hq
      rw [← qx_nth_ok] at hq
      obtain ⟨i, c⟩ := t
      obtain ⟨q1, q2⟩ := q
      have e0 : qy_hi k d R ((i, c) :: r) P N = Int.rec (motive := fun _ => α) (fun m => Int.rec (motive := fun _ => α) (fun n => qy_hi k d R r (P + m * n) N) (fun n => qy_hi k d R r P (N + m * (n + 1))) q2) (fun m => Int.rec (motive := fun _ => α) (fun n => qy_hi k d R r P (N + (m + 1) * n)) (fun n => qy_hi k d R r (P + (m + 1) * (n + 1)) N) q1) c := by
        show Option.rec (motive := fun _ => α) d _ (qx_nth R i) = _
        rw [hq]
        rfl
      rw [e0]
      match c, q1, q2, hb, go with
      | .ofNat m, q1, .ofNat n, hb, go =>
        have h5 : (m : Int) * ρ i ≤ (m : Int) * (n : Int) := qy_m3 (m := m) rfl hb.2
        rw [qy_v1] at h5
        refine go (P + m * n) N ?_
        show _ + (m : Int) * ρ i ≤ ((P + m * n : Nat) : Int) - _
        omega
      | .ofNat m, q1, .negSucc n, hb, go =>
        have h5 : (m : Int) * ρ i ≤ (m : Int) * Int.negSucc n := qy_m3 (m := m) rfl hb.2
        rw [qy_v2] at h5
        refine go P (N + m * (n + 1)) ?_
        show _ + (m : Int) * ρ i ≤ _ - ((N + m * (n + 1) : Nat) : Int)
        omega
      | .negSucc m, .ofNat n, q2, hb, go =>
        have h5 : Int.negSucc m * ρ i ≤ -((m : Int) + 1) * (n : Int) := qy_m4 (m := m) rfl hb.1
        rw [qy_v3] at h5
        refine go P (N + (m + 1) * n) ?_
        show _ + Int.negSucc m * ρ i ≤ _ - ((N + (m + 1) * n : Nat) : Int)
        omega
      | .negSucc m, .negSucc n, q2, hb, go =>
        have h5 : Int.negSucc m * ρ i ≤ -((m : Int) + 1) * Int.negSucc n := qy_m4 (m := m) rfl hb.1
        rw [qy_v4] at h5
        refine go (P + (m + 1) * (n + 1)) N ?_
        show _ + Int.negSucc m * ρ i ≤ ((P + (m + 1) * (n + 1) : Nat) : Int) - _
        omega
/-- a form's constant in front -/
def qy_k {α : Type} (c : Int) (f : Nat → Nat → α) : α := Int.rec (motive := fun _ => α) (fun m => f m 0) (fun m => f 0 (Nat.succ m)) c
theorem qy_k_e {α : Type} (c : Int) (f : Nat → Nat → α) : ∃ P N : Nat, qy_k c f = f P N ∧ (P : Int) - (N : Int) = c := by
  cases c with
  | ofNat m => exact ⟨m, 0, rfl, by show (m : Int) - 0 = (m : Int); omega⟩
  | negSucc m => exact ⟨0, m + 1, rfl, by rw [Int.negSucc_eq]; omega⟩
def sy_lo (R : sy_T) (e : sy_L) : Option Int := qy_k e.1 (qy_lo (fun P N => some (qi_sub P N)) none R e.2)
theorem sy_lo_e {ρ : Nat → Int} {R : sy_T} (h : sy_ok ρ R) {e : sy_L} {z : Int} (hz : sy_lo R e = some z) : z ≤ sy_e ρ e := by
  unfold sy_lo at hz
  obtain ⟨P, N, h1, h2⟩ := qy_k_e e.1 (qy_lo (fun P N => some (qi_sub P N)) none R e.2)
  rw [h1] at hz
  rcases qy_lo_e (k := fun P N => some (qi_sub P N)) (d := none) h e.2 P N with h3 | ⟨P', N', h3, h4⟩
  · rw [h3] at hz
    cases hz
  · rw [h3] at hz
    have h5 := Option.some.inj hz
    rw [qi_sub_e] at h5
    unfold sy_e
    omega
def sy_hi (R : sy_T) (e : sy_L) : Option Int := qy_k e.1 (qy_hi (fun P N => some (qi_sub P N)) none R e.2)
theorem sy_hi_e {ρ : Nat → Int} {R : sy_T} (h : sy_ok ρ R) {e : sy_L} {z : Int} (hz : sy_hi R e = some z) : sy_e ρ e ≤ z := by
  unfold sy_hi at hz
  obtain ⟨P, N, h1, h2⟩ := qy_k_e e.1 (qy_hi (fun P N => some (qi_sub P N)) none R e.2)
  rw [h1] at hz
  rcases qy_hi_e (k := fun P N => some (qi_sub P N)) (d := none) h e.2 P N with h3 | ⟨P', N', h3, h4⟩
  · rw [h3] at hz
    cases hz
  · rw [h3] at hz
    have h5 := Option.some.inj hz
    rw [qi_sub_e] at h5
    unfold sy_e
    omega
/-- both bounds -/
def sy_b (R : sy_T) (e : sy_L) : Option (Int × Int) := match sy_lo R e, sy_hi R e with
  | some a, some b => some (a, b)
  | _, _ => none
theorem sy_b_e {ρ : Nat → Int} {R : sy_T} (h : sy_ok ρ R) {e : sy_L} {q : Int × Int} (hz : sy_b R e = some q) : q.1 ≤ sy_e ρ e ∧ sy_e ρ e ≤ q.2 := by
  unfold sy_b at hz
  split at hz
  · rename_i a b ha hb
    cases hz
    exact ⟨sy_lo_e h ha, sy_hi_e h hb⟩
  · cases hz
/-! is e at least 0, by ranges, or by some of the constraints -/
/-- the symbols that draw a form below, or all -/
def sy_neg (R : sy_T) (t : Nat × Int) : Bool := Option.rec (motive := fun _ => Bool) false (fun p => Int.rec (motive := fun _ => Bool) (fun m => Int.rec (motive := fun _ => Bool) (fun _ => false) (fun _ => cond (Nat.beq m 0) false true) p.1) (fun _ => Int.rec (motive := fun _ => Bool) (fun n => cond (Nat.beq n 0) false true) (fun _ => false) p.2) t.2) (qx_nth R t.1)
def sy_ngs (R : sy_T) (l : List (Nat × Int)) : List (Nat × Int) := List.rec (motive := fun _ => List (Nat × Int)) l (fun t r _ => t :: r) (qx_filter l (sy_neg R))
def sy_cof (y : Nat) (l : List (Nat × Int)) : Int := List.rec (motive := fun _ => Int) 0 (fun t _ ih => cond (Nat.beq t.1 y) t.2 ih) l
/-- of one sign, and none 0 -/
def qi_sg (a b : Int) : Bool := Int.rec (motive := fun _ => Bool) (fun m => cond (Nat.beq m 0) false (Int.rec (motive := fun _ => Bool) (fun n => cond (Nat.beq n 0) false true) (fun _ => false) b)) (fun _ => Int.rec (motive := fun _ => Bool) (fun _ => false) (fun _ => true) b) a
def sy_l0 (R : sy_T) (e : sy_L) : Bool := qy_k e.1 (qy_lo (fun P N => Nat.ble N P) false R e.2)
def qi_m1 (k : Nat) : Nat := cond (Nat.beq k 0) 1 k
def sy_ps (R : sy_T) (cs : List sy_L) (n : Nat) (e : sy_L) : Bool := Nat.rec (motive := fun _ => sy_L → Bool) (fun e => sy_l0 R e) (fun _ ih e => cond (sy_l0 R e) true (qx_any (sy_ngs R e.2) (fun t => qx_any cs (fun c => cond (qi_sg (sy_cof t.1 c.2) t.2) (cond (ih (sy_sub e (sy_scl (Int.ofNat (qi_m1 (Nat.div (qi_abs t.2) (qi_abs (sy_cof t.1 c.2))))) c))) true (cond (Nat.ble 2 (Nat.div (qi_abs t.2) (qi_abs (sy_cof t.1 c.2)))) (ih (sy_sub e c)) false)) false)))) n e
/-- surely below 0: no search -/
def sy_hng (R : sy_T) (e : sy_L) : Bool := qy_k e.1 (qy_hi (fun P N => Nat.ble (Nat.succ P) N) false R e.2)
def sy_mxc (cs : List sy_L) (k : Nat) : Bool := qx_any cs (fun c => qx_any c.2 (fun t => Nat.ble k (qi_abs t.2)))
def sy_pos (R : sy_T) (cs : List sy_L) (e : sy_L) : Bool := cond (sy_hng R e) false (cond (Nat.ble 8 (qx_len cs)) (cond (sy_ps R cs 3 e) true (cond (sy_mxc cs 2) (cond (sy_ps R cs 3 (sy_add (sy_add e e) (sy_c 1))) true (cond (sy_mxc cs 9) (sy_ps R cs 3 (sy_add (sy_scl 16 e) (sy_c 15))) false)) false)) (cond (sy_ps R cs 5 e) true (cond (sy_mxc cs 2) (sy_ps R cs 3 (sy_add (sy_add e e) (sy_c 1))) false)))
def sy_cok (ρ : Nat → Int) (cs : List sy_L) : Prop := ∀ c ∈ cs, 0 ≤ sy_e ρ c
theorem sy_l0_e {ρ : Nat → Int} {R : sy_T} (h : sy_ok ρ R) {e : sy_L} (hp : sy_l0 R e = true) : 0 ≤ sy_e ρ e := by
  unfold sy_l0 at hp
  obtain ⟨P, N, h1, h2⟩ := qy_k_e e.1 (qy_lo (fun P N => Nat.ble N P) false R e.2)
  rw [h1] at hp
  rcases qy_lo_e (k := fun P N => Nat.ble N P) (d := false) h e.2 P N with h3 | ⟨P', N', h3, h4⟩
  · rw [h3] at hp
    cases hp
  · rw [h3] at hp
    have h5 := Nat.le_of_ble_eq_true hp
    unfold sy_e
    omega
theorem qx_or {a b : Bool} (h : cond a true b = true) : a = true ∨ b = true := by
  cases a with
  | true => exact .inl rfl
  | false => exact .inr h
theorem qx_and {a b : Bool} (h : cond a b false = true) : a = true ∧ b = true := by
  cases a with
  | true => exact ⟨rfl, h⟩
  | false => cases h
theorem qx_nand {a b : Bool} (h : cond a false b = true) : a = false ∧ b = true := by
  cases a with
  | true => cases h
  | false => exact ⟨rfl, h⟩
theorem sy_ps_e {ρ : Nat → Int} {R : sy_T} {cs : List sy_L} (h : sy_ok ρ R) (hc : sy_cok ρ cs) : ∀ (n : Nat) {e : sy_L}, sy_ps R cs n e = true → 0 ≤ sy_e ρ e
  | 0, e, hp => sy_l0_e h hp
  | n + 1, e, hp => by
    have hp0 : cond (sy_l0 R e) true (qx_any (sy_ngs R e.2) (fun t => qx_any cs (fun c => cond (qi_sg (sy_cof t.1 c.2) t.2) (cond (sy_ps R cs n (sy_sub e (sy_scl (Int.ofNat (qi_m1 (Nat.div (qi_abs t.2) (qi_abs (sy_cof t.1 c.2))))) c))) true (cond (Nat.ble 2 (Nat.div (qi_abs t.2) (qi_abs (sy_cof t.1 c.2)))) (sy_ps R cs n (sy_sub e c)) false)) false))) = true := hp
    rcases qx_or hp0 with hp1 | hp1
    · exact sy_l0_e h hp1
    · rw [qx_any_e] at hp1
      obtain ⟨t, -, ht⟩ := List.any_eq_true.mp hp1
      rw [qx_any_e] at ht
      obtain ⟨c, h1, h2⟩ := List.any_eq_true.mp ht
      rcases qx_or (qx_and h2).2 with h3 | h3
      · have h4 := sy_ps_e h hc n h3
        rw [sy_sub_e, sy_scl_e] at h4
        have h5 := Int.mul_nonneg (Int.natCast_nonneg (qi_m1 (Nat.div (qi_abs t.2) (qi_abs (sy_cof t.1 c.2))))) (hc c h1)
        have h6 : 0 ≤ sy_e ρ e - ((qi_m1 (Nat.div (qi_abs t.2) (qi_abs (sy_cof t.1 c.2))) : Nat) : Int) * sy_e ρ c := h4
        omega
      · have h4 := sy_ps_e h hc n (qx_and h3).2
        rw [sy_sub_e] at h4
        have := hc c h1
        omega
theorem sy_pos_e {ρ : Nat → Int} {R : sy_T} {cs : List sy_L} (h : sy_ok ρ R) (hc : sy_cok ρ cs) {e : sy_L} (hp : sy_pos R cs e = true) : 0 ≤ sy_e ρ e := by
  unfold sy_pos at hp
  replace hp := (qx_nand hp).2
  have two : sy_ps R cs 3 (sy_add (sy_add e e) (sy_c 1)) = true → 0 ≤ sy_e ρ e := fun hp => by
    have := sy_ps_e h hc 3 hp
    rw [sy_add_e, sy_add_e, sy_c_e] at this
    omega
  cases hl : Nat.ble 8 (qx_len cs) with
  | true =>
    rw [hl] at hp
    rcases qx_or (b := cond (sy_mxc cs 2) (cond (sy_ps R cs 3 (sy_add (sy_add e e) (sy_c 1))) true (cond (sy_mxc cs 9) (sy_ps R cs 3 (sy_add (sy_scl 16 e) (sy_c 15))) false)) false) hp with hp | hp
    · exact sy_ps_e h hc 3 hp
    · rcases qx_or (qx_and hp).2 with hp | hp
      · exact two hp
      · have := sy_ps_e h hc 3 (qx_and hp).2
        rw [sy_add_e, sy_scl_e, sy_c_e] at this
        omega
  | false =>
    rw [hl] at hp
    rcases qx_or (b := cond (sy_mxc cs 2) (sy_ps R cs 3 (sy_add (sy_add e e) (sy_c 1))) false) hp with hp | hp
    · exact sy_ps_e h hc 5 hp
    · exact two (qx_and hp).2
/-! values -/
abbrev sy_A : Type := sy_L ⊕ (Nat ⊕ Nat)
def sy_v (ρ : Nat → Int) (τ : Nat → Int64) (a : sy_A) : Value := match a with
  | .inl e => .int (Int32.ofInt (sy_e ρ e))
  | .inr (.inl k) => .ref k
  | .inr (.inr s) => .long (τ s)
theorem sy_v_i (ρ : Nat → Int) (τ : Nat → Int64) (e : sy_L) : sy_v ρ τ (.inl e) = .int (Int32.ofInt (sy_e ρ e)) := rfl
/-- a form's value as an int of the machine, where its range fits -/
def sy_fit (q : Int × Int) : Bool := cond (qi_le (Int.negSucc 2147483647) q.1) (qi_le q.2 (Int.ofNat 2147483647)) false
theorem sy_fit_iff {q : Int × Int} (h : sy_fit q = true) : -2147483648 ≤ q.1 ∧ q.2 ≤ 2147483647 := by
  obtain ⟨h1, h2⟩ := qx_and h
  exact ⟨qi_le_e.mp h1, qi_le_e.mp h2⟩
theorem sy_fit_e {z : Int} {q : Int × Int} (hf : sy_fit q = true) (h1 : q.1 ≤ z) (h2 : z ≤ q.2) : (Int32.ofInt z).toInt = z := by
  replace hf := sy_fit_iff hf
  exact Int32.toInt_ofInt_of_le (by omega) (by omega)
theorem sy_int_bounds (x : Int32) : -2147483648 ≤ x.toInt ∧ x.toInt ≤ 2147483647 := by
  have h1 := Int32.toInt_lt x
  have h2 := Int32.le_toInt x
  omega

end
