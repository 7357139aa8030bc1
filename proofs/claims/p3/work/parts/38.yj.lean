noncomputable section
/-! WHAT keep AND again COPY -/
theorem ef_cp_ok {w : px_W} {a b n : Nat} {sg sg' : sy_Sg} (hW : ec_W hb_A w) (ha : hb_A[a]? = some (.inl (n, sg))) (hb : hb_A[b]? = some (.inl (n, sg'))) : ef_s [b] w (ec_cp w a b 0 0 (n : Int)) ∧ ef_a (ec_cp w a b 0 0 (n : Int)) b = ef_a w a := by
  obtain ⟨la, hla, na⟩ := ec_W_row hW ha
  obtain ⟨lb, hlb, nb⟩ := ec_W_row hW hb
  refine ⟨fun k hk => ec_cp_ne (fun e => hk (by rw [e]; exact List.mem_cons_self)), ?_⟩
  funext p
  unfold ef_a ec_rd ec_cp
  rw [hla, hlb]
  dsimp only
  rw [List.getElem?_set_self (List.getElem?_eq_some_iff.mp hlb).1]
  dsimp only
  have e : px_cpy la lb (0 : Int).toNat (0 : Int).toNat (n : Int).toNat = la := by
    unfold px_cpy
    rw [Int.toNat_natCast]
    show lb.take 0 ++ ((la.drop 0).take n ++ lb.drop (0 + n)) = la
    rw [List.take_zero, List.nil_append, List.drop_zero, Nat.zero_add, List.take_of_length_le (by omega), List.drop_eq_nil_of_le (by omega), List.append_nil]
  rw [e]
theorem ew_cp2_60 {n : Nat} {w : px_W} {r : Option Value × px_W} (h : ec_E hb_X n 176 0 [(0, .inr (.inl 66)), (1, .inr (.inl 124))] [] w r) : ∃ w' : px_W, r = (none, w') ∧ ec_W hb_A w' ∧ ef_s [60] w w' ∧ ef_a w' 60 = ef_a w 2 := by
  obtain ⟨_, hr, hW⟩ := egk2_60 h
  have e : ec_cp w 2 60 (ec_tw 0) (ec_tw 0) (ec_tw (ec_mn 8 8)) = ec_cp w 2 60 0 0 ((8 : Nat) : Int) := rfl
  rw [e] at hr hW
  have k := ef_cp_ok (w := w) (a := 2) (b := 60) (n := 8) h.1 rfl rfl
  exact ⟨_, hr, hW, k.1, k.2⟩
theorem ew_cp3_61 {n : Nat} {w : px_W} {r : Option Value × px_W} (h : ec_E hb_X n 176 0 [(0, .inr (.inl 67)), (1, .inr (.inl 125))] [] w r) : ∃ w' : px_W, r = (none, w') ∧ ec_W hb_A w' ∧ ef_s [61] w w' ∧ ef_a w' 61 = ef_a w 3 := by
  obtain ⟨_, hr, hW⟩ := egk3_61 h
  have e : ec_cp w 3 61 (ec_tw 0) (ec_tw 0) (ec_tw (ec_mn 8 8)) = ec_cp w 3 61 0 0 ((8 : Nat) : Int) := rfl
  rw [e] at hr hW
  have k := ef_cp_ok (w := w) (a := 3) (b := 61) (n := 8) h.1 rfl rfl
  exact ⟨_, hr, hW, k.1, k.2⟩
theorem ew_cp4_62 {n : Nat} {w : px_W} {r : Option Value × px_W} (h : ec_E hb_X n 176 0 [(0, .inr (.inl 68)), (1, .inr (.inl 126))] [] w r) : ∃ w' : px_W, r = (none, w') ∧ ec_W hb_A w' ∧ ef_s [62] w w' ∧ ef_a w' 62 = ef_a w 4 := by
  obtain ⟨_, hr, hW⟩ := egk4_62 h
  have e : ec_cp w 4 62 (ec_tw 0) (ec_tw 0) (ec_tw (ec_mn 8 8)) = ec_cp w 4 62 0 0 ((8 : Nat) : Int) := rfl
  rw [e] at hr hW
  have k := ef_cp_ok (w := w) (a := 4) (b := 62) (n := 8) h.1 rfl rfl
  exact ⟨_, hr, hW, k.1, k.2⟩
theorem ew_cp5_63 {n : Nat} {w : px_W} {r : Option Value × px_W} (h : ec_E hb_X n 176 0 [(0, .inr (.inl 69)), (1, .inr (.inl 127))] [] w r) : ∃ w' : px_W, r = (none, w') ∧ ec_W hb_A w' ∧ ef_s [63] w w' ∧ ef_a w' 63 = ef_a w 5 := by
  obtain ⟨_, hr, hW⟩ := egk5_63 h
  have e : ec_cp w 5 63 (ec_tw 0) (ec_tw 0) (ec_tw (ec_mn 8 8)) = ec_cp w 5 63 0 0 ((8 : Nat) : Int) := rfl
  rw [e] at hr hW
  have k := ef_cp_ok (w := w) (a := 5) (b := 63) (n := 8) h.1 rfl rfl
  exact ⟨_, hr, hW, k.1, k.2⟩
theorem ew_cp6_64 {n : Nat} {w : px_W} {r : Option Value × px_W} (h : ec_E hb_X n 176 0 [(0, .inr (.inl 70)), (1, .inr (.inl 128))] [] w r) : ∃ w' : px_W, r = (none, w') ∧ ec_W hb_A w' ∧ ef_s [64] w w' ∧ ef_a w' 64 = ef_a w 6 := by
  obtain ⟨_, hr, hW⟩ := egk6_64 h
  have e : ec_cp w 6 64 (ec_tw 0) (ec_tw 0) (ec_tw (ec_mn 7 7)) = ec_cp w 6 64 0 0 ((7 : Nat) : Int) := rfl
  rw [e] at hr hW
  have k := ef_cp_ok (w := w) (a := 6) (b := 64) (n := 7) h.1 rfl rfl
  exact ⟨_, hr, hW, k.1, k.2⟩
theorem ew_cp7_65 {n : Nat} {w : px_W} {r : Option Value × px_W} (h : ec_E hb_X n 176 0 [(0, .inr (.inl 71)), (1, .inr (.inl 129))] [] w r) : ∃ w' : px_W, r = (none, w') ∧ ec_W hb_A w' ∧ ef_s [65] w w' ∧ ef_a w' 65 = ef_a w 7 := by
  obtain ⟨_, hr, hW⟩ := egk7_65 h
  have e : ec_cp w 7 65 (ec_tw 0) (ec_tw 0) (ec_tw (ec_mn 7 7)) = ec_cp w 7 65 0 0 ((7 : Nat) : Int) := rfl
  rw [e] at hr hW
  have k := ef_cp_ok (w := w) (a := 7) (b := 65) (n := 7) h.1 rfl rfl
  exact ⟨_, hr, hW, k.1, k.2⟩
theorem ew_cp60_2 {n : Nat} {w : px_W} {r : Option Value × px_W} (h : ec_E hb_X n 176 0 [(0, .inr (.inl 124)), (1, .inr (.inl 66))] [] w r) : ∃ w' : px_W, r = (none, w') ∧ ec_W hb_A w' ∧ ef_s [2] w w' ∧ ef_a w' 2 = ef_a w 60 := by
  obtain ⟨_, hr, hW⟩ := egk60_2 h
  have e : ec_cp w 60 2 (ec_tw 0) (ec_tw 0) (ec_tw (ec_mn 8 8)) = ec_cp w 60 2 0 0 ((8 : Nat) : Int) := rfl
  rw [e] at hr hW
  have k := ef_cp_ok (w := w) (a := 60) (b := 2) (n := 8) h.1 rfl rfl
  exact ⟨_, hr, hW, k.1, k.2⟩
theorem ew_cp61_3 {n : Nat} {w : px_W} {r : Option Value × px_W} (h : ec_E hb_X n 176 0 [(0, .inr (.inl 125)), (1, .inr (.inl 67))] [] w r) : ∃ w' : px_W, r = (none, w') ∧ ec_W hb_A w' ∧ ef_s [3] w w' ∧ ef_a w' 3 = ef_a w 61 := by
  obtain ⟨_, hr, hW⟩ := egk61_3 h
  have e : ec_cp w 61 3 (ec_tw 0) (ec_tw 0) (ec_tw (ec_mn 8 8)) = ec_cp w 61 3 0 0 ((8 : Nat) : Int) := rfl
  rw [e] at hr hW
  have k := ef_cp_ok (w := w) (a := 61) (b := 3) (n := 8) h.1 rfl rfl
  exact ⟨_, hr, hW, k.1, k.2⟩
theorem ew_cp62_4 {n : Nat} {w : px_W} {r : Option Value × px_W} (h : ec_E hb_X n 176 0 [(0, .inr (.inl 126)), (1, .inr (.inl 68))] [] w r) : ∃ w' : px_W, r = (none, w') ∧ ec_W hb_A w' ∧ ef_s [4] w w' ∧ ef_a w' 4 = ef_a w 62 := by
  obtain ⟨_, hr, hW⟩ := egk62_4 h
  have e : ec_cp w 62 4 (ec_tw 0) (ec_tw 0) (ec_tw (ec_mn 8 8)) = ec_cp w 62 4 0 0 ((8 : Nat) : Int) := rfl
  rw [e] at hr hW
  have k := ef_cp_ok (w := w) (a := 62) (b := 4) (n := 8) h.1 rfl rfl
  exact ⟨_, hr, hW, k.1, k.2⟩
theorem ew_cp63_5 {n : Nat} {w : px_W} {r : Option Value × px_W} (h : ec_E hb_X n 176 0 [(0, .inr (.inl 127)), (1, .inr (.inl 69))] [] w r) : ∃ w' : px_W, r = (none, w') ∧ ec_W hb_A w' ∧ ef_s [5] w w' ∧ ef_a w' 5 = ef_a w 63 := by
  obtain ⟨_, hr, hW⟩ := egk63_5 h
  have e : ec_cp w 63 5 (ec_tw 0) (ec_tw 0) (ec_tw (ec_mn 8 8)) = ec_cp w 63 5 0 0 ((8 : Nat) : Int) := rfl
  rw [e] at hr hW
  have k := ef_cp_ok (w := w) (a := 63) (b := 5) (n := 8) h.1 rfl rfl
  exact ⟨_, hr, hW, k.1, k.2⟩
theorem ew_cp64_6 {n : Nat} {w : px_W} {r : Option Value × px_W} (h : ec_E hb_X n 176 0 [(0, .inr (.inl 128)), (1, .inr (.inl 70))] [] w r) : ∃ w' : px_W, r = (none, w') ∧ ec_W hb_A w' ∧ ef_s [6] w w' ∧ ef_a w' 6 = ef_a w 64 := by
  obtain ⟨_, hr, hW⟩ := egk64_6 h
  have e : ec_cp w 64 6 (ec_tw 0) (ec_tw 0) (ec_tw (ec_mn 7 7)) = ec_cp w 64 6 0 0 ((7 : Nat) : Int) := rfl
  rw [e] at hr hW
  have k := ef_cp_ok (w := w) (a := 64) (b := 6) (n := 7) h.1 rfl rfl
  exact ⟨_, hr, hW, k.1, k.2⟩
theorem ew_cp65_7 {n : Nat} {w : px_W} {r : Option Value × px_W} (h : ec_E hb_X n 176 0 [(0, .inr (.inl 129)), (1, .inr (.inl 71))] [] w r) : ∃ w' : px_W, r = (none, w') ∧ ec_W hb_A w' ∧ ef_s [7] w w' ∧ ef_a w' 7 = ef_a w 65 := by
  obtain ⟨_, hr, hW⟩ := egk65_7 h
  have e : ec_cp w 65 7 (ec_tw 0) (ec_tw 0) (ec_tw (ec_mn 7 7)) = ec_cp w 65 7 0 0 ((7 : Nat) : Int) := rfl
  rw [e] at hr hW
  have k := ef_cp_ok (w := w) (a := 65) (b := 7) (n := 7) h.1 rfl rfl
  exact ⟨_, hr, hW, k.1, k.2⟩
theorem ew_cp11_69 {n : Nat} {w : px_W} {r : Option Value × px_W} (h : ec_E hb_X n 176 0 [(0, .inr (.inl 75)), (1, .inr (.inl 133))] [] w r) : ∃ w' : px_W, r = (none, w') ∧ ec_W hb_A w' ∧ ef_s [69] w w' ∧ ef_a w' 69 = ef_a w 11 := by
  obtain ⟨_, hr, hW⟩ := egk11_69 h
  have e : ec_cp w 11 69 (ec_tw 0) (ec_tw 0) (ec_tw (ec_mn 16 16)) = ec_cp w 11 69 0 0 ((16 : Nat) : Int) := rfl
  rw [e] at hr hW
  have k := ef_cp_ok (w := w) (a := 11) (b := 69) (n := 16) h.1 rfl rfl
  exact ⟨_, hr, hW, k.1, k.2⟩
theorem ew_cp12_70 {n : Nat} {w : px_W} {r : Option Value × px_W} (h : ec_E hb_X n 176 0 [(0, .inr (.inl 76)), (1, .inr (.inl 134))] [] w r) : ∃ w' : px_W, r = (none, w') ∧ ec_W hb_A w' ∧ ef_s [70] w w' ∧ ef_a w' 70 = ef_a w 12 := by
  obtain ⟨_, hr, hW⟩ := egk12_70 h
  have e : ec_cp w 12 70 (ec_tw 0) (ec_tw 0) (ec_tw (ec_mn 16 16)) = ec_cp w 12 70 0 0 ((16 : Nat) : Int) := rfl
  rw [e] at hr hW
  have k := ef_cp_ok (w := w) (a := 12) (b := 70) (n := 16) h.1 rfl rfl
  exact ⟨_, hr, hW, k.1, k.2⟩
theorem ew_cp13_71 {n : Nat} {w : px_W} {r : Option Value × px_W} (h : ec_E hb_X n 176 0 [(0, .inr (.inl 77)), (1, .inr (.inl 135))] [] w r) : ∃ w' : px_W, r = (none, w') ∧ ec_W hb_A w' ∧ ef_s [71] w w' ∧ ef_a w' 71 = ef_a w 13 := by
  obtain ⟨_, hr, hW⟩ := egk13_71 h
  have e : ec_cp w 13 71 (ec_tw 0) (ec_tw 0) (ec_tw (ec_mn 16 16)) = ec_cp w 13 71 0 0 ((16 : Nat) : Int) := rfl
  rw [e] at hr hW
  have k := ef_cp_ok (w := w) (a := 13) (b := 71) (n := 16) h.1 rfl rfl
  exact ⟨_, hr, hW, k.1, k.2⟩
theorem ew_cp14_72 {n : Nat} {w : px_W} {r : Option Value × px_W} (h : ec_E hb_X n 176 0 [(0, .inr (.inl 78)), (1, .inr (.inl 136))] [] w r) : ∃ w' : px_W, r = (none, w') ∧ ec_W hb_A w' ∧ ef_s [72] w w' ∧ ef_a w' 72 = ef_a w 14 := by
  obtain ⟨_, hr, hW⟩ := egk14_72 h
  have e : ec_cp w 14 72 (ec_tw 0) (ec_tw 0) (ec_tw (ec_mn 16 16)) = ec_cp w 14 72 0 0 ((16 : Nat) : Int) := rfl
  rw [e] at hr hW
  have k := ef_cp_ok (w := w) (a := 14) (b := 72) (n := 16) h.1 rfl rfl
  exact ⟨_, hr, hW, k.1, k.2⟩
theorem ew_cp69_11 {n : Nat} {w : px_W} {r : Option Value × px_W} (h : ec_E hb_X n 176 0 [(0, .inr (.inl 133)), (1, .inr (.inl 75))] [] w r) : ∃ w' : px_W, r = (none, w') ∧ ec_W hb_A w' ∧ ef_s [11] w w' ∧ ef_a w' 11 = ef_a w 69 := by
  obtain ⟨_, hr, hW⟩ := egk69_11 h
  have e : ec_cp w 69 11 (ec_tw 0) (ec_tw 0) (ec_tw (ec_mn 16 16)) = ec_cp w 69 11 0 0 ((16 : Nat) : Int) := rfl
  rw [e] at hr hW
  have k := ef_cp_ok (w := w) (a := 69) (b := 11) (n := 16) h.1 rfl rfl
  exact ⟨_, hr, hW, k.1, k.2⟩
theorem ew_cp70_12 {n : Nat} {w : px_W} {r : Option Value × px_W} (h : ec_E hb_X n 176 0 [(0, .inr (.inl 134)), (1, .inr (.inl 76))] [] w r) : ∃ w' : px_W, r = (none, w') ∧ ec_W hb_A w' ∧ ef_s [12] w w' ∧ ef_a w' 12 = ef_a w 70 := by
  obtain ⟨_, hr, hW⟩ := egk70_12 h
  have e : ec_cp w 70 12 (ec_tw 0) (ec_tw 0) (ec_tw (ec_mn 16 16)) = ec_cp w 70 12 0 0 ((16 : Nat) : Int) := rfl
  rw [e] at hr hW
  have k := ef_cp_ok (w := w) (a := 70) (b := 12) (n := 16) h.1 rfl rfl
  exact ⟨_, hr, hW, k.1, k.2⟩
theorem ew_cp71_13 {n : Nat} {w : px_W} {r : Option Value × px_W} (h : ec_E hb_X n 176 0 [(0, .inr (.inl 135)), (1, .inr (.inl 77))] [] w r) : ∃ w' : px_W, r = (none, w') ∧ ec_W hb_A w' ∧ ef_s [13] w w' ∧ ef_a w' 13 = ef_a w 71 := by
  obtain ⟨_, hr, hW⟩ := egk71_13 h
  have e : ec_cp w 71 13 (ec_tw 0) (ec_tw 0) (ec_tw (ec_mn 16 16)) = ec_cp w 71 13 0 0 ((16 : Nat) : Int) := rfl
  rw [e] at hr hW
  have k := ef_cp_ok (w := w) (a := 71) (b := 13) (n := 16) h.1 rfl rfl
  exact ⟨_, hr, hW, k.1, k.2⟩
theorem ew_cp72_14 {n : Nat} {w : px_W} {r : Option Value × px_W} (h : ec_E hb_X n 176 0 [(0, .inr (.inl 136)), (1, .inr (.inl 78))] [] w r) : ∃ w' : px_W, r = (none, w') ∧ ec_W hb_A w' ∧ ef_s [14] w w' ∧ ef_a w' 14 = ef_a w 72 := by
  obtain ⟨_, hr, hW⟩ := egk72_14 h
  have e : ec_cp w 72 14 (ec_tw 0) (ec_tw 0) (ec_tw (ec_mn 16 16)) = ec_cp w 72 14 0 0 ((16 : Nat) : Int) := rfl
  rw [e] at hr hW
  have k := ef_cp_ok (w := w) (a := 72) (b := 14) (n := 16) h.1 rfl rfl
  exact ⟨_, hr, hW, k.1, k.2⟩
theorem ew_cp16_74 {n : Nat} {w : px_W} {r : Option Value × px_W} (h : ec_E hb_X n 176 0 [(0, .inr (.inl 80)), (1, .inr (.inl 138))] [] w r) : ∃ w' : px_W, r = (none, w') ∧ ec_W hb_A w' ∧ ef_s [74] w w' ∧ ef_a w' 74 = ef_a w 16 := by
  obtain ⟨_, hr, hW⟩ := egk16_74 h
  have e : ec_cp w 16 74 (ec_tw 0) (ec_tw 0) (ec_tw (ec_mn 12 12)) = ec_cp w 16 74 0 0 ((12 : Nat) : Int) := rfl
  rw [e] at hr hW
  have k := ef_cp_ok (w := w) (a := 16) (b := 74) (n := 12) h.1 rfl rfl
  exact ⟨_, hr, hW, k.1, k.2⟩
theorem ew_cp17_75 {n : Nat} {w : px_W} {r : Option Value × px_W} (h : ec_E hb_X n 176 0 [(0, .inr (.inl 81)), (1, .inr (.inl 139))] [] w r) : ∃ w' : px_W, r = (none, w') ∧ ec_W hb_A w' ∧ ef_s [75] w w' ∧ ef_a w' 75 = ef_a w 17 := by
  obtain ⟨_, hr, hW⟩ := egk17_75 h
  have e : ec_cp w 17 75 (ec_tw 0) (ec_tw 0) (ec_tw (ec_mn 12 12)) = ec_cp w 17 75 0 0 ((12 : Nat) : Int) := rfl
  rw [e] at hr hW
  have k := ef_cp_ok (w := w) (a := 17) (b := 75) (n := 12) h.1 rfl rfl
  exact ⟨_, hr, hW, k.1, k.2⟩
theorem ew_cp18_76 {n : Nat} {w : px_W} {r : Option Value × px_W} (h : ec_E hb_X n 176 0 [(0, .inr (.inl 82)), (1, .inr (.inl 140))] [] w r) : ∃ w' : px_W, r = (none, w') ∧ ec_W hb_A w' ∧ ef_s [76] w w' ∧ ef_a w' 76 = ef_a w 18 := by
  obtain ⟨_, hr, hW⟩ := egk18_76 h
  have e : ec_cp w 18 76 (ec_tw 0) (ec_tw 0) (ec_tw (ec_mn 12 12)) = ec_cp w 18 76 0 0 ((12 : Nat) : Int) := rfl
  rw [e] at hr hW
  have k := ef_cp_ok (w := w) (a := 18) (b := 76) (n := 12) h.1 rfl rfl
  exact ⟨_, hr, hW, k.1, k.2⟩
theorem ew_cp19_77 {n : Nat} {w : px_W} {r : Option Value × px_W} (h : ec_E hb_X n 176 0 [(0, .inr (.inl 83)), (1, .inr (.inl 141))] [] w r) : ∃ w' : px_W, r = (none, w') ∧ ec_W hb_A w' ∧ ef_s [77] w w' ∧ ef_a w' 77 = ef_a w 19 := by
  obtain ⟨_, hr, hW⟩ := egk19_77 h
  have e : ec_cp w 19 77 (ec_tw 0) (ec_tw 0) (ec_tw (ec_mn 12 12)) = ec_cp w 19 77 0 0 ((12 : Nat) : Int) := rfl
  rw [e] at hr hW
  have k := ef_cp_ok (w := w) (a := 19) (b := 77) (n := 12) h.1 rfl rfl
  exact ⟨_, hr, hW, k.1, k.2⟩
theorem ew_cp20_78 {n : Nat} {w : px_W} {r : Option Value × px_W} (h : ec_E hb_X n 176 0 [(0, .inr (.inl 84)), (1, .inr (.inl 142))] [] w r) : ∃ w' : px_W, r = (none, w') ∧ ec_W hb_A w' ∧ ef_s [78] w w' ∧ ef_a w' 78 = ef_a w 20 := by
  obtain ⟨_, hr, hW⟩ := egk20_78 h
  have e : ec_cp w 20 78 (ec_tw 0) (ec_tw 0) (ec_tw (ec_mn 10 10)) = ec_cp w 20 78 0 0 ((10 : Nat) : Int) := rfl
  rw [e] at hr hW
  have k := ef_cp_ok (w := w) (a := 20) (b := 78) (n := 10) h.1 rfl rfl
  exact ⟨_, hr, hW, k.1, k.2⟩
theorem ew_cp21_79 {n : Nat} {w : px_W} {r : Option Value × px_W} (h : ec_E hb_X n 176 0 [(0, .inr (.inl 85)), (1, .inr (.inl 143))] [] w r) : ∃ w' : px_W, r = (none, w') ∧ ec_W hb_A w' ∧ ef_s [79] w w' ∧ ef_a w' 79 = ef_a w 21 := by
  obtain ⟨_, hr, hW⟩ := egk21_79 h
  have e : ec_cp w 21 79 (ec_tw 0) (ec_tw 0) (ec_tw (ec_mn 10 10)) = ec_cp w 21 79 0 0 ((10 : Nat) : Int) := rfl
  rw [e] at hr hW
  have k := ef_cp_ok (w := w) (a := 21) (b := 79) (n := 10) h.1 rfl rfl
  exact ⟨_, hr, hW, k.1, k.2⟩
theorem ew_cp22_80 {n : Nat} {w : px_W} {r : Option Value × px_W} (h : ec_E hb_X n 176 0 [(0, .inr (.inl 86)), (1, .inr (.inl 144))] [] w r) : ∃ w' : px_W, r = (none, w') ∧ ec_W hb_A w' ∧ ef_s [80] w w' ∧ ef_a w' 80 = ef_a w 22 := by
  obtain ⟨_, hr, hW⟩ := egk22_80 h
  have e : ec_cp w 22 80 (ec_tw 0) (ec_tw 0) (ec_tw (ec_mn 10 10)) = ec_cp w 22 80 0 0 ((10 : Nat) : Int) := rfl
  rw [e] at hr hW
  have k := ef_cp_ok (w := w) (a := 22) (b := 80) (n := 10) h.1 rfl rfl
  exact ⟨_, hr, hW, k.1, k.2⟩
theorem ew_cp23_81 {n : Nat} {w : px_W} {r : Option Value × px_W} (h : ec_E hb_X n 176 0 [(0, .inr (.inl 87)), (1, .inr (.inl 145))] [] w r) : ∃ w' : px_W, r = (none, w') ∧ ec_W hb_A w' ∧ ef_s [81] w w' ∧ ef_a w' 81 = ef_a w 23 := by
  obtain ⟨_, hr, hW⟩ := egk23_81 h
  have e : ec_cp w 23 81 (ec_tw 0) (ec_tw 0) (ec_tw (ec_mn 10 10)) = ec_cp w 23 81 0 0 ((10 : Nat) : Int) := rfl
  rw [e] at hr hW
  have k := ef_cp_ok (w := w) (a := 23) (b := 81) (n := 10) h.1 rfl rfl
  exact ⟨_, hr, hW, k.1, k.2⟩
theorem ew_cp24_82 {n : Nat} {w : px_W} {r : Option Value × px_W} (h : ec_E hb_X n 176 0 [(0, .inr (.inl 88)), (1, .inr (.inl 146))] [] w r) : ∃ w' : px_W, r = (none, w') ∧ ec_W hb_A w' ∧ ef_s [82] w w' ∧ ef_a w' 82 = ef_a w 24 := by
  obtain ⟨_, hr, hW⟩ := egk24_82 h
  have e : ec_cp w 24 82 (ec_tw 0) (ec_tw 0) (ec_tw (ec_mn 8 8)) = ec_cp w 24 82 0 0 ((8 : Nat) : Int) := rfl
  rw [e] at hr hW
  have k := ef_cp_ok (w := w) (a := 24) (b := 82) (n := 8) h.1 rfl rfl
  exact ⟨_, hr, hW, k.1, k.2⟩
theorem ew_cp25_83 {n : Nat} {w : px_W} {r : Option Value × px_W} (h : ec_E hb_X n 176 0 [(0, .inr (.inl 89)), (1, .inr (.inl 147))] [] w r) : ∃ w' : px_W, r = (none, w') ∧ ec_W hb_A w' ∧ ef_s [83] w w' ∧ ef_a w' 83 = ef_a w 25 := by
  obtain ⟨_, hr, hW⟩ := egk25_83 h
  have e : ec_cp w 25 83 (ec_tw 0) (ec_tw 0) (ec_tw (ec_mn 8 8)) = ec_cp w 25 83 0 0 ((8 : Nat) : Int) := rfl
  rw [e] at hr hW
  have k := ef_cp_ok (w := w) (a := 25) (b := 83) (n := 8) h.1 rfl rfl
  exact ⟨_, hr, hW, k.1, k.2⟩
theorem ew_cp26_84 {n : Nat} {w : px_W} {r : Option Value × px_W} (h : ec_E hb_X n 176 0 [(0, .inr (.inl 90)), (1, .inr (.inl 148))] [] w r) : ∃ w' : px_W, r = (none, w') ∧ ec_W hb_A w' ∧ ef_s [84] w w' ∧ ef_a w' 84 = ef_a w 26 := by
  obtain ⟨_, hr, hW⟩ := egk26_84 h
  have e : ec_cp w 26 84 (ec_tw 0) (ec_tw 0) (ec_tw (ec_mn 8 8)) = ec_cp w 26 84 0 0 ((8 : Nat) : Int) := rfl
  rw [e] at hr hW
  have k := ef_cp_ok (w := w) (a := 26) (b := 84) (n := 8) h.1 rfl rfl
  exact ⟨_, hr, hW, k.1, k.2⟩
theorem ew_cp27_85 {n : Nat} {w : px_W} {r : Option Value × px_W} (h : ec_E hb_X n 176 0 [(0, .inr (.inl 91)), (1, .inr (.inl 149))] [] w r) : ∃ w' : px_W, r = (none, w') ∧ ec_W hb_A w' ∧ ef_s [85] w w' ∧ ef_a w' 85 = ef_a w 27 := by
  obtain ⟨_, hr, hW⟩ := egk27_85 h
  have e : ec_cp w 27 85 (ec_tw 0) (ec_tw 0) (ec_tw (ec_mn 8 8)) = ec_cp w 27 85 0 0 ((8 : Nat) : Int) := rfl
  rw [e] at hr hW
  have k := ef_cp_ok (w := w) (a := 27) (b := 85) (n := 8) h.1 rfl rfl
  exact ⟨_, hr, hW, k.1, k.2⟩
theorem ew_cp74_16 {n : Nat} {w : px_W} {r : Option Value × px_W} (h : ec_E hb_X n 176 0 [(0, .inr (.inl 138)), (1, .inr (.inl 80))] [] w r) : ∃ w' : px_W, r = (none, w') ∧ ec_W hb_A w' ∧ ef_s [16] w w' ∧ ef_a w' 16 = ef_a w 74 := by
  obtain ⟨_, hr, hW⟩ := egk74_16 h
  have e : ec_cp w 74 16 (ec_tw 0) (ec_tw 0) (ec_tw (ec_mn 12 12)) = ec_cp w 74 16 0 0 ((12 : Nat) : Int) := rfl
  rw [e] at hr hW
  have k := ef_cp_ok (w := w) (a := 74) (b := 16) (n := 12) h.1 rfl rfl
  exact ⟨_, hr, hW, k.1, k.2⟩
theorem ew_cp75_17 {n : Nat} {w : px_W} {r : Option Value × px_W} (h : ec_E hb_X n 176 0 [(0, .inr (.inl 139)), (1, .inr (.inl 81))] [] w r) : ∃ w' : px_W, r = (none, w') ∧ ec_W hb_A w' ∧ ef_s [17] w w' ∧ ef_a w' 17 = ef_a w 75 := by
  obtain ⟨_, hr, hW⟩ := egk75_17 h
  have e : ec_cp w 75 17 (ec_tw 0) (ec_tw 0) (ec_tw (ec_mn 12 12)) = ec_cp w 75 17 0 0 ((12 : Nat) : Int) := rfl
  rw [e] at hr hW
  have k := ef_cp_ok (w := w) (a := 75) (b := 17) (n := 12) h.1 rfl rfl
  exact ⟨_, hr, hW, k.1, k.2⟩
theorem ew_cp76_18 {n : Nat} {w : px_W} {r : Option Value × px_W} (h : ec_E hb_X n 176 0 [(0, .inr (.inl 140)), (1, .inr (.inl 82))] [] w r) : ∃ w' : px_W, r = (none, w') ∧ ec_W hb_A w' ∧ ef_s [18] w w' ∧ ef_a w' 18 = ef_a w 76 := by
  obtain ⟨_, hr, hW⟩ := egk76_18 h
  have e : ec_cp w 76 18 (ec_tw 0) (ec_tw 0) (ec_tw (ec_mn 12 12)) = ec_cp w 76 18 0 0 ((12 : Nat) : Int) := rfl
  rw [e] at hr hW
  have k := ef_cp_ok (w := w) (a := 76) (b := 18) (n := 12) h.1 rfl rfl
  exact ⟨_, hr, hW, k.1, k.2⟩
theorem ew_cp77_19 {n : Nat} {w : px_W} {r : Option Value × px_W} (h : ec_E hb_X n 176 0 [(0, .inr (.inl 141)), (1, .inr (.inl 83))] [] w r) : ∃ w' : px_W, r = (none, w') ∧ ec_W hb_A w' ∧ ef_s [19] w w' ∧ ef_a w' 19 = ef_a w 77 := by
  obtain ⟨_, hr, hW⟩ := egk77_19 h
  have e : ec_cp w 77 19 (ec_tw 0) (ec_tw 0) (ec_tw (ec_mn 12 12)) = ec_cp w 77 19 0 0 ((12 : Nat) : Int) := rfl
  rw [e] at hr hW
  have k := ef_cp_ok (w := w) (a := 77) (b := 19) (n := 12) h.1 rfl rfl
  exact ⟨_, hr, hW, k.1, k.2⟩
theorem ew_cp78_20 {n : Nat} {w : px_W} {r : Option Value × px_W} (h : ec_E hb_X n 176 0 [(0, .inr (.inl 142)), (1, .inr (.inl 84))] [] w r) : ∃ w' : px_W, r = (none, w') ∧ ec_W hb_A w' ∧ ef_s [20] w w' ∧ ef_a w' 20 = ef_a w 78 := by
  obtain ⟨_, hr, hW⟩ := egk78_20 h
  have e : ec_cp w 78 20 (ec_tw 0) (ec_tw 0) (ec_tw (ec_mn 10 10)) = ec_cp w 78 20 0 0 ((10 : Nat) : Int) := rfl
  rw [e] at hr hW
  have k := ef_cp_ok (w := w) (a := 78) (b := 20) (n := 10) h.1 rfl rfl
  exact ⟨_, hr, hW, k.1, k.2⟩
theorem ew_cp79_21 {n : Nat} {w : px_W} {r : Option Value × px_W} (h : ec_E hb_X n 176 0 [(0, .inr (.inl 143)), (1, .inr (.inl 85))] [] w r) : ∃ w' : px_W, r = (none, w') ∧ ec_W hb_A w' ∧ ef_s [21] w w' ∧ ef_a w' 21 = ef_a w 79 := by
  obtain ⟨_, hr, hW⟩ := egk79_21 h
  have e : ec_cp w 79 21 (ec_tw 0) (ec_tw 0) (ec_tw (ec_mn 10 10)) = ec_cp w 79 21 0 0 ((10 : Nat) : Int) := rfl
  rw [e] at hr hW
  have k := ef_cp_ok (w := w) (a := 79) (b := 21) (n := 10) h.1 rfl rfl
  exact ⟨_, hr, hW, k.1, k.2⟩
theorem ew_cp80_22 {n : Nat} {w : px_W} {r : Option Value × px_W} (h : ec_E hb_X n 176 0 [(0, .inr (.inl 144)), (1, .inr (.inl 86))] [] w r) : ∃ w' : px_W, r = (none, w') ∧ ec_W hb_A w' ∧ ef_s [22] w w' ∧ ef_a w' 22 = ef_a w 80 := by
  obtain ⟨_, hr, hW⟩ := egk80_22 h
  have e : ec_cp w 80 22 (ec_tw 0) (ec_tw 0) (ec_tw (ec_mn 10 10)) = ec_cp w 80 22 0 0 ((10 : Nat) : Int) := rfl
  rw [e] at hr hW
  have k := ef_cp_ok (w := w) (a := 80) (b := 22) (n := 10) h.1 rfl rfl
  exact ⟨_, hr, hW, k.1, k.2⟩
theorem ew_cp81_23 {n : Nat} {w : px_W} {r : Option Value × px_W} (h : ec_E hb_X n 176 0 [(0, .inr (.inl 145)), (1, .inr (.inl 87))] [] w r) : ∃ w' : px_W, r = (none, w') ∧ ec_W hb_A w' ∧ ef_s [23] w w' ∧ ef_a w' 23 = ef_a w 81 := by
  obtain ⟨_, hr, hW⟩ := egk81_23 h
  have e : ec_cp w 81 23 (ec_tw 0) (ec_tw 0) (ec_tw (ec_mn 10 10)) = ec_cp w 81 23 0 0 ((10 : Nat) : Int) := rfl
  rw [e] at hr hW
  have k := ef_cp_ok (w := w) (a := 81) (b := 23) (n := 10) h.1 rfl rfl
  exact ⟨_, hr, hW, k.1, k.2⟩
theorem ew_cp82_24 {n : Nat} {w : px_W} {r : Option Value × px_W} (h : ec_E hb_X n 176 0 [(0, .inr (.inl 146)), (1, .inr (.inl 88))] [] w r) : ∃ w' : px_W, r = (none, w') ∧ ec_W hb_A w' ∧ ef_s [24] w w' ∧ ef_a w' 24 = ef_a w 82 := by
  obtain ⟨_, hr, hW⟩ := egk82_24 h
  have e : ec_cp w 82 24 (ec_tw 0) (ec_tw 0) (ec_tw (ec_mn 8 8)) = ec_cp w 82 24 0 0 ((8 : Nat) : Int) := rfl
  rw [e] at hr hW
  have k := ef_cp_ok (w := w) (a := 82) (b := 24) (n := 8) h.1 rfl rfl
  exact ⟨_, hr, hW, k.1, k.2⟩
theorem ew_cp83_25 {n : Nat} {w : px_W} {r : Option Value × px_W} (h : ec_E hb_X n 176 0 [(0, .inr (.inl 147)), (1, .inr (.inl 89))] [] w r) : ∃ w' : px_W, r = (none, w') ∧ ec_W hb_A w' ∧ ef_s [25] w w' ∧ ef_a w' 25 = ef_a w 83 := by
  obtain ⟨_, hr, hW⟩ := egk83_25 h
  have e : ec_cp w 83 25 (ec_tw 0) (ec_tw 0) (ec_tw (ec_mn 8 8)) = ec_cp w 83 25 0 0 ((8 : Nat) : Int) := rfl
  rw [e] at hr hW
  have k := ef_cp_ok (w := w) (a := 83) (b := 25) (n := 8) h.1 rfl rfl
  exact ⟨_, hr, hW, k.1, k.2⟩
theorem ew_cp84_26 {n : Nat} {w : px_W} {r : Option Value × px_W} (h : ec_E hb_X n 176 0 [(0, .inr (.inl 148)), (1, .inr (.inl 90))] [] w r) : ∃ w' : px_W, r = (none, w') ∧ ec_W hb_A w' ∧ ef_s [26] w w' ∧ ef_a w' 26 = ef_a w 84 := by
  obtain ⟨_, hr, hW⟩ := egk84_26 h
  have e : ec_cp w 84 26 (ec_tw 0) (ec_tw 0) (ec_tw (ec_mn 8 8)) = ec_cp w 84 26 0 0 ((8 : Nat) : Int) := rfl
  rw [e] at hr hW
  have k := ef_cp_ok (w := w) (a := 84) (b := 26) (n := 8) h.1 rfl rfl
  exact ⟨_, hr, hW, k.1, k.2⟩
theorem ew_cp85_27 {n : Nat} {w : px_W} {r : Option Value × px_W} (h : ec_E hb_X n 176 0 [(0, .inr (.inl 149)), (1, .inr (.inl 91))] [] w r) : ∃ w' : px_W, r = (none, w') ∧ ec_W hb_A w' ∧ ef_s [27] w w' ∧ ef_a w' 27 = ef_a w 85 := by
  obtain ⟨_, hr, hW⟩ := egk85_27 h
  have e : ec_cp w 85 27 (ec_tw 0) (ec_tw 0) (ec_tw (ec_mn 8 8)) = ec_cp w 85 27 0 0 ((8 : Nat) : Int) := rfl
  rw [e] at hr hW
  have k := ef_cp_ok (w := w) (a := 85) (b := 27) (n := 8) h.1 rfl rfl
  exact ⟨_, hr, hW, k.1, k.2⟩
theorem ew_cp30_88 {n : Nat} {w : px_W} {r : Option Value × px_W} (h : ec_E hb_X n 176 0 [(0, .inr (.inl 94)), (1, .inr (.inl 152))] [] w r) : ∃ w' : px_W, r = (none, w') ∧ ec_W hb_A w' ∧ ef_s [88] w w' ∧ ef_a w' 88 = ef_a w 30 := by
  obtain ⟨_, hr, hW⟩ := egk30_88 h
  have e : ec_cp w 30 88 (ec_tw 0) (ec_tw 0) (ec_tw (ec_mn 6 6)) = ec_cp w 30 88 0 0 ((6 : Nat) : Int) := rfl
  rw [e] at hr hW
  have k := ef_cp_ok (w := w) (a := 30) (b := 88) (n := 6) h.1 rfl rfl
  exact ⟨_, hr, hW, k.1, k.2⟩
theorem ew_cp31_89 {n : Nat} {w : px_W} {r : Option Value × px_W} (h : ec_E hb_X n 176 0 [(0, .inr (.inl 95)), (1, .inr (.inl 153))] [] w r) : ∃ w' : px_W, r = (none, w') ∧ ec_W hb_A w' ∧ ef_s [89] w w' ∧ ef_a w' 89 = ef_a w 31 := by
  obtain ⟨_, hr, hW⟩ := egk31_89 h
  have e : ec_cp w 31 89 (ec_tw 0) (ec_tw 0) (ec_tw (ec_mn 6 6)) = ec_cp w 31 89 0 0 ((6 : Nat) : Int) := rfl
  rw [e] at hr hW
  have k := ef_cp_ok (w := w) (a := 31) (b := 89) (n := 6) h.1 rfl rfl
  exact ⟨_, hr, hW, k.1, k.2⟩
theorem ew_cp32_90 {n : Nat} {w : px_W} {r : Option Value × px_W} (h : ec_E hb_X n 176 0 [(0, .inr (.inl 96)), (1, .inr (.inl 154))] [] w r) : ∃ w' : px_W, r = (none, w') ∧ ec_W hb_A w' ∧ ef_s [90] w w' ∧ ef_a w' 90 = ef_a w 32 := by
  obtain ⟨_, hr, hW⟩ := egk32_90 h
  have e : ec_cp w 32 90 (ec_tw 0) (ec_tw 0) (ec_tw (ec_mn 6 6)) = ec_cp w 32 90 0 0 ((6 : Nat) : Int) := rfl
  rw [e] at hr hW
  have k := ef_cp_ok (w := w) (a := 32) (b := 90) (n := 6) h.1 rfl rfl
  exact ⟨_, hr, hW, k.1, k.2⟩
theorem ew_cp33_91 {n : Nat} {w : px_W} {r : Option Value × px_W} (h : ec_E hb_X n 176 0 [(0, .inr (.inl 97)), (1, .inr (.inl 155))] [] w r) : ∃ w' : px_W, r = (none, w') ∧ ec_W hb_A w' ∧ ef_s [91] w w' ∧ ef_a w' 91 = ef_a w 33 := by
  obtain ⟨_, hr, hW⟩ := egk33_91 h
  have e : ec_cp w 33 91 (ec_tw 0) (ec_tw 0) (ec_tw (ec_mn 6 6)) = ec_cp w 33 91 0 0 ((6 : Nat) : Int) := rfl
  rw [e] at hr hW
  have k := ef_cp_ok (w := w) (a := 33) (b := 91) (n := 6) h.1 rfl rfl
  exact ⟨_, hr, hW, k.1, k.2⟩
theorem ew_cp34_92 {n : Nat} {w : px_W} {r : Option Value × px_W} (h : ec_E hb_X n 176 0 [(0, .inr (.inl 98)), (1, .inr (.inl 156))] [] w r) : ∃ w' : px_W, r = (none, w') ∧ ec_W hb_A w' ∧ ef_s [92] w w' ∧ ef_a w' 92 = ef_a w 34 := by
  obtain ⟨_, hr, hW⟩ := egk34_92 h
  have e : ec_cp w 34 92 (ec_tw 0) (ec_tw 0) (ec_tw (ec_mn 6 6)) = ec_cp w 34 92 0 0 ((6 : Nat) : Int) := rfl
  rw [e] at hr hW
  have k := ef_cp_ok (w := w) (a := 34) (b := 92) (n := 6) h.1 rfl rfl
  exact ⟨_, hr, hW, k.1, k.2⟩
theorem ew_cp35_93 {n : Nat} {w : px_W} {r : Option Value × px_W} (h : ec_E hb_X n 176 0 [(0, .inr (.inl 99)), (1, .inr (.inl 157))] [] w r) : ∃ w' : px_W, r = (none, w') ∧ ec_W hb_A w' ∧ ef_s [93] w w' ∧ ef_a w' 93 = ef_a w 35 := by
  obtain ⟨_, hr, hW⟩ := egk35_93 h
  have e : ec_cp w 35 93 (ec_tw 0) (ec_tw 0) (ec_tw (ec_mn 10 10)) = ec_cp w 35 93 0 0 ((10 : Nat) : Int) := rfl
  rw [e] at hr hW
  have k := ef_cp_ok (w := w) (a := 35) (b := 93) (n := 10) h.1 rfl rfl
  exact ⟨_, hr, hW, k.1, k.2⟩
theorem ew_cp36_94 {n : Nat} {w : px_W} {r : Option Value × px_W} (h : ec_E hb_X n 176 0 [(0, .inr (.inl 100)), (1, .inr (.inl 158))] [] w r) : ∃ w' : px_W, r = (none, w') ∧ ec_W hb_A w' ∧ ef_s [94] w w' ∧ ef_a w' 94 = ef_a w 36 := by
  obtain ⟨_, hr, hW⟩ := egk36_94 h
  have e : ec_cp w 36 94 (ec_tw 0) (ec_tw 0) (ec_tw (ec_mn 8 8)) = ec_cp w 36 94 0 0 ((8 : Nat) : Int) := rfl
  rw [e] at hr hW
  have k := ef_cp_ok (w := w) (a := 36) (b := 94) (n := 8) h.1 rfl rfl
  exact ⟨_, hr, hW, k.1, k.2⟩
theorem ew_cp37_95 {n : Nat} {w : px_W} {r : Option Value × px_W} (h : ec_E hb_X n 176 0 [(0, .inr (.inl 101)), (1, .inr (.inl 159))] [] w r) : ∃ w' : px_W, r = (none, w') ∧ ec_W hb_A w' ∧ ef_s [95] w w' ∧ ef_a w' 95 = ef_a w 37 := by
  obtain ⟨_, hr, hW⟩ := egk37_95 h
  have e : ec_cp w 37 95 (ec_tw 0) (ec_tw 0) (ec_tw (ec_mn 8 8)) = ec_cp w 37 95 0 0 ((8 : Nat) : Int) := rfl
  rw [e] at hr hW
  have k := ef_cp_ok (w := w) (a := 37) (b := 95) (n := 8) h.1 rfl rfl
  exact ⟨_, hr, hW, k.1, k.2⟩
theorem ew_cp38_96 {n : Nat} {w : px_W} {r : Option Value × px_W} (h : ec_E hb_X n 176 0 [(0, .inr (.inl 102)), (1, .inr (.inl 160))] [] w r) : ∃ w' : px_W, r = (none, w') ∧ ec_W hb_A w' ∧ ef_s [96] w w' ∧ ef_a w' 96 = ef_a w 38 := by
  obtain ⟨_, hr, hW⟩ := egk38_96 h
  have e : ec_cp w 38 96 (ec_tw 0) (ec_tw 0) (ec_tw (ec_mn 8 8)) = ec_cp w 38 96 0 0 ((8 : Nat) : Int) := rfl
  rw [e] at hr hW
  have k := ef_cp_ok (w := w) (a := 38) (b := 96) (n := 8) h.1 rfl rfl
  exact ⟨_, hr, hW, k.1, k.2⟩
theorem ew_cp88_30 {n : Nat} {w : px_W} {r : Option Value × px_W} (h : ec_E hb_X n 176 0 [(0, .inr (.inl 152)), (1, .inr (.inl 94))] [] w r) : ∃ w' : px_W, r = (none, w') ∧ ec_W hb_A w' ∧ ef_s [30] w w' ∧ ef_a w' 30 = ef_a w 88 := by
  obtain ⟨_, hr, hW⟩ := egk88_30 h
  have e : ec_cp w 88 30 (ec_tw 0) (ec_tw 0) (ec_tw (ec_mn 6 6)) = ec_cp w 88 30 0 0 ((6 : Nat) : Int) := rfl
  rw [e] at hr hW
  have k := ef_cp_ok (w := w) (a := 88) (b := 30) (n := 6) h.1 rfl rfl
  exact ⟨_, hr, hW, k.1, k.2⟩
theorem ew_cp89_31 {n : Nat} {w : px_W} {r : Option Value × px_W} (h : ec_E hb_X n 176 0 [(0, .inr (.inl 153)), (1, .inr (.inl 95))] [] w r) : ∃ w' : px_W, r = (none, w') ∧ ec_W hb_A w' ∧ ef_s [31] w w' ∧ ef_a w' 31 = ef_a w 89 := by
  obtain ⟨_, hr, hW⟩ := egk89_31 h
  have e : ec_cp w 89 31 (ec_tw 0) (ec_tw 0) (ec_tw (ec_mn 6 6)) = ec_cp w 89 31 0 0 ((6 : Nat) : Int) := rfl
  rw [e] at hr hW
  have k := ef_cp_ok (w := w) (a := 89) (b := 31) (n := 6) h.1 rfl rfl
  exact ⟨_, hr, hW, k.1, k.2⟩
theorem ew_cp90_32 {n : Nat} {w : px_W} {r : Option Value × px_W} (h : ec_E hb_X n 176 0 [(0, .inr (.inl 154)), (1, .inr (.inl 96))] [] w r) : ∃ w' : px_W, r = (none, w') ∧ ec_W hb_A w' ∧ ef_s [32] w w' ∧ ef_a w' 32 = ef_a w 90 := by
  obtain ⟨_, hr, hW⟩ := egk90_32 h
  have e : ec_cp w 90 32 (ec_tw 0) (ec_tw 0) (ec_tw (ec_mn 6 6)) = ec_cp w 90 32 0 0 ((6 : Nat) : Int) := rfl
  rw [e] at hr hW
  have k := ef_cp_ok (w := w) (a := 90) (b := 32) (n := 6) h.1 rfl rfl
  exact ⟨_, hr, hW, k.1, k.2⟩
theorem ew_cp91_33 {n : Nat} {w : px_W} {r : Option Value × px_W} (h : ec_E hb_X n 176 0 [(0, .inr (.inl 155)), (1, .inr (.inl 97))] [] w r) : ∃ w' : px_W, r = (none, w') ∧ ec_W hb_A w' ∧ ef_s [33] w w' ∧ ef_a w' 33 = ef_a w 91 := by
  obtain ⟨_, hr, hW⟩ := egk91_33 h
  have e : ec_cp w 91 33 (ec_tw 0) (ec_tw 0) (ec_tw (ec_mn 6 6)) = ec_cp w 91 33 0 0 ((6 : Nat) : Int) := rfl
  rw [e] at hr hW
  have k := ef_cp_ok (w := w) (a := 91) (b := 33) (n := 6) h.1 rfl rfl
  exact ⟨_, hr, hW, k.1, k.2⟩
theorem ew_cp92_34 {n : Nat} {w : px_W} {r : Option Value × px_W} (h : ec_E hb_X n 176 0 [(0, .inr (.inl 156)), (1, .inr (.inl 98))] [] w r) : ∃ w' : px_W, r = (none, w') ∧ ec_W hb_A w' ∧ ef_s [34] w w' ∧ ef_a w' 34 = ef_a w 92 := by
  obtain ⟨_, hr, hW⟩ := egk92_34 h
  have e : ec_cp w 92 34 (ec_tw 0) (ec_tw 0) (ec_tw (ec_mn 6 6)) = ec_cp w 92 34 0 0 ((6 : Nat) : Int) := rfl
  rw [e] at hr hW
  have k := ef_cp_ok (w := w) (a := 92) (b := 34) (n := 6) h.1 rfl rfl
  exact ⟨_, hr, hW, k.1, k.2⟩
theorem ew_cp93_35 {n : Nat} {w : px_W} {r : Option Value × px_W} (h : ec_E hb_X n 176 0 [(0, .inr (.inl 157)), (1, .inr (.inl 99))] [] w r) : ∃ w' : px_W, r = (none, w') ∧ ec_W hb_A w' ∧ ef_s [35] w w' ∧ ef_a w' 35 = ef_a w 93 := by
  obtain ⟨_, hr, hW⟩ := egk93_35 h
  have e : ec_cp w 93 35 (ec_tw 0) (ec_tw 0) (ec_tw (ec_mn 10 10)) = ec_cp w 93 35 0 0 ((10 : Nat) : Int) := rfl
  rw [e] at hr hW
  have k := ef_cp_ok (w := w) (a := 93) (b := 35) (n := 10) h.1 rfl rfl
  exact ⟨_, hr, hW, k.1, k.2⟩
theorem ew_cp94_36 {n : Nat} {w : px_W} {r : Option Value × px_W} (h : ec_E hb_X n 176 0 [(0, .inr (.inl 158)), (1, .inr (.inl 100))] [] w r) : ∃ w' : px_W, r = (none, w') ∧ ec_W hb_A w' ∧ ef_s [36] w w' ∧ ef_a w' 36 = ef_a w 94 := by
  obtain ⟨_, hr, hW⟩ := egk94_36 h
  have e : ec_cp w 94 36 (ec_tw 0) (ec_tw 0) (ec_tw (ec_mn 8 8)) = ec_cp w 94 36 0 0 ((8 : Nat) : Int) := rfl
  rw [e] at hr hW
  have k := ef_cp_ok (w := w) (a := 94) (b := 36) (n := 8) h.1 rfl rfl
  exact ⟨_, hr, hW, k.1, k.2⟩
theorem ew_cp95_37 {n : Nat} {w : px_W} {r : Option Value × px_W} (h : ec_E hb_X n 176 0 [(0, .inr (.inl 159)), (1, .inr (.inl 101))] [] w r) : ∃ w' : px_W, r = (none, w') ∧ ec_W hb_A w' ∧ ef_s [37] w w' ∧ ef_a w' 37 = ef_a w 95 := by
  obtain ⟨_, hr, hW⟩ := egk95_37 h
  have e : ec_cp w 95 37 (ec_tw 0) (ec_tw 0) (ec_tw (ec_mn 8 8)) = ec_cp w 95 37 0 0 ((8 : Nat) : Int) := rfl
  rw [e] at hr hW
  have k := ef_cp_ok (w := w) (a := 95) (b := 37) (n := 8) h.1 rfl rfl
  exact ⟨_, hr, hW, k.1, k.2⟩
theorem ew_cp96_38 {n : Nat} {w : px_W} {r : Option Value × px_W} (h : ec_E hb_X n 176 0 [(0, .inr (.inl 160)), (1, .inr (.inl 102))] [] w r) : ∃ w' : px_W, r = (none, w') ∧ ec_W hb_A w' ∧ ef_s [38] w w' ∧ ef_a w' 38 = ef_a w 96 := by
  obtain ⟨_, hr, hW⟩ := egk96_38 h
  have e : ec_cp w 96 38 (ec_tw 0) (ec_tw 0) (ec_tw (ec_mn 8 8)) = ec_cp w 96 38 0 0 ((8 : Nat) : Int) := rfl
  rw [e] at hr hW
  have k := ef_cp_ok (w := w) (a := 96) (b := 38) (n := 8) h.1 rfl rfl
  exact ⟨_, hr, hW, k.1, k.2⟩
theorem ew_cp40_98 {n : Nat} {w : px_W} {r : Option Value × px_W} (h : ec_E hb_X n 176 0 [(0, .inr (.inl 104)), (1, .inr (.inl 162))] [] w r) : ∃ w' : px_W, r = (none, w') ∧ ec_W hb_A w' ∧ ef_s [98] w w' ∧ ef_a w' 98 = ef_a w 40 := by
  obtain ⟨_, hr, hW⟩ := egk40_98 h
  have e : ec_cp w 40 98 (ec_tw 0) (ec_tw 0) (ec_tw (ec_mn 3 3)) = ec_cp w 40 98 0 0 ((3 : Nat) : Int) := rfl
  rw [e] at hr hW
  have k := ef_cp_ok (w := w) (a := 40) (b := 98) (n := 3) h.1 rfl rfl
  exact ⟨_, hr, hW, k.1, k.2⟩
theorem ew_cp41_99 {n : Nat} {w : px_W} {r : Option Value × px_W} (h : ec_E hb_X n 176 0 [(0, .inr (.inl 105)), (1, .inr (.inl 163))] [] w r) : ∃ w' : px_W, r = (none, w') ∧ ec_W hb_A w' ∧ ef_s [99] w w' ∧ ef_a w' 99 = ef_a w 41 := by
  obtain ⟨_, hr, hW⟩ := egk41_99 h
  have e : ec_cp w 41 99 (ec_tw 0) (ec_tw 0) (ec_tw (ec_mn 12 12)) = ec_cp w 41 99 0 0 ((12 : Nat) : Int) := rfl
  rw [e] at hr hW
  have k := ef_cp_ok (w := w) (a := 41) (b := 99) (n := 12) h.1 rfl rfl
  exact ⟨_, hr, hW, k.1, k.2⟩
theorem ew_cp42_100 {n : Nat} {w : px_W} {r : Option Value × px_W} (h : ec_E hb_X n 176 0 [(0, .inr (.inl 106)), (1, .inr (.inl 164))] [] w r) : ∃ w' : px_W, r = (none, w') ∧ ec_W hb_A w' ∧ ef_s [100] w w' ∧ ef_a w' 100 = ef_a w 42 := by
  obtain ⟨_, hr, hW⟩ := egk42_100 h
  have e : ec_cp w 42 100 (ec_tw 0) (ec_tw 0) (ec_tw (ec_mn 12 12)) = ec_cp w 42 100 0 0 ((12 : Nat) : Int) := rfl
  rw [e] at hr hW
  have k := ef_cp_ok (w := w) (a := 42) (b := 100) (n := 12) h.1 rfl rfl
  exact ⟨_, hr, hW, k.1, k.2⟩
theorem ew_cp43_101 {n : Nat} {w : px_W} {r : Option Value × px_W} (h : ec_E hb_X n 176 0 [(0, .inr (.inl 107)), (1, .inr (.inl 165))] [] w r) : ∃ w' : px_W, r = (none, w') ∧ ec_W hb_A w' ∧ ef_s [101] w w' ∧ ef_a w' 101 = ef_a w 43 := by
  obtain ⟨_, hr, hW⟩ := egk43_101 h
  have e : ec_cp w 43 101 (ec_tw 0) (ec_tw 0) (ec_tw (ec_mn 12 12)) = ec_cp w 43 101 0 0 ((12 : Nat) : Int) := rfl
  rw [e] at hr hW
  have k := ef_cp_ok (w := w) (a := 43) (b := 101) (n := 12) h.1 rfl rfl
  exact ⟨_, hr, hW, k.1, k.2⟩
theorem ew_cp98_40 {n : Nat} {w : px_W} {r : Option Value × px_W} (h : ec_E hb_X n 176 0 [(0, .inr (.inl 162)), (1, .inr (.inl 104))] [] w r) : ∃ w' : px_W, r = (none, w') ∧ ec_W hb_A w' ∧ ef_s [40] w w' ∧ ef_a w' 40 = ef_a w 98 := by
  obtain ⟨_, hr, hW⟩ := egk98_40 h
  have e : ec_cp w 98 40 (ec_tw 0) (ec_tw 0) (ec_tw (ec_mn 3 3)) = ec_cp w 98 40 0 0 ((3 : Nat) : Int) := rfl
  rw [e] at hr hW
  have k := ef_cp_ok (w := w) (a := 98) (b := 40) (n := 3) h.1 rfl rfl
  exact ⟨_, hr, hW, k.1, k.2⟩
theorem ew_cp99_41 {n : Nat} {w : px_W} {r : Option Value × px_W} (h : ec_E hb_X n 176 0 [(0, .inr (.inl 163)), (1, .inr (.inl 105))] [] w r) : ∃ w' : px_W, r = (none, w') ∧ ec_W hb_A w' ∧ ef_s [41] w w' ∧ ef_a w' 41 = ef_a w 99 := by
  obtain ⟨_, hr, hW⟩ := egk99_41 h
  have e : ec_cp w 99 41 (ec_tw 0) (ec_tw 0) (ec_tw (ec_mn 12 12)) = ec_cp w 99 41 0 0 ((12 : Nat) : Int) := rfl
  rw [e] at hr hW
  have k := ef_cp_ok (w := w) (a := 99) (b := 41) (n := 12) h.1 rfl rfl
  exact ⟨_, hr, hW, k.1, k.2⟩
theorem ew_cp100_42 {n : Nat} {w : px_W} {r : Option Value × px_W} (h : ec_E hb_X n 176 0 [(0, .inr (.inl 164)), (1, .inr (.inl 106))] [] w r) : ∃ w' : px_W, r = (none, w') ∧ ec_W hb_A w' ∧ ef_s [42] w w' ∧ ef_a w' 42 = ef_a w 100 := by
  obtain ⟨_, hr, hW⟩ := egk100_42 h
  have e : ec_cp w 100 42 (ec_tw 0) (ec_tw 0) (ec_tw (ec_mn 12 12)) = ec_cp w 100 42 0 0 ((12 : Nat) : Int) := rfl
  rw [e] at hr hW
  have k := ef_cp_ok (w := w) (a := 100) (b := 42) (n := 12) h.1 rfl rfl
  exact ⟨_, hr, hW, k.1, k.2⟩
theorem ew_cp101_43 {n : Nat} {w : px_W} {r : Option Value × px_W} (h : ec_E hb_X n 176 0 [(0, .inr (.inl 165)), (1, .inr (.inl 107))] [] w r) : ∃ w' : px_W, r = (none, w') ∧ ec_W hb_A w' ∧ ef_s [43] w w' ∧ ef_a w' 43 = ef_a w 101 := by
  obtain ⟨_, hr, hW⟩ := egk101_43 h
  have e : ec_cp w 101 43 (ec_tw 0) (ec_tw 0) (ec_tw (ec_mn 12 12)) = ec_cp w 101 43 0 0 ((12 : Nat) : Int) := rfl
  rw [e] at hr hW
  have k := ef_cp_ok (w := w) (a := 101) (b := 43) (n := 12) h.1 rfl rfl
  exact ⟨_, hr, hW, k.1, k.2⟩
theorem ew_cp45_103 {n : Nat} {w : px_W} {r : Option Value × px_W} (h : ec_E hb_X n 176 0 [(0, .inr (.inl 109)), (1, .inr (.inl 167))] [] w r) : ∃ w' : px_W, r = (none, w') ∧ ec_W hb_A w' ∧ ef_s [103] w w' ∧ ef_a w' 103 = ef_a w 45 := by
  obtain ⟨_, hr, hW⟩ := egk45_103 h
  have e : ec_cp w 45 103 (ec_tw 0) (ec_tw 0) (ec_tw (ec_mn 7 7)) = ec_cp w 45 103 0 0 ((7 : Nat) : Int) := rfl
  rw [e] at hr hW
  have k := ef_cp_ok (w := w) (a := 45) (b := 103) (n := 7) h.1 rfl rfl
  exact ⟨_, hr, hW, k.1, k.2⟩
theorem ew_cp46_104 {n : Nat} {w : px_W} {r : Option Value × px_W} (h : ec_E hb_X n 176 0 [(0, .inr (.inl 110)), (1, .inr (.inl 168))] [] w r) : ∃ w' : px_W, r = (none, w') ∧ ec_W hb_A w' ∧ ef_s [104] w w' ∧ ef_a w' 104 = ef_a w 46 := by
  obtain ⟨_, hr, hW⟩ := egk46_104 h
  have e : ec_cp w 46 104 (ec_tw 0) (ec_tw 0) (ec_tw (ec_mn 7 7)) = ec_cp w 46 104 0 0 ((7 : Nat) : Int) := rfl
  rw [e] at hr hW
  have k := ef_cp_ok (w := w) (a := 46) (b := 104) (n := 7) h.1 rfl rfl
  exact ⟨_, hr, hW, k.1, k.2⟩
theorem ew_cp47_105 {n : Nat} {w : px_W} {r : Option Value × px_W} (h : ec_E hb_X n 176 0 [(0, .inr (.inl 111)), (1, .inr (.inl 169))] [] w r) : ∃ w' : px_W, r = (none, w') ∧ ec_W hb_A w' ∧ ef_s [105] w w' ∧ ef_a w' 105 = ef_a w 47 := by
  obtain ⟨_, hr, hW⟩ := egk47_105 h
  have e : ec_cp w 47 105 (ec_tw 0) (ec_tw 0) (ec_tw (ec_mn 56 56)) = ec_cp w 47 105 0 0 ((56 : Nat) : Int) := rfl
  rw [e] at hr hW
  have k := ef_cp_ok (w := w) (a := 47) (b := 105) (n := 56) h.1 rfl rfl
  exact ⟨_, hr, hW, k.1, k.2⟩
theorem ew_cp48_106 {n : Nat} {w : px_W} {r : Option Value × px_W} (h : ec_E hb_X n 176 0 [(0, .inr (.inl 112)), (1, .inr (.inl 170))] [] w r) : ∃ w' : px_W, r = (none, w') ∧ ec_W hb_A w' ∧ ef_s [106] w w' ∧ ef_a w' 106 = ef_a w 48 := by
  obtain ⟨_, hr, hW⟩ := egk48_106 h
  have e : ec_cp w 48 106 (ec_tw 0) (ec_tw 0) (ec_tw (ec_mn 56 56)) = ec_cp w 48 106 0 0 ((56 : Nat) : Int) := rfl
  rw [e] at hr hW
  have k := ef_cp_ok (w := w) (a := 48) (b := 106) (n := 56) h.1 rfl rfl
  exact ⟨_, hr, hW, k.1, k.2⟩
theorem ew_cp49_107 {n : Nat} {w : px_W} {r : Option Value × px_W} (h : ec_E hb_X n 176 0 [(0, .inr (.inl 113)), (1, .inr (.inl 171))] [] w r) : ∃ w' : px_W, r = (none, w') ∧ ec_W hb_A w' ∧ ef_s [107] w w' ∧ ef_a w' 107 = ef_a w 49 := by
  obtain ⟨_, hr, hW⟩ := egk49_107 h
  have e : ec_cp w 49 107 (ec_tw 0) (ec_tw 0) (ec_tw (ec_mn 56 56)) = ec_cp w 49 107 0 0 ((56 : Nat) : Int) := rfl
  rw [e] at hr hW
  have k := ef_cp_ok (w := w) (a := 49) (b := 107) (n := 56) h.1 rfl rfl
  exact ⟨_, hr, hW, k.1, k.2⟩
theorem ew_cp50_108 {n : Nat} {w : px_W} {r : Option Value × px_W} (h : ec_E hb_X n 176 0 [(0, .inr (.inl 114)), (1, .inr (.inl 172))] [] w r) : ∃ w' : px_W, r = (none, w') ∧ ec_W hb_A w' ∧ ef_s [108] w w' ∧ ef_a w' 108 = ef_a w 50 := by
  obtain ⟨_, hr, hW⟩ := egk50_108 h
  have e : ec_cp w 50 108 (ec_tw 0) (ec_tw 0) (ec_tw (ec_mn 448 448)) = ec_cp w 50 108 0 0 ((448 : Nat) : Int) := rfl
  rw [e] at hr hW
  have k := ef_cp_ok (w := w) (a := 50) (b := 108) (n := 448) h.1 rfl rfl
  exact ⟨_, hr, hW, k.1, k.2⟩
theorem ew_cp51_109 {n : Nat} {w : px_W} {r : Option Value × px_W} (h : ec_E hb_X n 176 0 [(0, .inr (.inl 115)), (1, .inr (.inl 173))] [] w r) : ∃ w' : px_W, r = (none, w') ∧ ec_W hb_A w' ∧ ef_s [109] w w' ∧ ef_a w' 109 = ef_a w 51 := by
  obtain ⟨_, hr, hW⟩ := egk51_109 h
  have e : ec_cp w 51 109 (ec_tw 0) (ec_tw 0) (ec_tw (ec_mn 7 7)) = ec_cp w 51 109 0 0 ((7 : Nat) : Int) := rfl
  rw [e] at hr hW
  have k := ef_cp_ok (w := w) (a := 51) (b := 109) (n := 7) h.1 rfl rfl
  exact ⟨_, hr, hW, k.1, k.2⟩
theorem ew_cp103_45 {n : Nat} {w : px_W} {r : Option Value × px_W} (h : ec_E hb_X n 176 0 [(0, .inr (.inl 167)), (1, .inr (.inl 109))] [] w r) : ∃ w' : px_W, r = (none, w') ∧ ec_W hb_A w' ∧ ef_s [45] w w' ∧ ef_a w' 45 = ef_a w 103 := by
  obtain ⟨_, hr, hW⟩ := egk103_45 h
  have e : ec_cp w 103 45 (ec_tw 0) (ec_tw 0) (ec_tw (ec_mn 7 7)) = ec_cp w 103 45 0 0 ((7 : Nat) : Int) := rfl
  rw [e] at hr hW
  have k := ef_cp_ok (w := w) (a := 103) (b := 45) (n := 7) h.1 rfl rfl
  exact ⟨_, hr, hW, k.1, k.2⟩
theorem ew_cp104_46 {n : Nat} {w : px_W} {r : Option Value × px_W} (h : ec_E hb_X n 176 0 [(0, .inr (.inl 168)), (1, .inr (.inl 110))] [] w r) : ∃ w' : px_W, r = (none, w') ∧ ec_W hb_A w' ∧ ef_s [46] w w' ∧ ef_a w' 46 = ef_a w 104 := by
  obtain ⟨_, hr, hW⟩ := egk104_46 h
  have e : ec_cp w 104 46 (ec_tw 0) (ec_tw 0) (ec_tw (ec_mn 7 7)) = ec_cp w 104 46 0 0 ((7 : Nat) : Int) := rfl
  rw [e] at hr hW
  have k := ef_cp_ok (w := w) (a := 104) (b := 46) (n := 7) h.1 rfl rfl
  exact ⟨_, hr, hW, k.1, k.2⟩
theorem ew_cp105_47 {n : Nat} {w : px_W} {r : Option Value × px_W} (h : ec_E hb_X n 176 0 [(0, .inr (.inl 169)), (1, .inr (.inl 111))] [] w r) : ∃ w' : px_W, r = (none, w') ∧ ec_W hb_A w' ∧ ef_s [47] w w' ∧ ef_a w' 47 = ef_a w 105 := by
  obtain ⟨_, hr, hW⟩ := egk105_47 h
  have e : ec_cp w 105 47 (ec_tw 0) (ec_tw 0) (ec_tw (ec_mn 56 56)) = ec_cp w 105 47 0 0 ((56 : Nat) : Int) := rfl
  rw [e] at hr hW
  have k := ef_cp_ok (w := w) (a := 105) (b := 47) (n := 56) h.1 rfl rfl
  exact ⟨_, hr, hW, k.1, k.2⟩
theorem ew_cp106_48 {n : Nat} {w : px_W} {r : Option Value × px_W} (h : ec_E hb_X n 176 0 [(0, .inr (.inl 170)), (1, .inr (.inl 112))] [] w r) : ∃ w' : px_W, r = (none, w') ∧ ec_W hb_A w' ∧ ef_s [48] w w' ∧ ef_a w' 48 = ef_a w 106 := by
  obtain ⟨_, hr, hW⟩ := egk106_48 h
  have e : ec_cp w 106 48 (ec_tw 0) (ec_tw 0) (ec_tw (ec_mn 56 56)) = ec_cp w 106 48 0 0 ((56 : Nat) : Int) := rfl
  rw [e] at hr hW
  have k := ef_cp_ok (w := w) (a := 106) (b := 48) (n := 56) h.1 rfl rfl
  exact ⟨_, hr, hW, k.1, k.2⟩
theorem ew_cp107_49 {n : Nat} {w : px_W} {r : Option Value × px_W} (h : ec_E hb_X n 176 0 [(0, .inr (.inl 171)), (1, .inr (.inl 113))] [] w r) : ∃ w' : px_W, r = (none, w') ∧ ec_W hb_A w' ∧ ef_s [49] w w' ∧ ef_a w' 49 = ef_a w 107 := by
  obtain ⟨_, hr, hW⟩ := egk107_49 h
  have e : ec_cp w 107 49 (ec_tw 0) (ec_tw 0) (ec_tw (ec_mn 56 56)) = ec_cp w 107 49 0 0 ((56 : Nat) : Int) := rfl
  rw [e] at hr hW
  have k := ef_cp_ok (w := w) (a := 107) (b := 49) (n := 56) h.1 rfl rfl
  exact ⟨_, hr, hW, k.1, k.2⟩
theorem ew_cp108_50 {n : Nat} {w : px_W} {r : Option Value × px_W} (h : ec_E hb_X n 176 0 [(0, .inr (.inl 172)), (1, .inr (.inl 114))] [] w r) : ∃ w' : px_W, r = (none, w') ∧ ec_W hb_A w' ∧ ef_s [50] w w' ∧ ef_a w' 50 = ef_a w 108 := by
  obtain ⟨_, hr, hW⟩ := egk108_50 h
  have e : ec_cp w 108 50 (ec_tw 0) (ec_tw 0) (ec_tw (ec_mn 448 448)) = ec_cp w 108 50 0 0 ((448 : Nat) : Int) := rfl
  rw [e] at hr hW
  have k := ef_cp_ok (w := w) (a := 108) (b := 50) (n := 448) h.1 rfl rfl
  exact ⟨_, hr, hW, k.1, k.2⟩
theorem ew_cp109_51 {n : Nat} {w : px_W} {r : Option Value × px_W} (h : ec_E hb_X n 176 0 [(0, .inr (.inl 173)), (1, .inr (.inl 115))] [] w r) : ∃ w' : px_W, r = (none, w') ∧ ec_W hb_A w' ∧ ef_s [51] w w' ∧ ef_a w' 51 = ef_a w 109 := by
  obtain ⟨_, hr, hW⟩ := egk109_51 h
  have e : ec_cp w 109 51 (ec_tw 0) (ec_tw 0) (ec_tw (ec_mn 7 7)) = ec_cp w 109 51 0 0 ((7 : Nat) : Int) := rfl
  rw [e] at hr hW
  have k := ef_cp_ok (w := w) (a := 109) (b := 51) (n := 7) h.1 rfl rfl
  exact ⟨_, hr, hW, k.1, k.2⟩
theorem ew_cp54_112 {n : Nat} {w : px_W} {r : Option Value × px_W} (h : ec_E hb_X n 176 0 [(0, .inr (.inl 118)), (1, .inr (.inl 176))] [] w r) : ∃ w' : px_W, r = (none, w') ∧ ec_W hb_A w' ∧ ef_s [112] w w' ∧ ef_a w' 112 = ef_a w 54 := by
  obtain ⟨_, hr, hW⟩ := egk54_112 h
  have e : ec_cp w 54 112 (ec_tw 0) (ec_tw 0) (ec_tw (ec_mn 7 7)) = ec_cp w 54 112 0 0 ((7 : Nat) : Int) := rfl
  rw [e] at hr hW
  have k := ef_cp_ok (w := w) (a := 54) (b := 112) (n := 7) h.1 rfl rfl
  exact ⟨_, hr, hW, k.1, k.2⟩
theorem ew_cp55_113 {n : Nat} {w : px_W} {r : Option Value × px_W} (h : ec_E hb_X n 176 0 [(0, .inr (.inl 119)), (1, .inr (.inl 177))] [] w r) : ∃ w' : px_W, r = (none, w') ∧ ec_W hb_A w' ∧ ef_s [113] w w' ∧ ef_a w' 113 = ef_a w 55 := by
  obtain ⟨_, hr, hW⟩ := egk55_113 h
  have e : ec_cp w 55 113 (ec_tw 0) (ec_tw 0) (ec_tw (ec_mn 7 7)) = ec_cp w 55 113 0 0 ((7 : Nat) : Int) := rfl
  rw [e] at hr hW
  have k := ef_cp_ok (w := w) (a := 55) (b := 113) (n := 7) h.1 rfl rfl
  exact ⟨_, hr, hW, k.1, k.2⟩
theorem ew_cp112_54 {n : Nat} {w : px_W} {r : Option Value × px_W} (h : ec_E hb_X n 176 0 [(0, .inr (.inl 176)), (1, .inr (.inl 118))] [] w r) : ∃ w' : px_W, r = (none, w') ∧ ec_W hb_A w' ∧ ef_s [54] w w' ∧ ef_a w' 54 = ef_a w 112 := by
  obtain ⟨_, hr, hW⟩ := egk112_54 h
  have e : ec_cp w 112 54 (ec_tw 0) (ec_tw 0) (ec_tw (ec_mn 7 7)) = ec_cp w 112 54 0 0 ((7 : Nat) : Int) := rfl
  rw [e] at hr hW
  have k := ef_cp_ok (w := w) (a := 112) (b := 54) (n := 7) h.1 rfl rfl
  exact ⟨_, hr, hW, k.1, k.2⟩
theorem ew_cp113_55 {n : Nat} {w : px_W} {r : Option Value × px_W} (h : ec_E hb_X n 176 0 [(0, .inr (.inl 177)), (1, .inr (.inl 119))] [] w r) : ∃ w' : px_W, r = (none, w') ∧ ec_W hb_A w' ∧ ef_s [55] w w' ∧ ef_a w' 55 = ef_a w 113 := by
  obtain ⟨_, hr, hW⟩ := egk113_55 h
  have e : ec_cp w 113 55 (ec_tw 0) (ec_tw 0) (ec_tw (ec_mn 7 7)) = ec_cp w 113 55 0 0 ((7 : Nat) : Int) := rfl
  rw [e] at hr hW
  have k := ef_cp_ok (w := w) (a := 113) (b := 55) (n := 7) h.1 rfl rfl
  exact ⟨_, hr, hW, k.1, k.2⟩
theorem ew_weighl_1 : ∀ (k n i : Nat) (w : px_W) (x1 : Int) (r : Option Value × px_W), i + k = 8 → ec_E hb_X n 40 9 [(0, .inr (.inl 65)), (1, .inl x1), (2, .inl (i : Int))] [] w r → ∃ w' : px_W, r = (none, w') ∧ ec_W hb_A w' ∧ ef_s [1] w w' ∧ ∀ f, f ≠ 8 → f ≠ 9 → ec_fd w' 1 f = ec_fd w 1 f := by
  intro k
  induction k with
  | zero =>
    intro n i w x1 r hik h
    have hi : i = 8 := by omega
    subst hi
    obtain ⟨_, hr, hW⟩ := eg40_1_9_0 h (Int.le_refl _)
    refine ⟨_, hr, hW, ef_s_pf List.mem_cons_self, fun f h8 h9 => ?_⟩
    rw [ec_fd_pf (k := 1) (f := 9) h.1 rfl (by decide), if_neg h9]
  | succ k ih =>
    intro n i w x1 r hik h
    have ei : ec_tw (i : Int) = i := ec_twn (by omega)
    have t8 : ec_tw 8 = 8 := rfl
    have h1 := (eg40_1_9_1 h (by omega)).2
    obtain ⟨w', hr, hW, s1, f1⟩ := ih n (i + 1) _ _ r (by omega) h1
    refine ⟨w', hr, hW, ef_s_trans (ef_s_pf List.mem_cons_self) s1, fun f h8 h9 => ?_⟩
    rw [f1 f h8 h9, ec_fd_pf (k := 1) (f := 8) h.1 rfl (by decide), if_neg h8]
theorem ew_weigh_1 {n : Nat} {w : px_W} {r : Option Value × px_W} (h : ec_E hb_X n 40 0 [(0, .inr (.inl 65))] [] w r) : ∃ w' : px_W, r = (none, w') ∧ ec_W hb_A w' ∧ ef_s [1] w w' ∧ ∀ f, f ≠ 8 → f ≠ 9 → ec_fd w' 1 f = ec_fd w 1 f := by
  have h1 := (eg40_1_0_0 h).2
  obtain ⟨w', hr, hW, s1, f1⟩ := ew_weighl_1 8 n 0 _ _ r rfl h1
  refine ⟨w', hr, hW, ef_s_trans (ef_s_pf List.mem_cons_self) s1, fun f h8 h9 => ?_⟩
  rw [f1 f h8 h9, ec_fd_pf (k := 1) (f := 8) h.1 rfl (by decide), if_neg h8]
theorem ew_weighl_59 : ∀ (k n i : Nat) (w : px_W) (x1 : Int) (r : Option Value × px_W), i + k = 8 → ec_E hb_X n 40 9 [(0, .inr (.inl 123)), (1, .inl x1), (2, .inl (i : Int))] [] w r → ∃ w' : px_W, r = (none, w') ∧ ec_W hb_A w' ∧ ef_s [59] w w' ∧ ∀ f, f ≠ 8 → f ≠ 9 → ec_fd w' 59 f = ec_fd w 59 f := by
  intro k
  induction k with
  | zero =>
    intro n i w x1 r hik h
    have hi : i = 8 := by omega
    subst hi
    obtain ⟨_, hr, hW⟩ := eg40_59_9_0 h (Int.le_refl _)
    refine ⟨_, hr, hW, ef_s_pf List.mem_cons_self, fun f h8 h9 => ?_⟩
    rw [ec_fd_pf (k := 59) (f := 9) h.1 rfl (by decide), if_neg h9]
  | succ k ih =>
    intro n i w x1 r hik h
    have ei : ec_tw (i : Int) = i := ec_twn (by omega)
    have t8 : ec_tw 8 = 8 := rfl
    have h1 := (eg40_59_9_1 h (by omega)).2
    obtain ⟨w', hr, hW, s1, f1⟩ := ih n (i + 1) _ _ r (by omega) h1
    refine ⟨w', hr, hW, ef_s_trans (ef_s_pf List.mem_cons_self) s1, fun f h8 h9 => ?_⟩
    rw [f1 f h8 h9, ec_fd_pf (k := 59) (f := 8) h.1 rfl (by decide), if_neg h8]
theorem ew_weigh_59 {n : Nat} {w : px_W} {r : Option Value × px_W} (h : ec_E hb_X n 40 0 [(0, .inr (.inl 123))] [] w r) : ∃ w' : px_W, r = (none, w') ∧ ec_W hb_A w' ∧ ef_s [59] w w' ∧ ∀ f, f ≠ 8 → f ≠ 9 → ec_fd w' 59 f = ec_fd w 59 f := by
  have h1 := (eg40_59_0_0 h).2
  obtain ⟨w', hr, hW, s1, f1⟩ := ew_weighl_59 8 n 0 _ _ r rfl h1
  refine ⟨w', hr, hW, ef_s_trans (ef_s_pf List.mem_cons_self) s1, fun f h8 h9 => ?_⟩
  rw [f1 f h8 h9, ec_fd_pf (k := 59) (f := 8) h.1 rfl (by decide), if_neg h8]
theorem ew_cf32_59 {n : Nat} {w : px_W} {r : Option Value × px_W} (h : ec_E hb_X n 32 0 [(0, .inr (.inl 123)), (1, .inr (.inl 65))] [] w r) : ∃ w' : px_W, r = (none, w') ∧ ec_W hb_A w' ∧ ef_s [59, 60, 61, 62, 63, 64, 65] w w' ∧ ef_a w' 60 = ef_a w 2 ∧ ef_a w' 61 = ef_a w 3 ∧ ef_a w' 62 = ef_a w 4 ∧ ef_a w' 63 = ef_a w 5 ∧ ef_a w' 64 = ef_a w 6 ∧ ef_a w' 65 = ef_a w 7 ∧ ec_fd w' 59 0 = ec_fd w 1 0 ∧ ec_fd w' 59 1 = ec_fd w 1 1 := by
  have r0 : ef_s [59, 60, 61, 62, 63, 64, 65] w w := ef_s_refl
  obtain ⟨_, v1, y1, a1, b1⟩ := eg32_59_0_0 h
  have s1_0 : ef_s [59, 60, 61, 62, 63, 64, 65] w (ec_pf w 59 0 (ec_fd w 1 0)) := ef_s_trans r0 (ef_s_pf (by decide))
  have w1_0 : ec_W hb_A (ec_pf w 59 0 (ec_fd w 1 0)) := ec_W_pf (k := 59) (f := 0) rfl rfl h.1
  have f1_0 : ec_fd (ec_pf w 59 0 (ec_fd w 1 0)) 59 0 = ec_fd w 1 0 := by
    rw [ec_fd_pf (k := 59) (f := 0) h.1 rfl (by decide), if_pos rfl, ec_tw_fd]
    try exact ef_s_f r0 (by decide) 0
  have s1_1 : ef_s [59, 60, 61, 62, 63, 64, 65] w (ec_pf (ec_pf w 59 0 (ec_fd w 1 0)) 59 1 (ec_fd (ec_pf w 59 0 (ec_fd w 1 0)) 1 1)) := ef_s_trans s1_0 (ef_s_pf (by decide))
  have w1_1 : ec_W hb_A (ec_pf (ec_pf w 59 0 (ec_fd w 1 0)) 59 1 (ec_fd (ec_pf w 59 0 (ec_fd w 1 0)) 1 1)) := ec_W_pf (k := 59) (f := 1) rfl rfl w1_0
  have f1_1_0 : ec_fd (ec_pf (ec_pf w 59 0 (ec_fd w 1 0)) 59 1 (ec_fd (ec_pf w 59 0 (ec_fd w 1 0)) 1 1)) 59 0 = ec_fd w 1 0 := by
    rw [ec_fd_pf (k := 59) (f := 1) w1_0 rfl (by decide), if_neg (by decide)]
    exact f1_0
  have f1_1 : ec_fd (ec_pf (ec_pf w 59 0 (ec_fd w 1 0)) 59 1 (ec_fd (ec_pf w 59 0 (ec_fd w 1 0)) 1 1)) 59 1 = ec_fd w 1 1 := by
    rw [ec_fd_pf (k := 59) (f := 1) w1_0 rfl (by decide), if_pos rfl, ec_tw_fd]
    try exact ef_s_f s1_0 (by decide) 1
  obtain ⟨z1, e1, X1, q1, p1⟩ := ew_cp2_60 a1
  injection e1 with e1 i1
  subst i1
  have h1 := b1 e1 X1
  have s1 : ef_s [59, 60, 61, 62, 63, 64, 65] w y1 := ef_s_trans s1_1 (ef_s_mono q1 (by decide))
  have f1_0 : ec_fd y1 59 0 = ec_fd w 1 0 := (ef_s_f q1 (by decide) 0).trans f1_1_0
  have f1_1 : ec_fd y1 59 1 = ec_fd w 1 1 := (ef_s_f q1 (by decide) 1).trans f1_1
  have g1_60 : ef_a y1 60 = ef_a w 2 := p1.trans (ef_s_a s1_1 (by decide))
  obtain ⟨_, v2, y2, a2, b2⟩ := eg32_59_27_0 h1
  obtain ⟨z2, e2, X2, q2, p2⟩ := ew_cp3_61 a2
  injection e2 with e2 i2
  subst i2
  have h2 := b2 e2 X2
  have s2 : ef_s [59, 60, 61, 62, 63, 64, 65] w y2 := ef_s_trans s1 (ef_s_mono q2 (by decide))
  have f2_0 : ec_fd y2 59 0 = ec_fd w 1 0 := (ef_s_f q2 (by decide) 0).trans f1_0
  have f2_1 : ec_fd y2 59 1 = ec_fd w 1 1 := (ef_s_f q2 (by decide) 1).trans f1_1
  have g2_60 : ef_a y2 60 = ef_a w 2 := (ef_s_a q2 (by decide)).trans g1_60
  have g2_61 : ef_a y2 61 = ef_a w 3 := p2.trans (ef_s_a s1 (by decide))
  obtain ⟨_, v3, y3, a3, b3⟩ := eg32_59_38_0 h2
  obtain ⟨z3, e3, X3, q3, p3⟩ := ew_cp4_62 a3
  injection e3 with e3 i3
  subst i3
  have h3 := b3 e3 X3
  have s3 : ef_s [59, 60, 61, 62, 63, 64, 65] w y3 := ef_s_trans s2 (ef_s_mono q3 (by decide))
  have f3_0 : ec_fd y3 59 0 = ec_fd w 1 0 := (ef_s_f q3 (by decide) 0).trans f2_0
  have f3_1 : ec_fd y3 59 1 = ec_fd w 1 1 := (ef_s_f q3 (by decide) 1).trans f2_1
  have g3_60 : ef_a y3 60 = ef_a w 2 := (ef_s_a q3 (by decide)).trans g2_60
  have g3_61 : ef_a y3 61 = ef_a w 3 := (ef_s_a q3 (by decide)).trans g2_61
  have g3_62 : ef_a y3 62 = ef_a w 4 := p3.trans (ef_s_a s2 (by decide))
  obtain ⟨_, v4, y4, a4, b4⟩ := eg32_59_49_0 h3
  obtain ⟨z4, e4, X4, q4, p4⟩ := ew_cp5_63 a4
  injection e4 with e4 i4
  subst i4
  have h4 := b4 e4 X4
  have s4 : ef_s [59, 60, 61, 62, 63, 64, 65] w y4 := ef_s_trans s3 (ef_s_mono q4 (by decide))
  have f4_0 : ec_fd y4 59 0 = ec_fd w 1 0 := (ef_s_f q4 (by decide) 0).trans f3_0
  have f4_1 : ec_fd y4 59 1 = ec_fd w 1 1 := (ef_s_f q4 (by decide) 1).trans f3_1
  have g4_60 : ef_a y4 60 = ef_a w 2 := (ef_s_a q4 (by decide)).trans g3_60
  have g4_61 : ef_a y4 61 = ef_a w 3 := (ef_s_a q4 (by decide)).trans g3_61
  have g4_62 : ef_a y4 62 = ef_a w 4 := (ef_s_a q4 (by decide)).trans g3_62
  have g4_63 : ef_a y4 63 = ef_a w 5 := p4.trans (ef_s_a s3 (by decide))
  obtain ⟨_, v5, y5, a5, b5⟩ := eg32_59_60_0 h4
  obtain ⟨z5, e5, X5, q5, p5⟩ := ew_cp6_64 a5
  injection e5 with e5 i5
  subst i5
  have h5 := b5 e5 X5
  have s5 : ef_s [59, 60, 61, 62, 63, 64, 65] w y5 := ef_s_trans s4 (ef_s_mono q5 (by decide))
  have f5_0 : ec_fd y5 59 0 = ec_fd w 1 0 := (ef_s_f q5 (by decide) 0).trans f4_0
  have f5_1 : ec_fd y5 59 1 = ec_fd w 1 1 := (ef_s_f q5 (by decide) 1).trans f4_1
  have g5_60 : ef_a y5 60 = ef_a w 2 := (ef_s_a q5 (by decide)).trans g4_60
  have g5_61 : ef_a y5 61 = ef_a w 3 := (ef_s_a q5 (by decide)).trans g4_61
  have g5_62 : ef_a y5 62 = ef_a w 4 := (ef_s_a q5 (by decide)).trans g4_62
  have g5_63 : ef_a y5 63 = ef_a w 5 := (ef_s_a q5 (by decide)).trans g4_63
  have g5_64 : ef_a y5 64 = ef_a w 6 := p5.trans (ef_s_a s4 (by decide))
  obtain ⟨_, v6, y6, a6, b6⟩ := eg32_59_71_0 h5
  obtain ⟨z6, e6, X6, q6, p6⟩ := ew_cp7_65 a6
  injection e6 with e6 i6
  subst i6
  have h6 := b6 e6 X6
  have s6 : ef_s [59, 60, 61, 62, 63, 64, 65] w y6 := ef_s_trans s5 (ef_s_mono q6 (by decide))
  have f6_0 : ec_fd y6 59 0 = ec_fd w 1 0 := (ef_s_f q6 (by decide) 0).trans f5_0
  have f6_1 : ec_fd y6 59 1 = ec_fd w 1 1 := (ef_s_f q6 (by decide) 1).trans f5_1
  have g6_60 : ef_a y6 60 = ef_a w 2 := (ef_s_a q6 (by decide)).trans g5_60
  have g6_61 : ef_a y6 61 = ef_a w 3 := (ef_s_a q6 (by decide)).trans g5_61
  have g6_62 : ef_a y6 62 = ef_a w 4 := (ef_s_a q6 (by decide)).trans g5_62
  have g6_63 : ef_a y6 63 = ef_a w 5 := (ef_s_a q6 (by decide)).trans g5_63
  have g6_64 : ef_a y6 64 = ef_a w 6 := (ef_s_a q6 (by decide)).trans g5_64
  have g6_65 : ef_a y6 65 = ef_a w 7 := p6.trans (ef_s_a s5 (by decide))
  obtain ⟨_, v7, y7, a7, b7⟩ := eg32_59_82_0 h6
  obtain ⟨z7, e7, X7, q7, p7⟩ := ew_weigh_59 a7
  injection e7 with e7 i7
  subst i7
  have h7 := b7 e7 X7
  have s7 : ef_s [59, 60, 61, 62, 63, 64, 65] w y7 := ef_s_trans s6 (ef_s_mono q7 (by decide))
  have f7_0 : ec_fd y7 59 0 = ec_fd w 1 0 := (p7 0 (by decide) (by decide)).trans f6_0
  have f7_1 : ec_fd y7 59 1 = ec_fd w 1 1 := (p7 1 (by decide) (by decide)).trans f6_1
  have g7_60 : ef_a y7 60 = ef_a w 2 := (ef_s_a q7 (by decide)).trans g6_60
  have g7_61 : ef_a y7 61 = ef_a w 3 := (ef_s_a q7 (by decide)).trans g6_61
  have g7_62 : ef_a y7 62 = ef_a w 4 := (ef_s_a q7 (by decide)).trans g6_62
  have g7_63 : ef_a y7 63 = ef_a w 5 := (ef_s_a q7 (by decide)).trans g6_63
  have g7_64 : ef_a y7 64 = ef_a w 6 := (ef_s_a q7 (by decide)).trans g6_64
  have g7_65 : ef_a y7 65 = ef_a w 7 := (ef_s_a q7 (by decide)).trans g6_65
  obtain ⟨_, hr, hW⟩ := eg32_59_86_0 h7
  exact ⟨_, hr, hW, s7, g7_60, g7_61, g7_62, g7_63, g7_64, g7_65, f7_0, f7_1⟩
theorem ew_cf32_1 {n : Nat} {w : px_W} {r : Option Value × px_W} (h : ec_E hb_X n 32 0 [(0, .inr (.inl 65)), (1, .inr (.inl 123))] [] w r) : ∃ w' : px_W, r = (none, w') ∧ ec_W hb_A w' ∧ ef_s [1, 2, 3, 4, 5, 6, 7] w w' ∧ ef_a w' 2 = ef_a w 60 ∧ ef_a w' 3 = ef_a w 61 ∧ ef_a w' 4 = ef_a w 62 ∧ ef_a w' 5 = ef_a w 63 ∧ ef_a w' 6 = ef_a w 64 ∧ ef_a w' 7 = ef_a w 65 ∧ ec_fd w' 1 0 = ec_fd w 59 0 ∧ ec_fd w' 1 1 = ec_fd w 59 1 := by
  have r0 : ef_s [1, 2, 3, 4, 5, 6, 7] w w := ef_s_refl
  obtain ⟨_, v1, y1, a1, b1⟩ := eg32_1_0_0 h
  have s1_0 : ef_s [1, 2, 3, 4, 5, 6, 7] w (ec_pf w 1 0 (ec_fd w 59 0)) := ef_s_trans r0 (ef_s_pf (by decide))
  have w1_0 : ec_W hb_A (ec_pf w 1 0 (ec_fd w 59 0)) := ec_W_pf (k := 1) (f := 0) rfl rfl h.1
  have f1_0 : ec_fd (ec_pf w 1 0 (ec_fd w 59 0)) 1 0 = ec_fd w 59 0 := by
    rw [ec_fd_pf (k := 1) (f := 0) h.1 rfl (by decide), if_pos rfl, ec_tw_fd]
    try exact ef_s_f r0 (by decide) 0
  have s1_1 : ef_s [1, 2, 3, 4, 5, 6, 7] w (ec_pf (ec_pf w 1 0 (ec_fd w 59 0)) 1 1 (ec_fd (ec_pf w 1 0 (ec_fd w 59 0)) 59 1)) := ef_s_trans s1_0 (ef_s_pf (by decide))
  have w1_1 : ec_W hb_A (ec_pf (ec_pf w 1 0 (ec_fd w 59 0)) 1 1 (ec_fd (ec_pf w 1 0 (ec_fd w 59 0)) 59 1)) := ec_W_pf (k := 1) (f := 1) rfl rfl w1_0
  have f1_1_0 : ec_fd (ec_pf (ec_pf w 1 0 (ec_fd w 59 0)) 1 1 (ec_fd (ec_pf w 1 0 (ec_fd w 59 0)) 59 1)) 1 0 = ec_fd w 59 0 := by
    rw [ec_fd_pf (k := 1) (f := 1) w1_0 rfl (by decide), if_neg (by decide)]
    exact f1_0
  have f1_1 : ec_fd (ec_pf (ec_pf w 1 0 (ec_fd w 59 0)) 1 1 (ec_fd (ec_pf w 1 0 (ec_fd w 59 0)) 59 1)) 1 1 = ec_fd w 59 1 := by
    rw [ec_fd_pf (k := 1) (f := 1) w1_0 rfl (by decide), if_pos rfl, ec_tw_fd]
    try exact ef_s_f s1_0 (by decide) 1
  obtain ⟨z1, e1, X1, q1, p1⟩ := ew_cp60_2 a1
  injection e1 with e1 i1
  subst i1
  have h1 := b1 e1 X1
  have s1 : ef_s [1, 2, 3, 4, 5, 6, 7] w y1 := ef_s_trans s1_1 (ef_s_mono q1 (by decide))
  have f1_0 : ec_fd y1 1 0 = ec_fd w 59 0 := (ef_s_f q1 (by decide) 0).trans f1_1_0
  have f1_1 : ec_fd y1 1 1 = ec_fd w 59 1 := (ef_s_f q1 (by decide) 1).trans f1_1
  have g1_2 : ef_a y1 2 = ef_a w 60 := p1.trans (ef_s_a s1_1 (by decide))
  obtain ⟨_, v2, y2, a2, b2⟩ := eg32_1_27_0 h1
  obtain ⟨z2, e2, X2, q2, p2⟩ := ew_cp61_3 a2
  injection e2 with e2 i2
  subst i2
  have h2 := b2 e2 X2
  have s2 : ef_s [1, 2, 3, 4, 5, 6, 7] w y2 := ef_s_trans s1 (ef_s_mono q2 (by decide))
  have f2_0 : ec_fd y2 1 0 = ec_fd w 59 0 := (ef_s_f q2 (by decide) 0).trans f1_0
  have f2_1 : ec_fd y2 1 1 = ec_fd w 59 1 := (ef_s_f q2 (by decide) 1).trans f1_1
  have g2_2 : ef_a y2 2 = ef_a w 60 := (ef_s_a q2 (by decide)).trans g1_2
  have g2_3 : ef_a y2 3 = ef_a w 61 := p2.trans (ef_s_a s1 (by decide))
  obtain ⟨_, v3, y3, a3, b3⟩ := eg32_1_38_0 h2
  obtain ⟨z3, e3, X3, q3, p3⟩ := ew_cp62_4 a3
  injection e3 with e3 i3
  subst i3
  have h3 := b3 e3 X3
  have s3 : ef_s [1, 2, 3, 4, 5, 6, 7] w y3 := ef_s_trans s2 (ef_s_mono q3 (by decide))
  have f3_0 : ec_fd y3 1 0 = ec_fd w 59 0 := (ef_s_f q3 (by decide) 0).trans f2_0
  have f3_1 : ec_fd y3 1 1 = ec_fd w 59 1 := (ef_s_f q3 (by decide) 1).trans f2_1
  have g3_2 : ef_a y3 2 = ef_a w 60 := (ef_s_a q3 (by decide)).trans g2_2
  have g3_3 : ef_a y3 3 = ef_a w 61 := (ef_s_a q3 (by decide)).trans g2_3
  have g3_4 : ef_a y3 4 = ef_a w 62 := p3.trans (ef_s_a s2 (by decide))
  obtain ⟨_, v4, y4, a4, b4⟩ := eg32_1_49_0 h3
  obtain ⟨z4, e4, X4, q4, p4⟩ := ew_cp63_5 a4
  injection e4 with e4 i4
  subst i4
  have h4 := b4 e4 X4
  have s4 : ef_s [1, 2, 3, 4, 5, 6, 7] w y4 := ef_s_trans s3 (ef_s_mono q4 (by decide))
  have f4_0 : ec_fd y4 1 0 = ec_fd w 59 0 := (ef_s_f q4 (by decide) 0).trans f3_0
  have f4_1 : ec_fd y4 1 1 = ec_fd w 59 1 := (ef_s_f q4 (by decide) 1).trans f3_1
  have g4_2 : ef_a y4 2 = ef_a w 60 := (ef_s_a q4 (by decide)).trans g3_2
  have g4_3 : ef_a y4 3 = ef_a w 61 := (ef_s_a q4 (by decide)).trans g3_3
  have g4_4 : ef_a y4 4 = ef_a w 62 := (ef_s_a q4 (by decide)).trans g3_4
  have g4_5 : ef_a y4 5 = ef_a w 63 := p4.trans (ef_s_a s3 (by decide))
  obtain ⟨_, v5, y5, a5, b5⟩ := eg32_1_60_0 h4
  obtain ⟨z5, e5, X5, q5, p5⟩ := ew_cp64_6 a5
  injection e5 with e5 i5
  subst i5
  have h5 := b5 e5 X5
  have s5 : ef_s [1, 2, 3, 4, 5, 6, 7] w y5 := ef_s_trans s4 (ef_s_mono q5 (by decide))
  have f5_0 : ec_fd y5 1 0 = ec_fd w 59 0 := (ef_s_f q5 (by decide) 0).trans f4_0
  have f5_1 : ec_fd y5 1 1 = ec_fd w 59 1 := (ef_s_f q5 (by decide) 1).trans f4_1
  have g5_2 : ef_a y5 2 = ef_a w 60 := (ef_s_a q5 (by decide)).trans g4_2
  have g5_3 : ef_a y5 3 = ef_a w 61 := (ef_s_a q5 (by decide)).trans g4_3
  have g5_4 : ef_a y5 4 = ef_a w 62 := (ef_s_a q5 (by decide)).trans g4_4
  have g5_5 : ef_a y5 5 = ef_a w 63 := (ef_s_a q5 (by decide)).trans g4_5
  have g5_6 : ef_a y5 6 = ef_a w 64 := p5.trans (ef_s_a s4 (by decide))
  obtain ⟨_, v6, y6, a6, b6⟩ := eg32_1_71_0 h5
  obtain ⟨z6, e6, X6, q6, p6⟩ := ew_cp65_7 a6
  injection e6 with e6 i6
  subst i6
  have h6 := b6 e6 X6
  have s6 : ef_s [1, 2, 3, 4, 5, 6, 7] w y6 := ef_s_trans s5 (ef_s_mono q6 (by decide))
  have f6_0 : ec_fd y6 1 0 = ec_fd w 59 0 := (ef_s_f q6 (by decide) 0).trans f5_0
  have f6_1 : ec_fd y6 1 1 = ec_fd w 59 1 := (ef_s_f q6 (by decide) 1).trans f5_1
  have g6_2 : ef_a y6 2 = ef_a w 60 := (ef_s_a q6 (by decide)).trans g5_2
  have g6_3 : ef_a y6 3 = ef_a w 61 := (ef_s_a q6 (by decide)).trans g5_3
  have g6_4 : ef_a y6 4 = ef_a w 62 := (ef_s_a q6 (by decide)).trans g5_4
  have g6_5 : ef_a y6 5 = ef_a w 63 := (ef_s_a q6 (by decide)).trans g5_5
  have g6_6 : ef_a y6 6 = ef_a w 64 := (ef_s_a q6 (by decide)).trans g5_6
  have g6_7 : ef_a y6 7 = ef_a w 65 := p6.trans (ef_s_a s5 (by decide))
  obtain ⟨_, v7, y7, a7, b7⟩ := eg32_1_82_0 h6
  obtain ⟨z7, e7, X7, q7, p7⟩ := ew_weigh_1 a7
  injection e7 with e7 i7
  subst i7
  have h7 := b7 e7 X7
  have s7 : ef_s [1, 2, 3, 4, 5, 6, 7] w y7 := ef_s_trans s6 (ef_s_mono q7 (by decide))
  have f7_0 : ec_fd y7 1 0 = ec_fd w 59 0 := (p7 0 (by decide) (by decide)).trans f6_0
  have f7_1 : ec_fd y7 1 1 = ec_fd w 59 1 := (p7 1 (by decide) (by decide)).trans f6_1
  have g7_2 : ef_a y7 2 = ef_a w 60 := (ef_s_a q7 (by decide)).trans g6_2
  have g7_3 : ef_a y7 3 = ef_a w 61 := (ef_s_a q7 (by decide)).trans g6_3
  have g7_4 : ef_a y7 4 = ef_a w 62 := (ef_s_a q7 (by decide)).trans g6_4
  have g7_5 : ef_a y7 5 = ef_a w 63 := (ef_s_a q7 (by decide)).trans g6_5
  have g7_6 : ef_a y7 6 = ef_a w 64 := (ef_s_a q7 (by decide)).trans g6_6
  have g7_7 : ef_a y7 7 = ef_a w 65 := (ef_s_a q7 (by decide)).trans g6_7
  obtain ⟨_, hr, hW⟩ := eg32_1_86_0 h7
  exact ⟨_, hr, hW, s7, g7_2, g7_3, g7_4, g7_5, g7_6, g7_7, f7_0, f7_1⟩
theorem ew_cf109_68 {n : Nat} {w : px_W} {r : Option Value × px_W} (h : ec_E hb_X n 109 0 [(0, .inr (.inl 132)), (1, .inr (.inl 74))] [] w r) : ∃ w' : px_W, r = (none, w') ∧ ec_W hb_A w' ∧ ef_s [68, 69, 70, 71, 72] w w' ∧ ef_a w' 69 = ef_a w 11 ∧ ef_a w' 70 = ef_a w 12 ∧ ef_a w' 71 = ef_a w 13 ∧ ef_a w' 72 = ef_a w 14 ∧ ec_fd w' 68 0 = ec_fd w 10 0 := by
  have r0 : ef_s [68, 69, 70, 71, 72] w w := ef_s_refl
  obtain ⟨_, v1, y1, a1, b1⟩ := eg109_68_0_0 h
  have s1_0 : ef_s [68, 69, 70, 71, 72] w (ec_pf w 68 0 (ec_fd w 10 0)) := ef_s_trans r0 (ef_s_pf (by decide))
  have w1_0 : ec_W hb_A (ec_pf w 68 0 (ec_fd w 10 0)) := ec_W_pf (k := 68) (f := 0) rfl rfl h.1
  have f1_0 : ec_fd (ec_pf w 68 0 (ec_fd w 10 0)) 68 0 = ec_fd w 10 0 := by
    rw [ec_fd_pf (k := 68) (f := 0) h.1 rfl (by decide), if_pos rfl, ec_tw_fd]
    try exact ef_s_f r0 (by decide) 0
  have s1_3 : ef_s [68, 69, 70, 71, 72] w (ec_pf (ec_pf w 68 0 (ec_fd w 10 0)) 68 3 0) := ef_s_trans s1_0 (ef_s_pf (by decide))
  have w1_3 : ec_W hb_A (ec_pf (ec_pf w 68 0 (ec_fd w 10 0)) 68 3 0) := ec_W_pf (k := 68) (f := 3) rfl rfl w1_0
  have f1_3_0 : ec_fd (ec_pf (ec_pf w 68 0 (ec_fd w 10 0)) 68 3 0) 68 0 = ec_fd w 10 0 := by
    rw [ec_fd_pf (k := 68) (f := 3) w1_0 rfl (by decide), if_neg (by decide)]
    exact f1_0
  obtain ⟨z1, e1, X1, q1, p1⟩ := ew_cp11_69 a1
  injection e1 with e1 i1
  subst i1
  have h1 := b1 e1 X1
  have s1 : ef_s [68, 69, 70, 71, 72] w y1 := ef_s_trans s1_3 (ef_s_mono q1 (by decide))
  have f1_0 : ec_fd y1 68 0 = ec_fd w 10 0 := (ef_s_f q1 (by decide) 0).trans f1_3_0
  have g1_69 : ef_a y1 69 = ef_a w 11 := p1.trans (ef_s_a s1_3 (by decide))
  obtain ⟨_, v2, y2, a2, b2⟩ := eg109_68_24_0 h1
  obtain ⟨z2, e2, X2, q2, p2⟩ := ew_cp12_70 a2
  injection e2 with e2 i2
  subst i2
  have h2 := b2 e2 X2
  have s2 : ef_s [68, 69, 70, 71, 72] w y2 := ef_s_trans s1 (ef_s_mono q2 (by decide))
  have f2_0 : ec_fd y2 68 0 = ec_fd w 10 0 := (ef_s_f q2 (by decide) 0).trans f1_0
  have g2_69 : ef_a y2 69 = ef_a w 11 := (ef_s_a q2 (by decide)).trans g1_69
  have g2_70 : ef_a y2 70 = ef_a w 12 := p2.trans (ef_s_a s1 (by decide))
  obtain ⟨_, v3, y3, a3, b3⟩ := eg109_68_35_0 h2
  obtain ⟨z3, e3, X3, q3, p3⟩ := ew_cp13_71 a3
  injection e3 with e3 i3
  subst i3
  have h3 := b3 e3 X3
  have s3 : ef_s [68, 69, 70, 71, 72] w y3 := ef_s_trans s2 (ef_s_mono q3 (by decide))
  have f3_0 : ec_fd y3 68 0 = ec_fd w 10 0 := (ef_s_f q3 (by decide) 0).trans f2_0
  have g3_69 : ef_a y3 69 = ef_a w 11 := (ef_s_a q3 (by decide)).trans g2_69
  have g3_70 : ef_a y3 70 = ef_a w 12 := (ef_s_a q3 (by decide)).trans g2_70
  have g3_71 : ef_a y3 71 = ef_a w 13 := p3.trans (ef_s_a s2 (by decide))
  obtain ⟨_, v4, y4, a4, b4⟩ := eg109_68_46_0 h3
  obtain ⟨z4, e4, X4, q4, p4⟩ := ew_cp14_72 a4
  injection e4 with e4 i4
  subst i4
  have h4 := b4 e4 X4
  have s4 : ef_s [68, 69, 70, 71, 72] w y4 := ef_s_trans s3 (ef_s_mono q4 (by decide))
  have f4_0 : ec_fd y4 68 0 = ec_fd w 10 0 := (ef_s_f q4 (by decide) 0).trans f3_0
  have g4_69 : ef_a y4 69 = ef_a w 11 := (ef_s_a q4 (by decide)).trans g3_69
  have g4_70 : ef_a y4 70 = ef_a w 12 := (ef_s_a q4 (by decide)).trans g3_70
  have g4_71 : ef_a y4 71 = ef_a w 13 := (ef_s_a q4 (by decide)).trans g3_71
  have g4_72 : ef_a y4 72 = ef_a w 14 := p4.trans (ef_s_a s3 (by decide))
  obtain ⟨_, hr, hW⟩ := eg109_68_57_0 h4
  exact ⟨_, hr, hW, s4, g4_69, g4_70, g4_71, g4_72, f4_0⟩
theorem ew_cf109_10 {n : Nat} {w : px_W} {r : Option Value × px_W} (h : ec_E hb_X n 109 0 [(0, .inr (.inl 74)), (1, .inr (.inl 132))] [] w r) : ∃ w' : px_W, r = (none, w') ∧ ec_W hb_A w' ∧ ef_s [10, 11, 12, 13, 14] w w' ∧ ef_a w' 11 = ef_a w 69 ∧ ef_a w' 12 = ef_a w 70 ∧ ef_a w' 13 = ef_a w 71 ∧ ef_a w' 14 = ef_a w 72 ∧ ec_fd w' 10 0 = ec_fd w 68 0 := by
  have r0 : ef_s [10, 11, 12, 13, 14] w w := ef_s_refl
  obtain ⟨_, v1, y1, a1, b1⟩ := eg109_10_0_0 h
  have s1_0 : ef_s [10, 11, 12, 13, 14] w (ec_pf w 10 0 (ec_fd w 68 0)) := ef_s_trans r0 (ef_s_pf (by decide))
  have w1_0 : ec_W hb_A (ec_pf w 10 0 (ec_fd w 68 0)) := ec_W_pf (k := 10) (f := 0) rfl rfl h.1
  have f1_0 : ec_fd (ec_pf w 10 0 (ec_fd w 68 0)) 10 0 = ec_fd w 68 0 := by
    rw [ec_fd_pf (k := 10) (f := 0) h.1 rfl (by decide), if_pos rfl, ec_tw_fd]
    try exact ef_s_f r0 (by decide) 0
  have s1_3 : ef_s [10, 11, 12, 13, 14] w (ec_pf (ec_pf w 10 0 (ec_fd w 68 0)) 10 3 0) := ef_s_trans s1_0 (ef_s_pf (by decide))
  have w1_3 : ec_W hb_A (ec_pf (ec_pf w 10 0 (ec_fd w 68 0)) 10 3 0) := ec_W_pf (k := 10) (f := 3) rfl rfl w1_0
  have f1_3_0 : ec_fd (ec_pf (ec_pf w 10 0 (ec_fd w 68 0)) 10 3 0) 10 0 = ec_fd w 68 0 := by
    rw [ec_fd_pf (k := 10) (f := 3) w1_0 rfl (by decide), if_neg (by decide)]
    exact f1_0
  obtain ⟨z1, e1, X1, q1, p1⟩ := ew_cp69_11 a1
  injection e1 with e1 i1
  subst i1
  have h1 := b1 e1 X1
  have s1 : ef_s [10, 11, 12, 13, 14] w y1 := ef_s_trans s1_3 (ef_s_mono q1 (by decide))
  have f1_0 : ec_fd y1 10 0 = ec_fd w 68 0 := (ef_s_f q1 (by decide) 0).trans f1_3_0
  have g1_11 : ef_a y1 11 = ef_a w 69 := p1.trans (ef_s_a s1_3 (by decide))
  obtain ⟨_, v2, y2, a2, b2⟩ := eg109_10_24_0 h1
  obtain ⟨z2, e2, X2, q2, p2⟩ := ew_cp70_12 a2
  injection e2 with e2 i2
  subst i2
  have h2 := b2 e2 X2
  have s2 : ef_s [10, 11, 12, 13, 14] w y2 := ef_s_trans s1 (ef_s_mono q2 (by decide))
  have f2_0 : ec_fd y2 10 0 = ec_fd w 68 0 := (ef_s_f q2 (by decide) 0).trans f1_0
  have g2_11 : ef_a y2 11 = ef_a w 69 := (ef_s_a q2 (by decide)).trans g1_11
  have g2_12 : ef_a y2 12 = ef_a w 70 := p2.trans (ef_s_a s1 (by decide))
  obtain ⟨_, v3, y3, a3, b3⟩ := eg109_10_35_0 h2
  obtain ⟨z3, e3, X3, q3, p3⟩ := ew_cp71_13 a3
  injection e3 with e3 i3
  subst i3
  have h3 := b3 e3 X3
  have s3 : ef_s [10, 11, 12, 13, 14] w y3 := ef_s_trans s2 (ef_s_mono q3 (by decide))
  have f3_0 : ec_fd y3 10 0 = ec_fd w 68 0 := (ef_s_f q3 (by decide) 0).trans f2_0
  have g3_11 : ef_a y3 11 = ef_a w 69 := (ef_s_a q3 (by decide)).trans g2_11
  have g3_12 : ef_a y3 12 = ef_a w 70 := (ef_s_a q3 (by decide)).trans g2_12
  have g3_13 : ef_a y3 13 = ef_a w 71 := p3.trans (ef_s_a s2 (by decide))
  obtain ⟨_, v4, y4, a4, b4⟩ := eg109_10_46_0 h3
  obtain ⟨z4, e4, X4, q4, p4⟩ := ew_cp72_14 a4
  injection e4 with e4 i4
  subst i4
  have h4 := b4 e4 X4
  have s4 : ef_s [10, 11, 12, 13, 14] w y4 := ef_s_trans s3 (ef_s_mono q4 (by decide))
  have f4_0 : ec_fd y4 10 0 = ec_fd w 68 0 := (ef_s_f q4 (by decide) 0).trans f3_0
  have g4_11 : ef_a y4 11 = ef_a w 69 := (ef_s_a q4 (by decide)).trans g3_11
  have g4_12 : ef_a y4 12 = ef_a w 70 := (ef_s_a q4 (by decide)).trans g3_12
  have g4_13 : ef_a y4 13 = ef_a w 71 := (ef_s_a q4 (by decide)).trans g3_13
  have g4_14 : ef_a y4 14 = ef_a w 72 := p4.trans (ef_s_a s3 (by decide))
  obtain ⟨_, hr, hW⟩ := eg109_10_57_0 h4
  exact ⟨_, hr, hW, s4, g4_11, g4_12, g4_13, g4_14, f4_0⟩
theorem ew_cf14_73 {n : Nat} {w : px_W} {r : Option Value × px_W} (h : ec_E hb_X n 14 0 [(0, .inr (.inl 137)), (1, .inr (.inl 79))] [] w r) : ∃ w' : px_W, r = (none, w') ∧ ec_W hb_A w' ∧ ef_s [73, 74, 75, 76, 77, 78, 79, 80, 81, 82, 83, 84, 85] w w' ∧ ef_a w' 74 = ef_a w 16 ∧ ef_a w' 75 = ef_a w 17 ∧ ef_a w' 76 = ef_a w 18 ∧ ef_a w' 77 = ef_a w 19 ∧ ef_a w' 78 = ef_a w 20 ∧ ef_a w' 79 = ef_a w 21 ∧ ef_a w' 80 = ef_a w 22 ∧ ef_a w' 81 = ef_a w 23 ∧ ef_a w' 82 = ef_a w 24 ∧ ef_a w' 83 = ef_a w 25 ∧ ef_a w' 84 = ef_a w 26 ∧ ef_a w' 85 = ef_a w 27 ∧ ec_fd w' 73 0 = ec_fd w 15 0 ∧ ec_fd w' 73 5 = ec_fd w 15 5 ∧ ec_fd w' 73 10 = ec_fd w 15 10 := by
  have r0 : ef_s [73, 74, 75, 76, 77, 78, 79, 80, 81, 82, 83, 84, 85] w w := ef_s_refl
  obtain ⟨_, v1, y1, a1, b1⟩ := eg14_73_0_0 h
  have s1_0 : ef_s [73, 74, 75, 76, 77, 78, 79, 80, 81, 82, 83, 84, 85] w (ec_pf w 73 0 (ec_fd w 15 0)) := ef_s_trans r0 (ef_s_pf (by decide))
  have w1_0 : ec_W hb_A (ec_pf w 73 0 (ec_fd w 15 0)) := ec_W_pf (k := 73) (f := 0) rfl rfl h.1
  have f1_0 : ec_fd (ec_pf w 73 0 (ec_fd w 15 0)) 73 0 = ec_fd w 15 0 := by
    rw [ec_fd_pf (k := 73) (f := 0) h.1 rfl (by decide), if_pos rfl, ec_tw_fd]
    try exact ef_s_f r0 (by decide) 0
  obtain ⟨z1, e1, X1, q1, p1⟩ := ew_cp16_74 a1
  injection e1 with e1 i1
  subst i1
  have h1 := b1 e1 X1
  have s1 : ef_s [73, 74, 75, 76, 77, 78, 79, 80, 81, 82, 83, 84, 85] w y1 := ef_s_trans s1_0 (ef_s_mono q1 (by decide))
  have f1_0 : ec_fd y1 73 0 = ec_fd w 15 0 := (ef_s_f q1 (by decide) 0).trans f1_0
  have g1_74 : ef_a y1 74 = ef_a w 16 := p1.trans (ef_s_a s1_0 (by decide))
  obtain ⟨_, v2, y2, a2, b2⟩ := eg14_73_19_0 h1
  obtain ⟨z2, e2, X2, q2, p2⟩ := ew_cp17_75 a2
  injection e2 with e2 i2
  subst i2
  have h2 := b2 e2 X2
  have s2 : ef_s [73, 74, 75, 76, 77, 78, 79, 80, 81, 82, 83, 84, 85] w y2 := ef_s_trans s1 (ef_s_mono q2 (by decide))
  have f2_0 : ec_fd y2 73 0 = ec_fd w 15 0 := (ef_s_f q2 (by decide) 0).trans f1_0
  have g2_74 : ef_a y2 74 = ef_a w 16 := (ef_s_a q2 (by decide)).trans g1_74
  have g2_75 : ef_a y2 75 = ef_a w 17 := p2.trans (ef_s_a s1 (by decide))
  obtain ⟨_, v3, y3, a3, b3⟩ := eg14_73_30_0 h2
  obtain ⟨z3, e3, X3, q3, p3⟩ := ew_cp18_76 a3
  injection e3 with e3 i3
  subst i3
  have h3 := b3 e3 X3
  have s3 : ef_s [73, 74, 75, 76, 77, 78, 79, 80, 81, 82, 83, 84, 85] w y3 := ef_s_trans s2 (ef_s_mono q3 (by decide))
  have f3_0 : ec_fd y3 73 0 = ec_fd w 15 0 := (ef_s_f q3 (by decide) 0).trans f2_0
  have g3_74 : ef_a y3 74 = ef_a w 16 := (ef_s_a q3 (by decide)).trans g2_74
  have g3_75 : ef_a y3 75 = ef_a w 17 := (ef_s_a q3 (by decide)).trans g2_75
  have g3_76 : ef_a y3 76 = ef_a w 18 := p3.trans (ef_s_a s2 (by decide))
  obtain ⟨_, v4, y4, a4, b4⟩ := eg14_73_41_0 h3
  obtain ⟨z4, e4, X4, q4, p4⟩ := ew_cp19_77 a4
  injection e4 with e4 i4
  subst i4
  have h4 := b4 e4 X4
  have s4 : ef_s [73, 74, 75, 76, 77, 78, 79, 80, 81, 82, 83, 84, 85] w y4 := ef_s_trans s3 (ef_s_mono q4 (by decide))
  have f4_0 : ec_fd y4 73 0 = ec_fd w 15 0 := (ef_s_f q4 (by decide) 0).trans f3_0
  have g4_74 : ef_a y4 74 = ef_a w 16 := (ef_s_a q4 (by decide)).trans g3_74
  have g4_75 : ef_a y4 75 = ef_a w 17 := (ef_s_a q4 (by decide)).trans g3_75
  have g4_76 : ef_a y4 76 = ef_a w 18 := (ef_s_a q4 (by decide)).trans g3_76
  have g4_77 : ef_a y4 77 = ef_a w 19 := p4.trans (ef_s_a s3 (by decide))
  obtain ⟨_, v5, y5, a5, b5⟩ := eg14_73_52_0 h4
  have s5_5 : ef_s [73, 74, 75, 76, 77, 78, 79, 80, 81, 82, 83, 84, 85] w (ec_pf y4 73 5 (ec_fd y4 15 5)) := ef_s_trans s4 (ef_s_pf (by decide))
  have w5_5 : ec_W hb_A (ec_pf y4 73 5 (ec_fd y4 15 5)) := ec_W_pf (k := 73) (f := 5) rfl rfl X4
  have f5_5_0 : ec_fd (ec_pf y4 73 5 (ec_fd y4 15 5)) 73 0 = ec_fd w 15 0 := by
    rw [ec_fd_pf (k := 73) (f := 5) X4 rfl (by decide), if_neg (by decide)]
    exact f4_0
  have f5_5 : ec_fd (ec_pf y4 73 5 (ec_fd y4 15 5)) 73 5 = ec_fd w 15 5 := by
    rw [ec_fd_pf (k := 73) (f := 5) X4 rfl (by decide), if_pos rfl, ec_tw_fd]
    try exact ef_s_f s4 (by decide) 5
  have g5_5_74 : ef_a (ec_pf y4 73 5 (ec_fd y4 15 5)) 74 = ef_a w 16 := (ef_s_a (ef_s_pf (S := [73]) List.mem_cons_self) (by decide)).trans g4_74
  have g5_5_75 : ef_a (ec_pf y4 73 5 (ec_fd y4 15 5)) 75 = ef_a w 17 := (ef_s_a (ef_s_pf (S := [73]) List.mem_cons_self) (by decide)).trans g4_75
  have g5_5_76 : ef_a (ec_pf y4 73 5 (ec_fd y4 15 5)) 76 = ef_a w 18 := (ef_s_a (ef_s_pf (S := [73]) List.mem_cons_self) (by decide)).trans g4_76
  have g5_5_77 : ef_a (ec_pf y4 73 5 (ec_fd y4 15 5)) 77 = ef_a w 19 := (ef_s_a (ef_s_pf (S := [73]) List.mem_cons_self) (by decide)).trans g4_77
  obtain ⟨z5, e5, X5, q5, p5⟩ := ew_cp20_78 a5
  injection e5 with e5 i5
  subst i5
  have h5 := b5 e5 X5
  have s5 : ef_s [73, 74, 75, 76, 77, 78, 79, 80, 81, 82, 83, 84, 85] w y5 := ef_s_trans s5_5 (ef_s_mono q5 (by decide))
  have f5_0 : ec_fd y5 73 0 = ec_fd w 15 0 := (ef_s_f q5 (by decide) 0).trans f5_5_0
  have f5_5 : ec_fd y5 73 5 = ec_fd w 15 5 := (ef_s_f q5 (by decide) 5).trans f5_5
  have g5_74 : ef_a y5 74 = ef_a w 16 := (ef_s_a q5 (by decide)).trans g5_5_74
  have g5_75 : ef_a y5 75 = ef_a w 17 := (ef_s_a q5 (by decide)).trans g5_5_75
  have g5_76 : ef_a y5 76 = ef_a w 18 := (ef_s_a q5 (by decide)).trans g5_5_76
  have g5_77 : ef_a y5 77 = ef_a w 19 := (ef_s_a q5 (by decide)).trans g5_5_77
  have g5_78 : ef_a y5 78 = ef_a w 20 := p5.trans (ef_s_a s5_5 (by decide))
  obtain ⟨_, v6, y6, a6, b6⟩ := eg14_73_71_0 h5
  obtain ⟨z6, e6, X6, q6, p6⟩ := ew_cp21_79 a6
  injection e6 with e6 i6
  subst i6
  have h6 := b6 e6 X6
  have s6 : ef_s [73, 74, 75, 76, 77, 78, 79, 80, 81, 82, 83, 84, 85] w y6 := ef_s_trans s5 (ef_s_mono q6 (by decide))
  have f6_0 : ec_fd y6 73 0 = ec_fd w 15 0 := (ef_s_f q6 (by decide) 0).trans f5_0
  have f6_5 : ec_fd y6 73 5 = ec_fd w 15 5 := (ef_s_f q6 (by decide) 5).trans f5_5
  have g6_74 : ef_a y6 74 = ef_a w 16 := (ef_s_a q6 (by decide)).trans g5_74
  have g6_75 : ef_a y6 75 = ef_a w 17 := (ef_s_a q6 (by decide)).trans g5_75
  have g6_76 : ef_a y6 76 = ef_a w 18 := (ef_s_a q6 (by decide)).trans g5_76
  have g6_77 : ef_a y6 77 = ef_a w 19 := (ef_s_a q6 (by decide)).trans g5_77
  have g6_78 : ef_a y6 78 = ef_a w 20 := (ef_s_a q6 (by decide)).trans g5_78
  have g6_79 : ef_a y6 79 = ef_a w 21 := p6.trans (ef_s_a s5 (by decide))
  obtain ⟨_, v7, y7, a7, b7⟩ := eg14_73_82_0 h6
  obtain ⟨z7, e7, X7, q7, p7⟩ := ew_cp22_80 a7
  injection e7 with e7 i7
  subst i7
  have h7 := b7 e7 X7
  have s7 : ef_s [73, 74, 75, 76, 77, 78, 79, 80, 81, 82, 83, 84, 85] w y7 := ef_s_trans s6 (ef_s_mono q7 (by decide))
  have f7_0 : ec_fd y7 73 0 = ec_fd w 15 0 := (ef_s_f q7 (by decide) 0).trans f6_0
  have f7_5 : ec_fd y7 73 5 = ec_fd w 15 5 := (ef_s_f q7 (by decide) 5).trans f6_5
  have g7_74 : ef_a y7 74 = ef_a w 16 := (ef_s_a q7 (by decide)).trans g6_74
  have g7_75 : ef_a y7 75 = ef_a w 17 := (ef_s_a q7 (by decide)).trans g6_75
  have g7_76 : ef_a y7 76 = ef_a w 18 := (ef_s_a q7 (by decide)).trans g6_76
  have g7_77 : ef_a y7 77 = ef_a w 19 := (ef_s_a q7 (by decide)).trans g6_77
  have g7_78 : ef_a y7 78 = ef_a w 20 := (ef_s_a q7 (by decide)).trans g6_78
  have g7_79 : ef_a y7 79 = ef_a w 21 := (ef_s_a q7 (by decide)).trans g6_79
  have g7_80 : ef_a y7 80 = ef_a w 22 := p7.trans (ef_s_a s6 (by decide))
  obtain ⟨_, v8, y8, a8, b8⟩ := eg14_73_93_0 h7
  obtain ⟨z8, e8, X8, q8, p8⟩ := ew_cp23_81 a8
  injection e8 with e8 i8
  subst i8
  have h8 := b8 e8 X8
  have s8 : ef_s [73, 74, 75, 76, 77, 78, 79, 80, 81, 82, 83, 84, 85] w y8 := ef_s_trans s7 (ef_s_mono q8 (by decide))
  have f8_0 : ec_fd y8 73 0 = ec_fd w 15 0 := (ef_s_f q8 (by decide) 0).trans f7_0
  have f8_5 : ec_fd y8 73 5 = ec_fd w 15 5 := (ef_s_f q8 (by decide) 5).trans f7_5
  have g8_74 : ef_a y8 74 = ef_a w 16 := (ef_s_a q8 (by decide)).trans g7_74
  have g8_75 : ef_a y8 75 = ef_a w 17 := (ef_s_a q8 (by decide)).trans g7_75
  have g8_76 : ef_a y8 76 = ef_a w 18 := (ef_s_a q8 (by decide)).trans g7_76
  have g8_77 : ef_a y8 77 = ef_a w 19 := (ef_s_a q8 (by decide)).trans g7_77
  have g8_78 : ef_a y8 78 = ef_a w 20 := (ef_s_a q8 (by decide)).trans g7_78
  have g8_79 : ef_a y8 79 = ef_a w 21 := (ef_s_a q8 (by decide)).trans g7_79
  have g8_80 : ef_a y8 80 = ef_a w 22 := (ef_s_a q8 (by decide)).trans g7_80
  have g8_81 : ef_a y8 81 = ef_a w 23 := p8.trans (ef_s_a s7 (by decide))
  obtain ⟨_, v9, y9, a9, b9⟩ := eg14_73_104_0 h8
  have s9_10 : ef_s [73, 74, 75, 76, 77, 78, 79, 80, 81, 82, 83, 84, 85] w (ec_pf y8 73 10 (ec_fd y8 15 10)) := ef_s_trans s8 (ef_s_pf (by decide))
  have w9_10 : ec_W hb_A (ec_pf y8 73 10 (ec_fd y8 15 10)) := ec_W_pf (k := 73) (f := 10) rfl rfl X8
  have f9_10_0 : ec_fd (ec_pf y8 73 10 (ec_fd y8 15 10)) 73 0 = ec_fd w 15 0 := by
    rw [ec_fd_pf (k := 73) (f := 10) X8 rfl (by decide), if_neg (by decide)]
    exact f8_0
  have f9_10_5 : ec_fd (ec_pf y8 73 10 (ec_fd y8 15 10)) 73 5 = ec_fd w 15 5 := by
    rw [ec_fd_pf (k := 73) (f := 10) X8 rfl (by decide), if_neg (by decide)]
    exact f8_5
  have f9_10 : ec_fd (ec_pf y8 73 10 (ec_fd y8 15 10)) 73 10 = ec_fd w 15 10 := by
    rw [ec_fd_pf (k := 73) (f := 10) X8 rfl (by decide), if_pos rfl, ec_tw_fd]
    try exact ef_s_f s8 (by decide) 10
  have g9_10_74 : ef_a (ec_pf y8 73 10 (ec_fd y8 15 10)) 74 = ef_a w 16 := (ef_s_a (ef_s_pf (S := [73]) List.mem_cons_self) (by decide)).trans g8_74
  have g9_10_75 : ef_a (ec_pf y8 73 10 (ec_fd y8 15 10)) 75 = ef_a w 17 := (ef_s_a (ef_s_pf (S := [73]) List.mem_cons_self) (by decide)).trans g8_75
  have g9_10_76 : ef_a (ec_pf y8 73 10 (ec_fd y8 15 10)) 76 = ef_a w 18 := (ef_s_a (ef_s_pf (S := [73]) List.mem_cons_self) (by decide)).trans g8_76
  have g9_10_77 : ef_a (ec_pf y8 73 10 (ec_fd y8 15 10)) 77 = ef_a w 19 := (ef_s_a (ef_s_pf (S := [73]) List.mem_cons_self) (by decide)).trans g8_77
  have g9_10_78 : ef_a (ec_pf y8 73 10 (ec_fd y8 15 10)) 78 = ef_a w 20 := (ef_s_a (ef_s_pf (S := [73]) List.mem_cons_self) (by decide)).trans g8_78
  have g9_10_79 : ef_a (ec_pf y8 73 10 (ec_fd y8 15 10)) 79 = ef_a w 21 := (ef_s_a (ef_s_pf (S := [73]) List.mem_cons_self) (by decide)).trans g8_79
  have g9_10_80 : ef_a (ec_pf y8 73 10 (ec_fd y8 15 10)) 80 = ef_a w 22 := (ef_s_a (ef_s_pf (S := [73]) List.mem_cons_self) (by decide)).trans g8_80
  have g9_10_81 : ef_a (ec_pf y8 73 10 (ec_fd y8 15 10)) 81 = ef_a w 23 := (ef_s_a (ef_s_pf (S := [73]) List.mem_cons_self) (by decide)).trans g8_81
  obtain ⟨z9, e9, X9, q9, p9⟩ := ew_cp24_82 a9
  injection e9 with e9 i9
  subst i9
  have h9 := b9 e9 X9
  have s9 : ef_s [73, 74, 75, 76, 77, 78, 79, 80, 81, 82, 83, 84, 85] w y9 := ef_s_trans s9_10 (ef_s_mono q9 (by decide))
  have f9_0 : ec_fd y9 73 0 = ec_fd w 15 0 := (ef_s_f q9 (by decide) 0).trans f9_10_0
  have f9_5 : ec_fd y9 73 5 = ec_fd w 15 5 := (ef_s_f q9 (by decide) 5).trans f9_10_5
  have f9_10 : ec_fd y9 73 10 = ec_fd w 15 10 := (ef_s_f q9 (by decide) 10).trans f9_10
  have g9_74 : ef_a y9 74 = ef_a w 16 := (ef_s_a q9 (by decide)).trans g9_10_74
  have g9_75 : ef_a y9 75 = ef_a w 17 := (ef_s_a q9 (by decide)).trans g9_10_75
  have g9_76 : ef_a y9 76 = ef_a w 18 := (ef_s_a q9 (by decide)).trans g9_10_76
  have g9_77 : ef_a y9 77 = ef_a w 19 := (ef_s_a q9 (by decide)).trans g9_10_77
  have g9_78 : ef_a y9 78 = ef_a w 20 := (ef_s_a q9 (by decide)).trans g9_10_78
  have g9_79 : ef_a y9 79 = ef_a w 21 := (ef_s_a q9 (by decide)).trans g9_10_79
  have g9_80 : ef_a y9 80 = ef_a w 22 := (ef_s_a q9 (by decide)).trans g9_10_80
  have g9_81 : ef_a y9 81 = ef_a w 23 := (ef_s_a q9 (by decide)).trans g9_10_81
  have g9_82 : ef_a y9 82 = ef_a w 24 := p9.trans (ef_s_a s9_10 (by decide))
  obtain ⟨_, v10, y10, a10, b10⟩ := eg14_73_123_0 h9
  obtain ⟨z10, e10, X10, q10, p10⟩ := ew_cp25_83 a10
  injection e10 with e10 i10
  subst i10
  have h10 := b10 e10 X10
  have s10 : ef_s [73, 74, 75, 76, 77, 78, 79, 80, 81, 82, 83, 84, 85] w y10 := ef_s_trans s9 (ef_s_mono q10 (by decide))
  have f10_0 : ec_fd y10 73 0 = ec_fd w 15 0 := (ef_s_f q10 (by decide) 0).trans f9_0
  have f10_5 : ec_fd y10 73 5 = ec_fd w 15 5 := (ef_s_f q10 (by decide) 5).trans f9_5
  have f10_10 : ec_fd y10 73 10 = ec_fd w 15 10 := (ef_s_f q10 (by decide) 10).trans f9_10
  have g10_74 : ef_a y10 74 = ef_a w 16 := (ef_s_a q10 (by decide)).trans g9_74
  have g10_75 : ef_a y10 75 = ef_a w 17 := (ef_s_a q10 (by decide)).trans g9_75
  have g10_76 : ef_a y10 76 = ef_a w 18 := (ef_s_a q10 (by decide)).trans g9_76
  have g10_77 : ef_a y10 77 = ef_a w 19 := (ef_s_a q10 (by decide)).trans g9_77
  have g10_78 : ef_a y10 78 = ef_a w 20 := (ef_s_a q10 (by decide)).trans g9_78
  have g10_79 : ef_a y10 79 = ef_a w 21 := (ef_s_a q10 (by decide)).trans g9_79
  have g10_80 : ef_a y10 80 = ef_a w 22 := (ef_s_a q10 (by decide)).trans g9_80
  have g10_81 : ef_a y10 81 = ef_a w 23 := (ef_s_a q10 (by decide)).trans g9_81
  have g10_82 : ef_a y10 82 = ef_a w 24 := (ef_s_a q10 (by decide)).trans g9_82
  have g10_83 : ef_a y10 83 = ef_a w 25 := p10.trans (ef_s_a s9 (by decide))
  obtain ⟨_, v11, y11, a11, b11⟩ := eg14_73_134_0 h10
  obtain ⟨z11, e11, X11, q11, p11⟩ := ew_cp26_84 a11
  injection e11 with e11 i11
  subst i11
  have h11 := b11 e11 X11
  have s11 : ef_s [73, 74, 75, 76, 77, 78, 79, 80, 81, 82, 83, 84, 85] w y11 := ef_s_trans s10 (ef_s_mono q11 (by decide))
  have f11_0 : ec_fd y11 73 0 = ec_fd w 15 0 := (ef_s_f q11 (by decide) 0).trans f10_0
  have f11_5 : ec_fd y11 73 5 = ec_fd w 15 5 := (ef_s_f q11 (by decide) 5).trans f10_5
  have f11_10 : ec_fd y11 73 10 = ec_fd w 15 10 := (ef_s_f q11 (by decide) 10).trans f10_10
  have g11_74 : ef_a y11 74 = ef_a w 16 := (ef_s_a q11 (by decide)).trans g10_74
  have g11_75 : ef_a y11 75 = ef_a w 17 := (ef_s_a q11 (by decide)).trans g10_75
  have g11_76 : ef_a y11 76 = ef_a w 18 := (ef_s_a q11 (by decide)).trans g10_76
  have g11_77 : ef_a y11 77 = ef_a w 19 := (ef_s_a q11 (by decide)).trans g10_77
  have g11_78 : ef_a y11 78 = ef_a w 20 := (ef_s_a q11 (by decide)).trans g10_78
  have g11_79 : ef_a y11 79 = ef_a w 21 := (ef_s_a q11 (by decide)).trans g10_79
  have g11_80 : ef_a y11 80 = ef_a w 22 := (ef_s_a q11 (by decide)).trans g10_80
  have g11_81 : ef_a y11 81 = ef_a w 23 := (ef_s_a q11 (by decide)).trans g10_81
  have g11_82 : ef_a y11 82 = ef_a w 24 := (ef_s_a q11 (by decide)).trans g10_82
  have g11_83 : ef_a y11 83 = ef_a w 25 := (ef_s_a q11 (by decide)).trans g10_83
  have g11_84 : ef_a y11 84 = ef_a w 26 := p11.trans (ef_s_a s10 (by decide))
  obtain ⟨_, v12, y12, a12, b12⟩ := eg14_73_145_0 h11
  obtain ⟨z12, e12, X12, q12, p12⟩ := ew_cp27_85 a12
  injection e12 with e12 i12
  subst i12
  have h12 := b12 e12 X12
  have s12 : ef_s [73, 74, 75, 76, 77, 78, 79, 80, 81, 82, 83, 84, 85] w y12 := ef_s_trans s11 (ef_s_mono q12 (by decide))
  have f12_0 : ec_fd y12 73 0 = ec_fd w 15 0 := (ef_s_f q12 (by decide) 0).trans f11_0
  have f12_5 : ec_fd y12 73 5 = ec_fd w 15 5 := (ef_s_f q12 (by decide) 5).trans f11_5
  have f12_10 : ec_fd y12 73 10 = ec_fd w 15 10 := (ef_s_f q12 (by decide) 10).trans f11_10
  have g12_74 : ef_a y12 74 = ef_a w 16 := (ef_s_a q12 (by decide)).trans g11_74
  have g12_75 : ef_a y12 75 = ef_a w 17 := (ef_s_a q12 (by decide)).trans g11_75
  have g12_76 : ef_a y12 76 = ef_a w 18 := (ef_s_a q12 (by decide)).trans g11_76
  have g12_77 : ef_a y12 77 = ef_a w 19 := (ef_s_a q12 (by decide)).trans g11_77
  have g12_78 : ef_a y12 78 = ef_a w 20 := (ef_s_a q12 (by decide)).trans g11_78
  have g12_79 : ef_a y12 79 = ef_a w 21 := (ef_s_a q12 (by decide)).trans g11_79
  have g12_80 : ef_a y12 80 = ef_a w 22 := (ef_s_a q12 (by decide)).trans g11_80
  have g12_81 : ef_a y12 81 = ef_a w 23 := (ef_s_a q12 (by decide)).trans g11_81
  have g12_82 : ef_a y12 82 = ef_a w 24 := (ef_s_a q12 (by decide)).trans g11_82
  have g12_83 : ef_a y12 83 = ef_a w 25 := (ef_s_a q12 (by decide)).trans g11_83
  have g12_84 : ef_a y12 84 = ef_a w 26 := (ef_s_a q12 (by decide)).trans g11_84
  have g12_85 : ef_a y12 85 = ef_a w 27 := p12.trans (ef_s_a s11 (by decide))
  obtain ⟨_, hr, hW⟩ := eg14_73_156_0 h12
  exact ⟨_, hr, hW, s12, g12_74, g12_75, g12_76, g12_77, g12_78, g12_79, g12_80, g12_81, g12_82, g12_83, g12_84, g12_85, f12_0, f12_5, f12_10⟩
theorem ew_cf14_15 {n : Nat} {w : px_W} {r : Option Value × px_W} (h : ec_E hb_X n 14 0 [(0, .inr (.inl 79)), (1, .inr (.inl 137))] [] w r) : ∃ w' : px_W, r = (none, w') ∧ ec_W hb_A w' ∧ ef_s [15, 16, 17, 18, 19, 20, 21, 22, 23, 24, 25, 26, 27] w w' ∧ ef_a w' 16 = ef_a w 74 ∧ ef_a w' 17 = ef_a w 75 ∧ ef_a w' 18 = ef_a w 76 ∧ ef_a w' 19 = ef_a w 77 ∧ ef_a w' 20 = ef_a w 78 ∧ ef_a w' 21 = ef_a w 79 ∧ ef_a w' 22 = ef_a w 80 ∧ ef_a w' 23 = ef_a w 81 ∧ ef_a w' 24 = ef_a w 82 ∧ ef_a w' 25 = ef_a w 83 ∧ ef_a w' 26 = ef_a w 84 ∧ ef_a w' 27 = ef_a w 85 ∧ ec_fd w' 15 0 = ec_fd w 73 0 ∧ ec_fd w' 15 5 = ec_fd w 73 5 ∧ ec_fd w' 15 10 = ec_fd w 73 10 := by
  have r0 : ef_s [15, 16, 17, 18, 19, 20, 21, 22, 23, 24, 25, 26, 27] w w := ef_s_refl
  obtain ⟨_, v1, y1, a1, b1⟩ := eg14_15_0_0 h
  have s1_0 : ef_s [15, 16, 17, 18, 19, 20, 21, 22, 23, 24, 25, 26, 27] w (ec_pf w 15 0 (ec_fd w 73 0)) := ef_s_trans r0 (ef_s_pf (by decide))
  have w1_0 : ec_W hb_A (ec_pf w 15 0 (ec_fd w 73 0)) := ec_W_pf (k := 15) (f := 0) rfl rfl h.1
  have f1_0 : ec_fd (ec_pf w 15 0 (ec_fd w 73 0)) 15 0 = ec_fd w 73 0 := by
    rw [ec_fd_pf (k := 15) (f := 0) h.1 rfl (by decide), if_pos rfl, ec_tw_fd]
    try exact ef_s_f r0 (by decide) 0
  obtain ⟨z1, e1, X1, q1, p1⟩ := ew_cp74_16 a1
  injection e1 with e1 i1
  subst i1
  have h1 := b1 e1 X1
  have s1 : ef_s [15, 16, 17, 18, 19, 20, 21, 22, 23, 24, 25, 26, 27] w y1 := ef_s_trans s1_0 (ef_s_mono q1 (by decide))
  have f1_0 : ec_fd y1 15 0 = ec_fd w 73 0 := (ef_s_f q1 (by decide) 0).trans f1_0
  have g1_16 : ef_a y1 16 = ef_a w 74 := p1.trans (ef_s_a s1_0 (by decide))
  obtain ⟨_, v2, y2, a2, b2⟩ := eg14_15_19_0 h1
  obtain ⟨z2, e2, X2, q2, p2⟩ := ew_cp75_17 a2
  injection e2 with e2 i2
  subst i2
  have h2 := b2 e2 X2
  have s2 : ef_s [15, 16, 17, 18, 19, 20, 21, 22, 23, 24, 25, 26, 27] w y2 := ef_s_trans s1 (ef_s_mono q2 (by decide))
  have f2_0 : ec_fd y2 15 0 = ec_fd w 73 0 := (ef_s_f q2 (by decide) 0).trans f1_0
  have g2_16 : ef_a y2 16 = ef_a w 74 := (ef_s_a q2 (by decide)).trans g1_16
  have g2_17 : ef_a y2 17 = ef_a w 75 := p2.trans (ef_s_a s1 (by decide))
  obtain ⟨_, v3, y3, a3, b3⟩ := eg14_15_30_0 h2
  obtain ⟨z3, e3, X3, q3, p3⟩ := ew_cp76_18 a3
  injection e3 with e3 i3
  subst i3
  have h3 := b3 e3 X3
  have s3 : ef_s [15, 16, 17, 18, 19, 20, 21, 22, 23, 24, 25, 26, 27] w y3 := ef_s_trans s2 (ef_s_mono q3 (by decide))
  have f3_0 : ec_fd y3 15 0 = ec_fd w 73 0 := (ef_s_f q3 (by decide) 0).trans f2_0
  have g3_16 : ef_a y3 16 = ef_a w 74 := (ef_s_a q3 (by decide)).trans g2_16
  have g3_17 : ef_a y3 17 = ef_a w 75 := (ef_s_a q3 (by decide)).trans g2_17
  have g3_18 : ef_a y3 18 = ef_a w 76 := p3.trans (ef_s_a s2 (by decide))
  obtain ⟨_, v4, y4, a4, b4⟩ := eg14_15_41_0 h3
  obtain ⟨z4, e4, X4, q4, p4⟩ := ew_cp77_19 a4
  injection e4 with e4 i4
  subst i4
  have h4 := b4 e4 X4
  have s4 : ef_s [15, 16, 17, 18, 19, 20, 21, 22, 23, 24, 25, 26, 27] w y4 := ef_s_trans s3 (ef_s_mono q4 (by decide))
  have f4_0 : ec_fd y4 15 0 = ec_fd w 73 0 := (ef_s_f q4 (by decide) 0).trans f3_0
  have g4_16 : ef_a y4 16 = ef_a w 74 := (ef_s_a q4 (by decide)).trans g3_16
  have g4_17 : ef_a y4 17 = ef_a w 75 := (ef_s_a q4 (by decide)).trans g3_17
  have g4_18 : ef_a y4 18 = ef_a w 76 := (ef_s_a q4 (by decide)).trans g3_18
  have g4_19 : ef_a y4 19 = ef_a w 77 := p4.trans (ef_s_a s3 (by decide))
  obtain ⟨_, v5, y5, a5, b5⟩ := eg14_15_52_0 h4
  have s5_5 : ef_s [15, 16, 17, 18, 19, 20, 21, 22, 23, 24, 25, 26, 27] w (ec_pf y4 15 5 (ec_fd y4 73 5)) := ef_s_trans s4 (ef_s_pf (by decide))
  have w5_5 : ec_W hb_A (ec_pf y4 15 5 (ec_fd y4 73 5)) := ec_W_pf (k := 15) (f := 5) rfl rfl X4
  have f5_5_0 : ec_fd (ec_pf y4 15 5 (ec_fd y4 73 5)) 15 0 = ec_fd w 73 0 := by
    rw [ec_fd_pf (k := 15) (f := 5) X4 rfl (by decide), if_neg (by decide)]
    exact f4_0
  have f5_5 : ec_fd (ec_pf y4 15 5 (ec_fd y4 73 5)) 15 5 = ec_fd w 73 5 := by
    rw [ec_fd_pf (k := 15) (f := 5) X4 rfl (by decide), if_pos rfl, ec_tw_fd]
    try exact ef_s_f s4 (by decide) 5
  have g5_5_16 : ef_a (ec_pf y4 15 5 (ec_fd y4 73 5)) 16 = ef_a w 74 := (ef_s_a (ef_s_pf (S := [15]) List.mem_cons_self) (by decide)).trans g4_16
  have g5_5_17 : ef_a (ec_pf y4 15 5 (ec_fd y4 73 5)) 17 = ef_a w 75 := (ef_s_a (ef_s_pf (S := [15]) List.mem_cons_self) (by decide)).trans g4_17
  have g5_5_18 : ef_a (ec_pf y4 15 5 (ec_fd y4 73 5)) 18 = ef_a w 76 := (ef_s_a (ef_s_pf (S := [15]) List.mem_cons_self) (by decide)).trans g4_18
  have g5_5_19 : ef_a (ec_pf y4 15 5 (ec_fd y4 73 5)) 19 = ef_a w 77 := (ef_s_a (ef_s_pf (S := [15]) List.mem_cons_self) (by decide)).trans g4_19
  obtain ⟨z5, e5, X5, q5, p5⟩ := ew_cp78_20 a5
  injection e5 with e5 i5
  subst i5
  have h5 := b5 e5 X5
  have s5 : ef_s [15, 16, 17, 18, 19, 20, 21, 22, 23, 24, 25, 26, 27] w y5 := ef_s_trans s5_5 (ef_s_mono q5 (by decide))
  have f5_0 : ec_fd y5 15 0 = ec_fd w 73 0 := (ef_s_f q5 (by decide) 0).trans f5_5_0
  have f5_5 : ec_fd y5 15 5 = ec_fd w 73 5 := (ef_s_f q5 (by decide) 5).trans f5_5
  have g5_16 : ef_a y5 16 = ef_a w 74 := (ef_s_a q5 (by decide)).trans g5_5_16
  have g5_17 : ef_a y5 17 = ef_a w 75 := (ef_s_a q5 (by decide)).trans g5_5_17
  have g5_18 : ef_a y5 18 = ef_a w 76 := (ef_s_a q5 (by decide)).trans g5_5_18
  have g5_19 : ef_a y5 19 = ef_a w 77 := (ef_s_a q5 (by decide)).trans g5_5_19
  have g5_20 : ef_a y5 20 = ef_a w 78 := p5.trans (ef_s_a s5_5 (by decide))
  obtain ⟨_, v6, y6, a6, b6⟩ := eg14_15_71_0 h5
  obtain ⟨z6, e6, X6, q6, p6⟩ := ew_cp79_21 a6
  injection e6 with e6 i6
  subst i6
  have h6 := b6 e6 X6
  have s6 : ef_s [15, 16, 17, 18, 19, 20, 21, 22, 23, 24, 25, 26, 27] w y6 := ef_s_trans s5 (ef_s_mono q6 (by decide))
  have f6_0 : ec_fd y6 15 0 = ec_fd w 73 0 := (ef_s_f q6 (by decide) 0).trans f5_0
  have f6_5 : ec_fd y6 15 5 = ec_fd w 73 5 := (ef_s_f q6 (by decide) 5).trans f5_5
  have g6_16 : ef_a y6 16 = ef_a w 74 := (ef_s_a q6 (by decide)).trans g5_16
  have g6_17 : ef_a y6 17 = ef_a w 75 := (ef_s_a q6 (by decide)).trans g5_17
  have g6_18 : ef_a y6 18 = ef_a w 76 := (ef_s_a q6 (by decide)).trans g5_18
  have g6_19 : ef_a y6 19 = ef_a w 77 := (ef_s_a q6 (by decide)).trans g5_19
  have g6_20 : ef_a y6 20 = ef_a w 78 := (ef_s_a q6 (by decide)).trans g5_20
  have g6_21 : ef_a y6 21 = ef_a w 79 := p6.trans (ef_s_a s5 (by decide))
  obtain ⟨_, v7, y7, a7, b7⟩ := eg14_15_82_0 h6
  obtain ⟨z7, e7, X7, q7, p7⟩ := ew_cp80_22 a7
  injection e7 with e7 i7
  subst i7
  have h7 := b7 e7 X7
  have s7 : ef_s [15, 16, 17, 18, 19, 20, 21, 22, 23, 24, 25, 26, 27] w y7 := ef_s_trans s6 (ef_s_mono q7 (by decide))
  have f7_0 : ec_fd y7 15 0 = ec_fd w 73 0 := (ef_s_f q7 (by decide) 0).trans f6_0
  have f7_5 : ec_fd y7 15 5 = ec_fd w 73 5 := (ef_s_f q7 (by decide) 5).trans f6_5
  have g7_16 : ef_a y7 16 = ef_a w 74 := (ef_s_a q7 (by decide)).trans g6_16
  have g7_17 : ef_a y7 17 = ef_a w 75 := (ef_s_a q7 (by decide)).trans g6_17
  have g7_18 : ef_a y7 18 = ef_a w 76 := (ef_s_a q7 (by decide)).trans g6_18
  have g7_19 : ef_a y7 19 = ef_a w 77 := (ef_s_a q7 (by decide)).trans g6_19
  have g7_20 : ef_a y7 20 = ef_a w 78 := (ef_s_a q7 (by decide)).trans g6_20
  have g7_21 : ef_a y7 21 = ef_a w 79 := (ef_s_a q7 (by decide)).trans g6_21
  have g7_22 : ef_a y7 22 = ef_a w 80 := p7.trans (ef_s_a s6 (by decide))
  obtain ⟨_, v8, y8, a8, b8⟩ := eg14_15_93_0 h7
  obtain ⟨z8, e8, X8, q8, p8⟩ := ew_cp81_23 a8
  injection e8 with e8 i8
  subst i8
  have h8 := b8 e8 X8
  have s8 : ef_s [15, 16, 17, 18, 19, 20, 21, 22, 23, 24, 25, 26, 27] w y8 := ef_s_trans s7 (ef_s_mono q8 (by decide))
  have f8_0 : ec_fd y8 15 0 = ec_fd w 73 0 := (ef_s_f q8 (by decide) 0).trans f7_0
  have f8_5 : ec_fd y8 15 5 = ec_fd w 73 5 := (ef_s_f q8 (by decide) 5).trans f7_5
  have g8_16 : ef_a y8 16 = ef_a w 74 := (ef_s_a q8 (by decide)).trans g7_16
  have g8_17 : ef_a y8 17 = ef_a w 75 := (ef_s_a q8 (by decide)).trans g7_17
  have g8_18 : ef_a y8 18 = ef_a w 76 := (ef_s_a q8 (by decide)).trans g7_18
  have g8_19 : ef_a y8 19 = ef_a w 77 := (ef_s_a q8 (by decide)).trans g7_19
  have g8_20 : ef_a y8 20 = ef_a w 78 := (ef_s_a q8 (by decide)).trans g7_20
  have g8_21 : ef_a y8 21 = ef_a w 79 := (ef_s_a q8 (by decide)).trans g7_21
  have g8_22 : ef_a y8 22 = ef_a w 80 := (ef_s_a q8 (by decide)).trans g7_22
  have g8_23 : ef_a y8 23 = ef_a w 81 := p8.trans (ef_s_a s7 (by decide))
  obtain ⟨_, v9, y9, a9, b9⟩ := eg14_15_104_0 h8
  have s9_10 : ef_s [15, 16, 17, 18, 19, 20, 21, 22, 23, 24, 25, 26, 27] w (ec_pf y8 15 10 (ec_fd y8 73 10)) := ef_s_trans s8 (ef_s_pf (by decide))
  have w9_10 : ec_W hb_A (ec_pf y8 15 10 (ec_fd y8 73 10)) := ec_W_pf (k := 15) (f := 10) rfl rfl X8
  have f9_10_0 : ec_fd (ec_pf y8 15 10 (ec_fd y8 73 10)) 15 0 = ec_fd w 73 0 := by
    rw [ec_fd_pf (k := 15) (f := 10) X8 rfl (by decide), if_neg (by decide)]
    exact f8_0
  have f9_10_5 : ec_fd (ec_pf y8 15 10 (ec_fd y8 73 10)) 15 5 = ec_fd w 73 5 := by
    rw [ec_fd_pf (k := 15) (f := 10) X8 rfl (by decide), if_neg (by decide)]
    exact f8_5
  have f9_10 : ec_fd (ec_pf y8 15 10 (ec_fd y8 73 10)) 15 10 = ec_fd w 73 10 := by
    rw [ec_fd_pf (k := 15) (f := 10) X8 rfl (by decide), if_pos rfl, ec_tw_fd]
    try exact ef_s_f s8 (by decide) 10
  have g9_10_16 : ef_a (ec_pf y8 15 10 (ec_fd y8 73 10)) 16 = ef_a w 74 := (ef_s_a (ef_s_pf (S := [15]) List.mem_cons_self) (by decide)).trans g8_16
  have g9_10_17 : ef_a (ec_pf y8 15 10 (ec_fd y8 73 10)) 17 = ef_a w 75 := (ef_s_a (ef_s_pf (S := [15]) List.mem_cons_self) (by decide)).trans g8_17
  have g9_10_18 : ef_a (ec_pf y8 15 10 (ec_fd y8 73 10)) 18 = ef_a w 76 := (ef_s_a (ef_s_pf (S := [15]) List.mem_cons_self) (by decide)).trans g8_18
  have g9_10_19 : ef_a (ec_pf y8 15 10 (ec_fd y8 73 10)) 19 = ef_a w 77 := (ef_s_a (ef_s_pf (S := [15]) List.mem_cons_self) (by decide)).trans g8_19
  have g9_10_20 : ef_a (ec_pf y8 15 10 (ec_fd y8 73 10)) 20 = ef_a w 78 := (ef_s_a (ef_s_pf (S := [15]) List.mem_cons_self) (by decide)).trans g8_20
  have g9_10_21 : ef_a (ec_pf y8 15 10 (ec_fd y8 73 10)) 21 = ef_a w 79 := (ef_s_a (ef_s_pf (S := [15]) List.mem_cons_self) (by decide)).trans g8_21
  have g9_10_22 : ef_a (ec_pf y8 15 10 (ec_fd y8 73 10)) 22 = ef_a w 80 := (ef_s_a (ef_s_pf (S := [15]) List.mem_cons_self) (by decide)).trans g8_22
  have g9_10_23 : ef_a (ec_pf y8 15 10 (ec_fd y8 73 10)) 23 = ef_a w 81 := (ef_s_a (ef_s_pf (S := [15]) List.mem_cons_self) (by decide)).trans g8_23
  obtain ⟨z9, e9, X9, q9, p9⟩ := ew_cp82_24 a9
  injection e9 with e9 i9
  subst i9
  have h9 := b9 e9 X9
  have s9 : ef_s [15, 16, 17, 18, 19, 20, 21, 22, 23, 24, 25, 26, 27] w y9 := ef_s_trans s9_10 (ef_s_mono q9 (by decide))
  have f9_0 : ec_fd y9 15 0 = ec_fd w 73 0 := (ef_s_f q9 (by decide) 0).trans f9_10_0
  have f9_5 : ec_fd y9 15 5 = ec_fd w 73 5 := (ef_s_f q9 (by decide) 5).trans f9_10_5
  have f9_10 : ec_fd y9 15 10 = ec_fd w 73 10 := (ef_s_f q9 (by decide) 10).trans f9_10
  have g9_16 : ef_a y9 16 = ef_a w 74 := (ef_s_a q9 (by decide)).trans g9_10_16
  have g9_17 : ef_a y9 17 = ef_a w 75 := (ef_s_a q9 (by decide)).trans g9_10_17
  have g9_18 : ef_a y9 18 = ef_a w 76 := (ef_s_a q9 (by decide)).trans g9_10_18
  have g9_19 : ef_a y9 19 = ef_a w 77 := (ef_s_a q9 (by decide)).trans g9_10_19
  have g9_20 : ef_a y9 20 = ef_a w 78 := (ef_s_a q9 (by decide)).trans g9_10_20
  have g9_21 : ef_a y9 21 = ef_a w 79 := (ef_s_a q9 (by decide)).trans g9_10_21
  have g9_22 : ef_a y9 22 = ef_a w 80 := (ef_s_a q9 (by decide)).trans g9_10_22
  have g9_23 : ef_a y9 23 = ef_a w 81 := (ef_s_a q9 (by decide)).trans g9_10_23
  have g9_24 : ef_a y9 24 = ef_a w 82 := p9.trans (ef_s_a s9_10 (by decide))
  obtain ⟨_, v10, y10, a10, b10⟩ := eg14_15_123_0 h9
  obtain ⟨z10, e10, X10, q10, p10⟩ := ew_cp83_25 a10
  injection e10 with e10 i10
  subst i10
  have h10 := b10 e10 X10
  have s10 : ef_s [15, 16, 17, 18, 19, 20, 21, 22, 23, 24, 25, 26, 27] w y10 := ef_s_trans s9 (ef_s_mono q10 (by decide))
  have f10_0 : ec_fd y10 15 0 = ec_fd w 73 0 := (ef_s_f q10 (by decide) 0).trans f9_0
  have f10_5 : ec_fd y10 15 5 = ec_fd w 73 5 := (ef_s_f q10 (by decide) 5).trans f9_5
  have f10_10 : ec_fd y10 15 10 = ec_fd w 73 10 := (ef_s_f q10 (by decide) 10).trans f9_10
  have g10_16 : ef_a y10 16 = ef_a w 74 := (ef_s_a q10 (by decide)).trans g9_16
  have g10_17 : ef_a y10 17 = ef_a w 75 := (ef_s_a q10 (by decide)).trans g9_17
  have g10_18 : ef_a y10 18 = ef_a w 76 := (ef_s_a q10 (by decide)).trans g9_18
  have g10_19 : ef_a y10 19 = ef_a w 77 := (ef_s_a q10 (by decide)).trans g9_19
  have g10_20 : ef_a y10 20 = ef_a w 78 := (ef_s_a q10 (by decide)).trans g9_20
  have g10_21 : ef_a y10 21 = ef_a w 79 := (ef_s_a q10 (by decide)).trans g9_21
  have g10_22 : ef_a y10 22 = ef_a w 80 := (ef_s_a q10 (by decide)).trans g9_22
  have g10_23 : ef_a y10 23 = ef_a w 81 := (ef_s_a q10 (by decide)).trans g9_23
  have g10_24 : ef_a y10 24 = ef_a w 82 := (ef_s_a q10 (by decide)).trans g9_24
  have g10_25 : ef_a y10 25 = ef_a w 83 := p10.trans (ef_s_a s9 (by decide))
  obtain ⟨_, v11, y11, a11, b11⟩ := eg14_15_134_0 h10
  obtain ⟨z11, e11, X11, q11, p11⟩ := ew_cp84_26 a11
  injection e11 with e11 i11
  subst i11
  have h11 := b11 e11 X11
  have s11 : ef_s [15, 16, 17, 18, 19, 20, 21, 22, 23, 24, 25, 26, 27] w y11 := ef_s_trans s10 (ef_s_mono q11 (by decide))
  have f11_0 : ec_fd y11 15 0 = ec_fd w 73 0 := (ef_s_f q11 (by decide) 0).trans f10_0
  have f11_5 : ec_fd y11 15 5 = ec_fd w 73 5 := (ef_s_f q11 (by decide) 5).trans f10_5
  have f11_10 : ec_fd y11 15 10 = ec_fd w 73 10 := (ef_s_f q11 (by decide) 10).trans f10_10
  have g11_16 : ef_a y11 16 = ef_a w 74 := (ef_s_a q11 (by decide)).trans g10_16
  have g11_17 : ef_a y11 17 = ef_a w 75 := (ef_s_a q11 (by decide)).trans g10_17
  have g11_18 : ef_a y11 18 = ef_a w 76 := (ef_s_a q11 (by decide)).trans g10_18
  have g11_19 : ef_a y11 19 = ef_a w 77 := (ef_s_a q11 (by decide)).trans g10_19
  have g11_20 : ef_a y11 20 = ef_a w 78 := (ef_s_a q11 (by decide)).trans g10_20
  have g11_21 : ef_a y11 21 = ef_a w 79 := (ef_s_a q11 (by decide)).trans g10_21
  have g11_22 : ef_a y11 22 = ef_a w 80 := (ef_s_a q11 (by decide)).trans g10_22
  have g11_23 : ef_a y11 23 = ef_a w 81 := (ef_s_a q11 (by decide)).trans g10_23
  have g11_24 : ef_a y11 24 = ef_a w 82 := (ef_s_a q11 (by decide)).trans g10_24
  have g11_25 : ef_a y11 25 = ef_a w 83 := (ef_s_a q11 (by decide)).trans g10_25
  have g11_26 : ef_a y11 26 = ef_a w 84 := p11.trans (ef_s_a s10 (by decide))
  obtain ⟨_, v12, y12, a12, b12⟩ := eg14_15_145_0 h11
  obtain ⟨z12, e12, X12, q12, p12⟩ := ew_cp85_27 a12
  injection e12 with e12 i12
  subst i12
  have h12 := b12 e12 X12
  have s12 : ef_s [15, 16, 17, 18, 19, 20, 21, 22, 23, 24, 25, 26, 27] w y12 := ef_s_trans s11 (ef_s_mono q12 (by decide))
  have f12_0 : ec_fd y12 15 0 = ec_fd w 73 0 := (ef_s_f q12 (by decide) 0).trans f11_0
  have f12_5 : ec_fd y12 15 5 = ec_fd w 73 5 := (ef_s_f q12 (by decide) 5).trans f11_5
  have f12_10 : ec_fd y12 15 10 = ec_fd w 73 10 := (ef_s_f q12 (by decide) 10).trans f11_10
  have g12_16 : ef_a y12 16 = ef_a w 74 := (ef_s_a q12 (by decide)).trans g11_16
  have g12_17 : ef_a y12 17 = ef_a w 75 := (ef_s_a q12 (by decide)).trans g11_17
  have g12_18 : ef_a y12 18 = ef_a w 76 := (ef_s_a q12 (by decide)).trans g11_18
  have g12_19 : ef_a y12 19 = ef_a w 77 := (ef_s_a q12 (by decide)).trans g11_19
  have g12_20 : ef_a y12 20 = ef_a w 78 := (ef_s_a q12 (by decide)).trans g11_20
  have g12_21 : ef_a y12 21 = ef_a w 79 := (ef_s_a q12 (by decide)).trans g11_21
  have g12_22 : ef_a y12 22 = ef_a w 80 := (ef_s_a q12 (by decide)).trans g11_22
  have g12_23 : ef_a y12 23 = ef_a w 81 := (ef_s_a q12 (by decide)).trans g11_23
  have g12_24 : ef_a y12 24 = ef_a w 82 := (ef_s_a q12 (by decide)).trans g11_24
  have g12_25 : ef_a y12 25 = ef_a w 83 := (ef_s_a q12 (by decide)).trans g11_25
  have g12_26 : ef_a y12 26 = ef_a w 84 := (ef_s_a q12 (by decide)).trans g11_26
  have g12_27 : ef_a y12 27 = ef_a w 85 := p12.trans (ef_s_a s11 (by decide))
  obtain ⟨_, hr, hW⟩ := eg14_15_156_0 h12
  exact ⟨_, hr, hW, s12, g12_16, g12_17, g12_18, g12_19, g12_20, g12_21, g12_22, g12_23, g12_24, g12_25, g12_26, g12_27, f12_0, f12_5, f12_10⟩
theorem ew_cf87_87 {n : Nat} {w : px_W} {r : Option Value × px_W} (h : ec_E hb_X n 87 0 [(0, .inr (.inl 151)), (1, .inr (.inl 93))] [] w r) : ∃ w' : px_W, r = (none, w') ∧ ec_W hb_A w' ∧ ef_s [87, 88, 89, 90, 91, 92, 93, 94, 95, 96] w w' ∧ ef_a w' 88 = ef_a w 30 ∧ ef_a w' 89 = ef_a w 31 ∧ ef_a w' 90 = ef_a w 32 ∧ ef_a w' 91 = ef_a w 33 ∧ ef_a w' 92 = ef_a w 34 ∧ ef_a w' 93 = ef_a w 35 ∧ ef_a w' 94 = ef_a w 36 ∧ ef_a w' 95 = ef_a w 37 ∧ ef_a w' 96 = ef_a w 38 ∧ ec_fd w' 87 0 = ec_fd w 29 0 ∧ ec_fd w' 87 1 = ec_fd w 29 1 ∧ ec_fd w' 87 7 = ec_fd w 29 7 ∧ ec_fd w' 87 9 = ec_fd w 29 9 := by
  have r0 : ef_s [87, 88, 89, 90, 91, 92, 93, 94, 95, 96] w w := ef_s_refl
  obtain ⟨_, v1, y1, a1, b1⟩ := eg87_87_0_0 h
  have s1_0 : ef_s [87, 88, 89, 90, 91, 92, 93, 94, 95, 96] w (ec_pf w 87 0 (ec_fd w 29 0)) := ef_s_trans r0 (ef_s_pf (by decide))
  have w1_0 : ec_W hb_A (ec_pf w 87 0 (ec_fd w 29 0)) := ec_W_pf (k := 87) (f := 0) rfl rfl h.1
  have f1_0 : ec_fd (ec_pf w 87 0 (ec_fd w 29 0)) 87 0 = ec_fd w 29 0 := by
    rw [ec_fd_pf (k := 87) (f := 0) h.1 rfl (by decide), if_pos rfl, ec_tw_fd]
    try exact ef_s_f r0 (by decide) 0
  have s1_1 : ef_s [87, 88, 89, 90, 91, 92, 93, 94, 95, 96] w (ec_pf (ec_pf w 87 0 (ec_fd w 29 0)) 87 1 (ec_fd (ec_pf w 87 0 (ec_fd w 29 0)) 29 1)) := ef_s_trans s1_0 (ef_s_pf (by decide))
  have w1_1 : ec_W hb_A (ec_pf (ec_pf w 87 0 (ec_fd w 29 0)) 87 1 (ec_fd (ec_pf w 87 0 (ec_fd w 29 0)) 29 1)) := ec_W_pf (k := 87) (f := 1) rfl rfl w1_0
  have f1_1_0 : ec_fd (ec_pf (ec_pf w 87 0 (ec_fd w 29 0)) 87 1 (ec_fd (ec_pf w 87 0 (ec_fd w 29 0)) 29 1)) 87 0 = ec_fd w 29 0 := by
    rw [ec_fd_pf (k := 87) (f := 1) w1_0 rfl (by decide), if_neg (by decide)]
    exact f1_0
  have f1_1 : ec_fd (ec_pf (ec_pf w 87 0 (ec_fd w 29 0)) 87 1 (ec_fd (ec_pf w 87 0 (ec_fd w 29 0)) 29 1)) 87 1 = ec_fd w 29 1 := by
    rw [ec_fd_pf (k := 87) (f := 1) w1_0 rfl (by decide), if_pos rfl, ec_tw_fd]
    try exact ef_s_f s1_0 (by decide) 1
  obtain ⟨z1, e1, X1, q1, p1⟩ := ew_cp30_88 a1
  injection e1 with e1 i1
  subst i1
  have h1 := b1 e1 X1
  have s1 : ef_s [87, 88, 89, 90, 91, 92, 93, 94, 95, 96] w y1 := ef_s_trans s1_1 (ef_s_mono q1 (by decide))
  have f1_0 : ec_fd y1 87 0 = ec_fd w 29 0 := (ef_s_f q1 (by decide) 0).trans f1_1_0
  have f1_1 : ec_fd y1 87 1 = ec_fd w 29 1 := (ef_s_f q1 (by decide) 1).trans f1_1
  have g1_88 : ef_a y1 88 = ef_a w 30 := p1.trans (ef_s_a s1_1 (by decide))
  obtain ⟨_, v2, y2, a2, b2⟩ := eg87_87_27_0 h1
  obtain ⟨z2, e2, X2, q2, p2⟩ := ew_cp31_89 a2
  injection e2 with e2 i2
  subst i2
  have h2 := b2 e2 X2
  have s2 : ef_s [87, 88, 89, 90, 91, 92, 93, 94, 95, 96] w y2 := ef_s_trans s1 (ef_s_mono q2 (by decide))
  have f2_0 : ec_fd y2 87 0 = ec_fd w 29 0 := (ef_s_f q2 (by decide) 0).trans f1_0
  have f2_1 : ec_fd y2 87 1 = ec_fd w 29 1 := (ef_s_f q2 (by decide) 1).trans f1_1
  have g2_88 : ef_a y2 88 = ef_a w 30 := (ef_s_a q2 (by decide)).trans g1_88
  have g2_89 : ef_a y2 89 = ef_a w 31 := p2.trans (ef_s_a s1 (by decide))
  obtain ⟨_, v3, y3, a3, b3⟩ := eg87_87_38_0 h2
  obtain ⟨z3, e3, X3, q3, p3⟩ := ew_cp32_90 a3
  injection e3 with e3 i3
  subst i3
  have h3 := b3 e3 X3
  have s3 : ef_s [87, 88, 89, 90, 91, 92, 93, 94, 95, 96] w y3 := ef_s_trans s2 (ef_s_mono q3 (by decide))
  have f3_0 : ec_fd y3 87 0 = ec_fd w 29 0 := (ef_s_f q3 (by decide) 0).trans f2_0
  have f3_1 : ec_fd y3 87 1 = ec_fd w 29 1 := (ef_s_f q3 (by decide) 1).trans f2_1
  have g3_88 : ef_a y3 88 = ef_a w 30 := (ef_s_a q3 (by decide)).trans g2_88
  have g3_89 : ef_a y3 89 = ef_a w 31 := (ef_s_a q3 (by decide)).trans g2_89
  have g3_90 : ef_a y3 90 = ef_a w 32 := p3.trans (ef_s_a s2 (by decide))
  obtain ⟨_, v4, y4, a4, b4⟩ := eg87_87_49_0 h3
  obtain ⟨z4, e4, X4, q4, p4⟩ := ew_cp33_91 a4
  injection e4 with e4 i4
  subst i4
  have h4 := b4 e4 X4
  have s4 : ef_s [87, 88, 89, 90, 91, 92, 93, 94, 95, 96] w y4 := ef_s_trans s3 (ef_s_mono q4 (by decide))
  have f4_0 : ec_fd y4 87 0 = ec_fd w 29 0 := (ef_s_f q4 (by decide) 0).trans f3_0
  have f4_1 : ec_fd y4 87 1 = ec_fd w 29 1 := (ef_s_f q4 (by decide) 1).trans f3_1
  have g4_88 : ef_a y4 88 = ef_a w 30 := (ef_s_a q4 (by decide)).trans g3_88
  have g4_89 : ef_a y4 89 = ef_a w 31 := (ef_s_a q4 (by decide)).trans g3_89
  have g4_90 : ef_a y4 90 = ef_a w 32 := (ef_s_a q4 (by decide)).trans g3_90
  have g4_91 : ef_a y4 91 = ef_a w 33 := p4.trans (ef_s_a s3 (by decide))
  obtain ⟨_, v5, y5, a5, b5⟩ := eg87_87_60_0 h4
  obtain ⟨z5, e5, X5, q5, p5⟩ := ew_cp34_92 a5
  injection e5 with e5 i5
  subst i5
  have h5 := b5 e5 X5
  have s5 : ef_s [87, 88, 89, 90, 91, 92, 93, 94, 95, 96] w y5 := ef_s_trans s4 (ef_s_mono q5 (by decide))
  have f5_0 : ec_fd y5 87 0 = ec_fd w 29 0 := (ef_s_f q5 (by decide) 0).trans f4_0
  have f5_1 : ec_fd y5 87 1 = ec_fd w 29 1 := (ef_s_f q5 (by decide) 1).trans f4_1
  have g5_88 : ef_a y5 88 = ef_a w 30 := (ef_s_a q5 (by decide)).trans g4_88
  have g5_89 : ef_a y5 89 = ef_a w 31 := (ef_s_a q5 (by decide)).trans g4_89
  have g5_90 : ef_a y5 90 = ef_a w 32 := (ef_s_a q5 (by decide)).trans g4_90
  have g5_91 : ef_a y5 91 = ef_a w 33 := (ef_s_a q5 (by decide)).trans g4_91
  have g5_92 : ef_a y5 92 = ef_a w 34 := p5.trans (ef_s_a s4 (by decide))
  obtain ⟨_, v6, y6, a6, b6⟩ := eg87_87_71_0 h5
  have s6_7 : ef_s [87, 88, 89, 90, 91, 92, 93, 94, 95, 96] w (ec_pf y5 87 7 (ec_fd y5 29 7)) := ef_s_trans s5 (ef_s_pf (by decide))
  have w6_7 : ec_W hb_A (ec_pf y5 87 7 (ec_fd y5 29 7)) := ec_W_pf (k := 87) (f := 7) rfl rfl X5
  have f6_7_0 : ec_fd (ec_pf y5 87 7 (ec_fd y5 29 7)) 87 0 = ec_fd w 29 0 := by
    rw [ec_fd_pf (k := 87) (f := 7) X5 rfl (by decide), if_neg (by decide)]
    exact f5_0
  have f6_7_1 : ec_fd (ec_pf y5 87 7 (ec_fd y5 29 7)) 87 1 = ec_fd w 29 1 := by
    rw [ec_fd_pf (k := 87) (f := 7) X5 rfl (by decide), if_neg (by decide)]
    exact f5_1
  have f6_7 : ec_fd (ec_pf y5 87 7 (ec_fd y5 29 7)) 87 7 = ec_fd w 29 7 := by
    rw [ec_fd_pf (k := 87) (f := 7) X5 rfl (by decide), if_pos rfl, ec_tw_fd]
    try exact ef_s_f s5 (by decide) 7
  have g6_7_88 : ef_a (ec_pf y5 87 7 (ec_fd y5 29 7)) 88 = ef_a w 30 := (ef_s_a (ef_s_pf (S := [87]) List.mem_cons_self) (by decide)).trans g5_88
  have g6_7_89 : ef_a (ec_pf y5 87 7 (ec_fd y5 29 7)) 89 = ef_a w 31 := (ef_s_a (ef_s_pf (S := [87]) List.mem_cons_self) (by decide)).trans g5_89
  have g6_7_90 : ef_a (ec_pf y5 87 7 (ec_fd y5 29 7)) 90 = ef_a w 32 := (ef_s_a (ef_s_pf (S := [87]) List.mem_cons_self) (by decide)).trans g5_90
  have g6_7_91 : ef_a (ec_pf y5 87 7 (ec_fd y5 29 7)) 91 = ef_a w 33 := (ef_s_a (ef_s_pf (S := [87]) List.mem_cons_self) (by decide)).trans g5_91
  have g6_7_92 : ef_a (ec_pf y5 87 7 (ec_fd y5 29 7)) 92 = ef_a w 34 := (ef_s_a (ef_s_pf (S := [87]) List.mem_cons_self) (by decide)).trans g5_92
  obtain ⟨z6, e6, X6, q6, p6⟩ := ew_cp35_93 a6
  injection e6 with e6 i6
  subst i6
  have h6 := b6 e6 X6
  have s6 : ef_s [87, 88, 89, 90, 91, 92, 93, 94, 95, 96] w y6 := ef_s_trans s6_7 (ef_s_mono q6 (by decide))
  have f6_0 : ec_fd y6 87 0 = ec_fd w 29 0 := (ef_s_f q6 (by decide) 0).trans f6_7_0
  have f6_1 : ec_fd y6 87 1 = ec_fd w 29 1 := (ef_s_f q6 (by decide) 1).trans f6_7_1
  have f6_7 : ec_fd y6 87 7 = ec_fd w 29 7 := (ef_s_f q6 (by decide) 7).trans f6_7
  have g6_88 : ef_a y6 88 = ef_a w 30 := (ef_s_a q6 (by decide)).trans g6_7_88
  have g6_89 : ef_a y6 89 = ef_a w 31 := (ef_s_a q6 (by decide)).trans g6_7_89
  have g6_90 : ef_a y6 90 = ef_a w 32 := (ef_s_a q6 (by decide)).trans g6_7_90
  have g6_91 : ef_a y6 91 = ef_a w 33 := (ef_s_a q6 (by decide)).trans g6_7_91
  have g6_92 : ef_a y6 92 = ef_a w 34 := (ef_s_a q6 (by decide)).trans g6_7_92
  have g6_93 : ef_a y6 93 = ef_a w 35 := p6.trans (ef_s_a s6_7 (by decide))
  obtain ⟨_, v7, y7, a7, b7⟩ := eg87_87_90_0 h6
  have s7_9 : ef_s [87, 88, 89, 90, 91, 92, 93, 94, 95, 96] w (ec_pf y6 87 9 (ec_fd y6 29 9)) := ef_s_trans s6 (ef_s_pf (by decide))
  have w7_9 : ec_W hb_A (ec_pf y6 87 9 (ec_fd y6 29 9)) := ec_W_pf (k := 87) (f := 9) rfl rfl X6
  have f7_9_0 : ec_fd (ec_pf y6 87 9 (ec_fd y6 29 9)) 87 0 = ec_fd w 29 0 := by
    rw [ec_fd_pf (k := 87) (f := 9) X6 rfl (by decide), if_neg (by decide)]
    exact f6_0
  have f7_9_1 : ec_fd (ec_pf y6 87 9 (ec_fd y6 29 9)) 87 1 = ec_fd w 29 1 := by
    rw [ec_fd_pf (k := 87) (f := 9) X6 rfl (by decide), if_neg (by decide)]
    exact f6_1
  have f7_9_7 : ec_fd (ec_pf y6 87 9 (ec_fd y6 29 9)) 87 7 = ec_fd w 29 7 := by
    rw [ec_fd_pf (k := 87) (f := 9) X6 rfl (by decide), if_neg (by decide)]
    exact f6_7
  have f7_9 : ec_fd (ec_pf y6 87 9 (ec_fd y6 29 9)) 87 9 = ec_fd w 29 9 := by
    rw [ec_fd_pf (k := 87) (f := 9) X6 rfl (by decide), if_pos rfl, ec_tw_fd]
    try exact ef_s_f s6 (by decide) 9
  have g7_9_88 : ef_a (ec_pf y6 87 9 (ec_fd y6 29 9)) 88 = ef_a w 30 := (ef_s_a (ef_s_pf (S := [87]) List.mem_cons_self) (by decide)).trans g6_88
  have g7_9_89 : ef_a (ec_pf y6 87 9 (ec_fd y6 29 9)) 89 = ef_a w 31 := (ef_s_a (ef_s_pf (S := [87]) List.mem_cons_self) (by decide)).trans g6_89
  have g7_9_90 : ef_a (ec_pf y6 87 9 (ec_fd y6 29 9)) 90 = ef_a w 32 := (ef_s_a (ef_s_pf (S := [87]) List.mem_cons_self) (by decide)).trans g6_90
  have g7_9_91 : ef_a (ec_pf y6 87 9 (ec_fd y6 29 9)) 91 = ef_a w 33 := (ef_s_a (ef_s_pf (S := [87]) List.mem_cons_self) (by decide)).trans g6_91
  have g7_9_92 : ef_a (ec_pf y6 87 9 (ec_fd y6 29 9)) 92 = ef_a w 34 := (ef_s_a (ef_s_pf (S := [87]) List.mem_cons_self) (by decide)).trans g6_92
  have g7_9_93 : ef_a (ec_pf y6 87 9 (ec_fd y6 29 9)) 93 = ef_a w 35 := (ef_s_a (ef_s_pf (S := [87]) List.mem_cons_self) (by decide)).trans g6_93
  obtain ⟨z7, e7, X7, q7, p7⟩ := ew_cp36_94 a7
  injection e7 with e7 i7
  subst i7
  have h7 := b7 e7 X7
  have s7 : ef_s [87, 88, 89, 90, 91, 92, 93, 94, 95, 96] w y7 := ef_s_trans s7_9 (ef_s_mono q7 (by decide))
  have f7_0 : ec_fd y7 87 0 = ec_fd w 29 0 := (ef_s_f q7 (by decide) 0).trans f7_9_0
  have f7_1 : ec_fd y7 87 1 = ec_fd w 29 1 := (ef_s_f q7 (by decide) 1).trans f7_9_1
  have f7_7 : ec_fd y7 87 7 = ec_fd w 29 7 := (ef_s_f q7 (by decide) 7).trans f7_9_7
  have f7_9 : ec_fd y7 87 9 = ec_fd w 29 9 := (ef_s_f q7 (by decide) 9).trans f7_9
  have g7_88 : ef_a y7 88 = ef_a w 30 := (ef_s_a q7 (by decide)).trans g7_9_88
  have g7_89 : ef_a y7 89 = ef_a w 31 := (ef_s_a q7 (by decide)).trans g7_9_89
  have g7_90 : ef_a y7 90 = ef_a w 32 := (ef_s_a q7 (by decide)).trans g7_9_90
  have g7_91 : ef_a y7 91 = ef_a w 33 := (ef_s_a q7 (by decide)).trans g7_9_91
  have g7_92 : ef_a y7 92 = ef_a w 34 := (ef_s_a q7 (by decide)).trans g7_9_92
  have g7_93 : ef_a y7 93 = ef_a w 35 := (ef_s_a q7 (by decide)).trans g7_9_93
  have g7_94 : ef_a y7 94 = ef_a w 36 := p7.trans (ef_s_a s7_9 (by decide))
  obtain ⟨_, v8, y8, a8, b8⟩ := eg87_87_109_0 h7
  obtain ⟨z8, e8, X8, q8, p8⟩ := ew_cp37_95 a8
  injection e8 with e8 i8
  subst i8
  have h8 := b8 e8 X8
  have s8 : ef_s [87, 88, 89, 90, 91, 92, 93, 94, 95, 96] w y8 := ef_s_trans s7 (ef_s_mono q8 (by decide))
  have f8_0 : ec_fd y8 87 0 = ec_fd w 29 0 := (ef_s_f q8 (by decide) 0).trans f7_0
  have f8_1 : ec_fd y8 87 1 = ec_fd w 29 1 := (ef_s_f q8 (by decide) 1).trans f7_1
  have f8_7 : ec_fd y8 87 7 = ec_fd w 29 7 := (ef_s_f q8 (by decide) 7).trans f7_7
  have f8_9 : ec_fd y8 87 9 = ec_fd w 29 9 := (ef_s_f q8 (by decide) 9).trans f7_9
  have g8_88 : ef_a y8 88 = ef_a w 30 := (ef_s_a q8 (by decide)).trans g7_88
  have g8_89 : ef_a y8 89 = ef_a w 31 := (ef_s_a q8 (by decide)).trans g7_89
  have g8_90 : ef_a y8 90 = ef_a w 32 := (ef_s_a q8 (by decide)).trans g7_90
  have g8_91 : ef_a y8 91 = ef_a w 33 := (ef_s_a q8 (by decide)).trans g7_91
  have g8_92 : ef_a y8 92 = ef_a w 34 := (ef_s_a q8 (by decide)).trans g7_92
  have g8_93 : ef_a y8 93 = ef_a w 35 := (ef_s_a q8 (by decide)).trans g7_93
  have g8_94 : ef_a y8 94 = ef_a w 36 := (ef_s_a q8 (by decide)).trans g7_94
  have g8_95 : ef_a y8 95 = ef_a w 37 := p8.trans (ef_s_a s7 (by decide))
  obtain ⟨_, v9, y9, a9, b9⟩ := eg87_87_120_0 h8
  obtain ⟨z9, e9, X9, q9, p9⟩ := ew_cp38_96 a9
  injection e9 with e9 i9
  subst i9
  have h9 := b9 e9 X9
  have s9 : ef_s [87, 88, 89, 90, 91, 92, 93, 94, 95, 96] w y9 := ef_s_trans s8 (ef_s_mono q9 (by decide))
  have f9_0 : ec_fd y9 87 0 = ec_fd w 29 0 := (ef_s_f q9 (by decide) 0).trans f8_0
  have f9_1 : ec_fd y9 87 1 = ec_fd w 29 1 := (ef_s_f q9 (by decide) 1).trans f8_1
  have f9_7 : ec_fd y9 87 7 = ec_fd w 29 7 := (ef_s_f q9 (by decide) 7).trans f8_7
  have f9_9 : ec_fd y9 87 9 = ec_fd w 29 9 := (ef_s_f q9 (by decide) 9).trans f8_9
  have g9_88 : ef_a y9 88 = ef_a w 30 := (ef_s_a q9 (by decide)).trans g8_88
  have g9_89 : ef_a y9 89 = ef_a w 31 := (ef_s_a q9 (by decide)).trans g8_89
  have g9_90 : ef_a y9 90 = ef_a w 32 := (ef_s_a q9 (by decide)).trans g8_90
  have g9_91 : ef_a y9 91 = ef_a w 33 := (ef_s_a q9 (by decide)).trans g8_91
  have g9_92 : ef_a y9 92 = ef_a w 34 := (ef_s_a q9 (by decide)).trans g8_92
  have g9_93 : ef_a y9 93 = ef_a w 35 := (ef_s_a q9 (by decide)).trans g8_93
  have g9_94 : ef_a y9 94 = ef_a w 36 := (ef_s_a q9 (by decide)).trans g8_94
  have g9_95 : ef_a y9 95 = ef_a w 37 := (ef_s_a q9 (by decide)).trans g8_95
  have g9_96 : ef_a y9 96 = ef_a w 38 := p9.trans (ef_s_a s8 (by decide))
  obtain ⟨_, hr, hW⟩ := eg87_87_131_0 h9
  exact ⟨_, hr, hW, s9, g9_88, g9_89, g9_90, g9_91, g9_92, g9_93, g9_94, g9_95, g9_96, f9_0, f9_1, f9_7, f9_9⟩
theorem ew_cf87_29 {n : Nat} {w : px_W} {r : Option Value × px_W} (h : ec_E hb_X n 87 0 [(0, .inr (.inl 93)), (1, .inr (.inl 151))] [] w r) : ∃ w' : px_W, r = (none, w') ∧ ec_W hb_A w' ∧ ef_s [29, 30, 31, 32, 33, 34, 35, 36, 37, 38] w w' ∧ ef_a w' 30 = ef_a w 88 ∧ ef_a w' 31 = ef_a w 89 ∧ ef_a w' 32 = ef_a w 90 ∧ ef_a w' 33 = ef_a w 91 ∧ ef_a w' 34 = ef_a w 92 ∧ ef_a w' 35 = ef_a w 93 ∧ ef_a w' 36 = ef_a w 94 ∧ ef_a w' 37 = ef_a w 95 ∧ ef_a w' 38 = ef_a w 96 ∧ ec_fd w' 29 0 = ec_fd w 87 0 ∧ ec_fd w' 29 1 = ec_fd w 87 1 ∧ ec_fd w' 29 7 = ec_fd w 87 7 ∧ ec_fd w' 29 9 = ec_fd w 87 9 := by
  have r0 : ef_s [29, 30, 31, 32, 33, 34, 35, 36, 37, 38] w w := ef_s_refl
  obtain ⟨_, v1, y1, a1, b1⟩ := eg87_29_0_0 h
  have s1_0 : ef_s [29, 30, 31, 32, 33, 34, 35, 36, 37, 38] w (ec_pf w 29 0 (ec_fd w 87 0)) := ef_s_trans r0 (ef_s_pf (by decide))
  have w1_0 : ec_W hb_A (ec_pf w 29 0 (ec_fd w 87 0)) := ec_W_pf (k := 29) (f := 0) rfl rfl h.1
  have f1_0 : ec_fd (ec_pf w 29 0 (ec_fd w 87 0)) 29 0 = ec_fd w 87 0 := by
    rw [ec_fd_pf (k := 29) (f := 0) h.1 rfl (by decide), if_pos rfl, ec_tw_fd]
    try exact ef_s_f r0 (by decide) 0
  have s1_1 : ef_s [29, 30, 31, 32, 33, 34, 35, 36, 37, 38] w (ec_pf (ec_pf w 29 0 (ec_fd w 87 0)) 29 1 (ec_fd (ec_pf w 29 0 (ec_fd w 87 0)) 87 1)) := ef_s_trans s1_0 (ef_s_pf (by decide))
  have w1_1 : ec_W hb_A (ec_pf (ec_pf w 29 0 (ec_fd w 87 0)) 29 1 (ec_fd (ec_pf w 29 0 (ec_fd w 87 0)) 87 1)) := ec_W_pf (k := 29) (f := 1) rfl rfl w1_0
  have f1_1_0 : ec_fd (ec_pf (ec_pf w 29 0 (ec_fd w 87 0)) 29 1 (ec_fd (ec_pf w 29 0 (ec_fd w 87 0)) 87 1)) 29 0 = ec_fd w 87 0 := by
    rw [ec_fd_pf (k := 29) (f := 1) w1_0 rfl (by decide), if_neg (by decide)]
    exact f1_0
  have f1_1 : ec_fd (ec_pf (ec_pf w 29 0 (ec_fd w 87 0)) 29 1 (ec_fd (ec_pf w 29 0 (ec_fd w 87 0)) 87 1)) 29 1 = ec_fd w 87 1 := by
    rw [ec_fd_pf (k := 29) (f := 1) w1_0 rfl (by decide), if_pos rfl, ec_tw_fd]
    try exact ef_s_f s1_0 (by decide) 1
  obtain ⟨z1, e1, X1, q1, p1⟩ := ew_cp88_30 a1
  injection e1 with e1 i1
  subst i1
  have h1 := b1 e1 X1
  have s1 : ef_s [29, 30, 31, 32, 33, 34, 35, 36, 37, 38] w y1 := ef_s_trans s1_1 (ef_s_mono q1 (by decide))
  have f1_0 : ec_fd y1 29 0 = ec_fd w 87 0 := (ef_s_f q1 (by decide) 0).trans f1_1_0
  have f1_1 : ec_fd y1 29 1 = ec_fd w 87 1 := (ef_s_f q1 (by decide) 1).trans f1_1
  have g1_30 : ef_a y1 30 = ef_a w 88 := p1.trans (ef_s_a s1_1 (by decide))
  obtain ⟨_, v2, y2, a2, b2⟩ := eg87_29_27_0 h1
  obtain ⟨z2, e2, X2, q2, p2⟩ := ew_cp89_31 a2
  injection e2 with e2 i2
  subst i2
  have h2 := b2 e2 X2
  have s2 : ef_s [29, 30, 31, 32, 33, 34, 35, 36, 37, 38] w y2 := ef_s_trans s1 (ef_s_mono q2 (by decide))
  have f2_0 : ec_fd y2 29 0 = ec_fd w 87 0 := (ef_s_f q2 (by decide) 0).trans f1_0
  have f2_1 : ec_fd y2 29 1 = ec_fd w 87 1 := (ef_s_f q2 (by decide) 1).trans f1_1
  have g2_30 : ef_a y2 30 = ef_a w 88 := (ef_s_a q2 (by decide)).trans g1_30
  have g2_31 : ef_a y2 31 = ef_a w 89 := p2.trans (ef_s_a s1 (by decide))
  obtain ⟨_, v3, y3, a3, b3⟩ := eg87_29_38_0 h2
  obtain ⟨z3, e3, X3, q3, p3⟩ := ew_cp90_32 a3
  injection e3 with e3 i3
  subst i3
  have h3 := b3 e3 X3
  have s3 : ef_s [29, 30, 31, 32, 33, 34, 35, 36, 37, 38] w y3 := ef_s_trans s2 (ef_s_mono q3 (by decide))
  have f3_0 : ec_fd y3 29 0 = ec_fd w 87 0 := (ef_s_f q3 (by decide) 0).trans f2_0
  have f3_1 : ec_fd y3 29 1 = ec_fd w 87 1 := (ef_s_f q3 (by decide) 1).trans f2_1
  have g3_30 : ef_a y3 30 = ef_a w 88 := (ef_s_a q3 (by decide)).trans g2_30
  have g3_31 : ef_a y3 31 = ef_a w 89 := (ef_s_a q3 (by decide)).trans g2_31
  have g3_32 : ef_a y3 32 = ef_a w 90 := p3.trans (ef_s_a s2 (by decide))
  obtain ⟨_, v4, y4, a4, b4⟩ := eg87_29_49_0 h3
  obtain ⟨z4, e4, X4, q4, p4⟩ := ew_cp91_33 a4
  injection e4 with e4 i4
  subst i4
  have h4 := b4 e4 X4
  have s4 : ef_s [29, 30, 31, 32, 33, 34, 35, 36, 37, 38] w y4 := ef_s_trans s3 (ef_s_mono q4 (by decide))
  have f4_0 : ec_fd y4 29 0 = ec_fd w 87 0 := (ef_s_f q4 (by decide) 0).trans f3_0
  have f4_1 : ec_fd y4 29 1 = ec_fd w 87 1 := (ef_s_f q4 (by decide) 1).trans f3_1
  have g4_30 : ef_a y4 30 = ef_a w 88 := (ef_s_a q4 (by decide)).trans g3_30
  have g4_31 : ef_a y4 31 = ef_a w 89 := (ef_s_a q4 (by decide)).trans g3_31
  have g4_32 : ef_a y4 32 = ef_a w 90 := (ef_s_a q4 (by decide)).trans g3_32
  have g4_33 : ef_a y4 33 = ef_a w 91 := p4.trans (ef_s_a s3 (by decide))
  obtain ⟨_, v5, y5, a5, b5⟩ := eg87_29_60_0 h4
  obtain ⟨z5, e5, X5, q5, p5⟩ := ew_cp92_34 a5
  injection e5 with e5 i5
  subst i5
  have h5 := b5 e5 X5
  have s5 : ef_s [29, 30, 31, 32, 33, 34, 35, 36, 37, 38] w y5 := ef_s_trans s4 (ef_s_mono q5 (by decide))
  have f5_0 : ec_fd y5 29 0 = ec_fd w 87 0 := (ef_s_f q5 (by decide) 0).trans f4_0
  have f5_1 : ec_fd y5 29 1 = ec_fd w 87 1 := (ef_s_f q5 (by decide) 1).trans f4_1
  have g5_30 : ef_a y5 30 = ef_a w 88 := (ef_s_a q5 (by decide)).trans g4_30
  have g5_31 : ef_a y5 31 = ef_a w 89 := (ef_s_a q5 (by decide)).trans g4_31
  have g5_32 : ef_a y5 32 = ef_a w 90 := (ef_s_a q5 (by decide)).trans g4_32
  have g5_33 : ef_a y5 33 = ef_a w 91 := (ef_s_a q5 (by decide)).trans g4_33
  have g5_34 : ef_a y5 34 = ef_a w 92 := p5.trans (ef_s_a s4 (by decide))
  obtain ⟨_, v6, y6, a6, b6⟩ := eg87_29_71_0 h5
  have s6_7 : ef_s [29, 30, 31, 32, 33, 34, 35, 36, 37, 38] w (ec_pf y5 29 7 (ec_fd y5 87 7)) := ef_s_trans s5 (ef_s_pf (by decide))
  have w6_7 : ec_W hb_A (ec_pf y5 29 7 (ec_fd y5 87 7)) := ec_W_pf (k := 29) (f := 7) rfl rfl X5
  have f6_7_0 : ec_fd (ec_pf y5 29 7 (ec_fd y5 87 7)) 29 0 = ec_fd w 87 0 := by
    rw [ec_fd_pf (k := 29) (f := 7) X5 rfl (by decide), if_neg (by decide)]
    exact f5_0
  have f6_7_1 : ec_fd (ec_pf y5 29 7 (ec_fd y5 87 7)) 29 1 = ec_fd w 87 1 := by
    rw [ec_fd_pf (k := 29) (f := 7) X5 rfl (by decide), if_neg (by decide)]
    exact f5_1
  have f6_7 : ec_fd (ec_pf y5 29 7 (ec_fd y5 87 7)) 29 7 = ec_fd w 87 7 := by
    rw [ec_fd_pf (k := 29) (f := 7) X5 rfl (by decide), if_pos rfl, ec_tw_fd]
    try exact ef_s_f s5 (by decide) 7
  have g6_7_30 : ef_a (ec_pf y5 29 7 (ec_fd y5 87 7)) 30 = ef_a w 88 := (ef_s_a (ef_s_pf (S := [29]) List.mem_cons_self) (by decide)).trans g5_30
  have g6_7_31 : ef_a (ec_pf y5 29 7 (ec_fd y5 87 7)) 31 = ef_a w 89 := (ef_s_a (ef_s_pf (S := [29]) List.mem_cons_self) (by decide)).trans g5_31
  have g6_7_32 : ef_a (ec_pf y5 29 7 (ec_fd y5 87 7)) 32 = ef_a w 90 := (ef_s_a (ef_s_pf (S := [29]) List.mem_cons_self) (by decide)).trans g5_32
  have g6_7_33 : ef_a (ec_pf y5 29 7 (ec_fd y5 87 7)) 33 = ef_a w 91 := (ef_s_a (ef_s_pf (S := [29]) List.mem_cons_self) (by decide)).trans g5_33
  have g6_7_34 : ef_a (ec_pf y5 29 7 (ec_fd y5 87 7)) 34 = ef_a w 92 := (ef_s_a (ef_s_pf (S := [29]) List.mem_cons_self) (by decide)).trans g5_34
  obtain ⟨z6, e6, X6, q6, p6⟩ := ew_cp93_35 a6
  injection e6 with e6 i6
  subst i6
  have h6 := b6 e6 X6
  have s6 : ef_s [29, 30, 31, 32, 33, 34, 35, 36, 37, 38] w y6 := ef_s_trans s6_7 (ef_s_mono q6 (by decide))
  have f6_0 : ec_fd y6 29 0 = ec_fd w 87 0 := (ef_s_f q6 (by decide) 0).trans f6_7_0
  have f6_1 : ec_fd y6 29 1 = ec_fd w 87 1 := (ef_s_f q6 (by decide) 1).trans f6_7_1
  have f6_7 : ec_fd y6 29 7 = ec_fd w 87 7 := (ef_s_f q6 (by decide) 7).trans f6_7
  have g6_30 : ef_a y6 30 = ef_a w 88 := (ef_s_a q6 (by decide)).trans g6_7_30
  have g6_31 : ef_a y6 31 = ef_a w 89 := (ef_s_a q6 (by decide)).trans g6_7_31
  have g6_32 : ef_a y6 32 = ef_a w 90 := (ef_s_a q6 (by decide)).trans g6_7_32
  have g6_33 : ef_a y6 33 = ef_a w 91 := (ef_s_a q6 (by decide)).trans g6_7_33
  have g6_34 : ef_a y6 34 = ef_a w 92 := (ef_s_a q6 (by decide)).trans g6_7_34
  have g6_35 : ef_a y6 35 = ef_a w 93 := p6.trans (ef_s_a s6_7 (by decide))
  obtain ⟨_, v7, y7, a7, b7⟩ := eg87_29_90_0 h6
  have s7_9 : ef_s [29, 30, 31, 32, 33, 34, 35, 36, 37, 38] w (ec_pf y6 29 9 (ec_fd y6 87 9)) := ef_s_trans s6 (ef_s_pf (by decide))
  have w7_9 : ec_W hb_A (ec_pf y6 29 9 (ec_fd y6 87 9)) := ec_W_pf (k := 29) (f := 9) rfl rfl X6
  have f7_9_0 : ec_fd (ec_pf y6 29 9 (ec_fd y6 87 9)) 29 0 = ec_fd w 87 0 := by
    rw [ec_fd_pf (k := 29) (f := 9) X6 rfl (by decide), if_neg (by decide)]
    exact f6_0
  have f7_9_1 : ec_fd (ec_pf y6 29 9 (ec_fd y6 87 9)) 29 1 = ec_fd w 87 1 := by
    rw [ec_fd_pf (k := 29) (f := 9) X6 rfl (by decide), if_neg (by decide)]
    exact f6_1
  have f7_9_7 : ec_fd (ec_pf y6 29 9 (ec_fd y6 87 9)) 29 7 = ec_fd w 87 7 := by
    rw [ec_fd_pf (k := 29) (f := 9) X6 rfl (by decide), if_neg (by decide)]
    exact f6_7
  have f7_9 : ec_fd (ec_pf y6 29 9 (ec_fd y6 87 9)) 29 9 = ec_fd w 87 9 := by
    rw [ec_fd_pf (k := 29) (f := 9) X6 rfl (by decide), if_pos rfl, ec_tw_fd]
    try exact ef_s_f s6 (by decide) 9
  have g7_9_30 : ef_a (ec_pf y6 29 9 (ec_fd y6 87 9)) 30 = ef_a w 88 := (ef_s_a (ef_s_pf (S := [29]) List.mem_cons_self) (by decide)).trans g6_30
  have g7_9_31 : ef_a (ec_pf y6 29 9 (ec_fd y6 87 9)) 31 = ef_a w 89 := (ef_s_a (ef_s_pf (S := [29]) List.mem_cons_self) (by decide)).trans g6_31
  have g7_9_32 : ef_a (ec_pf y6 29 9 (ec_fd y6 87 9)) 32 = ef_a w 90 := (ef_s_a (ef_s_pf (S := [29]) List.mem_cons_self) (by decide)).trans g6_32
  have g7_9_33 : ef_a (ec_pf y6 29 9 (ec_fd y6 87 9)) 33 = ef_a w 91 := (ef_s_a (ef_s_pf (S := [29]) List.mem_cons_self) (by decide)).trans g6_33
  have g7_9_34 : ef_a (ec_pf y6 29 9 (ec_fd y6 87 9)) 34 = ef_a w 92 := (ef_s_a (ef_s_pf (S := [29]) List.mem_cons_self) (by decide)).trans g6_34
  have g7_9_35 : ef_a (ec_pf y6 29 9 (ec_fd y6 87 9)) 35 = ef_a w 93 := (ef_s_a (ef_s_pf (S := [29]) List.mem_cons_self) (by decide)).trans g6_35
  obtain ⟨z7, e7, X7, q7, p7⟩ := ew_cp94_36 a7
  injection e7 with e7 i7
  subst i7
  have h7 := b7 e7 X7
  have s7 : ef_s [29, 30, 31, 32, 33, 34, 35, 36, 37, 38] w y7 := ef_s_trans s7_9 (ef_s_mono q7 (by decide))
  have f7_0 : ec_fd y7 29 0 = ec_fd w 87 0 := (ef_s_f q7 (by decide) 0).trans f7_9_0
  have f7_1 : ec_fd y7 29 1 = ec_fd w 87 1 := (ef_s_f q7 (by decide) 1).trans f7_9_1
  have f7_7 : ec_fd y7 29 7 = ec_fd w 87 7 := (ef_s_f q7 (by decide) 7).trans f7_9_7
  have f7_9 : ec_fd y7 29 9 = ec_fd w 87 9 := (ef_s_f q7 (by decide) 9).trans f7_9
  have g7_30 : ef_a y7 30 = ef_a w 88 := (ef_s_a q7 (by decide)).trans g7_9_30
  have g7_31 : ef_a y7 31 = ef_a w 89 := (ef_s_a q7 (by decide)).trans g7_9_31
  have g7_32 : ef_a y7 32 = ef_a w 90 := (ef_s_a q7 (by decide)).trans g7_9_32
  have g7_33 : ef_a y7 33 = ef_a w 91 := (ef_s_a q7 (by decide)).trans g7_9_33
  have g7_34 : ef_a y7 34 = ef_a w 92 := (ef_s_a q7 (by decide)).trans g7_9_34
  have g7_35 : ef_a y7 35 = ef_a w 93 := (ef_s_a q7 (by decide)).trans g7_9_35
  have g7_36 : ef_a y7 36 = ef_a w 94 := p7.trans (ef_s_a s7_9 (by decide))
  obtain ⟨_, v8, y8, a8, b8⟩ := eg87_29_109_0 h7
  obtain ⟨z8, e8, X8, q8, p8⟩ := ew_cp95_37 a8
  injection e8 with e8 i8
  subst i8
  have h8 := b8 e8 X8
  have s8 : ef_s [29, 30, 31, 32, 33, 34, 35, 36, 37, 38] w y8 := ef_s_trans s7 (ef_s_mono q8 (by decide))
  have f8_0 : ec_fd y8 29 0 = ec_fd w 87 0 := (ef_s_f q8 (by decide) 0).trans f7_0
  have f8_1 : ec_fd y8 29 1 = ec_fd w 87 1 := (ef_s_f q8 (by decide) 1).trans f7_1
  have f8_7 : ec_fd y8 29 7 = ec_fd w 87 7 := (ef_s_f q8 (by decide) 7).trans f7_7
  have f8_9 : ec_fd y8 29 9 = ec_fd w 87 9 := (ef_s_f q8 (by decide) 9).trans f7_9
  have g8_30 : ef_a y8 30 = ef_a w 88 := (ef_s_a q8 (by decide)).trans g7_30
  have g8_31 : ef_a y8 31 = ef_a w 89 := (ef_s_a q8 (by decide)).trans g7_31
  have g8_32 : ef_a y8 32 = ef_a w 90 := (ef_s_a q8 (by decide)).trans g7_32
  have g8_33 : ef_a y8 33 = ef_a w 91 := (ef_s_a q8 (by decide)).trans g7_33
  have g8_34 : ef_a y8 34 = ef_a w 92 := (ef_s_a q8 (by decide)).trans g7_34
  have g8_35 : ef_a y8 35 = ef_a w 93 := (ef_s_a q8 (by decide)).trans g7_35
  have g8_36 : ef_a y8 36 = ef_a w 94 := (ef_s_a q8 (by decide)).trans g7_36
  have g8_37 : ef_a y8 37 = ef_a w 95 := p8.trans (ef_s_a s7 (by decide))
  obtain ⟨_, v9, y9, a9, b9⟩ := eg87_29_120_0 h8
  obtain ⟨z9, e9, X9, q9, p9⟩ := ew_cp96_38 a9
  injection e9 with e9 i9
  subst i9
  have h9 := b9 e9 X9
  have s9 : ef_s [29, 30, 31, 32, 33, 34, 35, 36, 37, 38] w y9 := ef_s_trans s8 (ef_s_mono q9 (by decide))
  have f9_0 : ec_fd y9 29 0 = ec_fd w 87 0 := (ef_s_f q9 (by decide) 0).trans f8_0
  have f9_1 : ec_fd y9 29 1 = ec_fd w 87 1 := (ef_s_f q9 (by decide) 1).trans f8_1
  have f9_7 : ec_fd y9 29 7 = ec_fd w 87 7 := (ef_s_f q9 (by decide) 7).trans f8_7
  have f9_9 : ec_fd y9 29 9 = ec_fd w 87 9 := (ef_s_f q9 (by decide) 9).trans f8_9
  have g9_30 : ef_a y9 30 = ef_a w 88 := (ef_s_a q9 (by decide)).trans g8_30
  have g9_31 : ef_a y9 31 = ef_a w 89 := (ef_s_a q9 (by decide)).trans g8_31
  have g9_32 : ef_a y9 32 = ef_a w 90 := (ef_s_a q9 (by decide)).trans g8_32
  have g9_33 : ef_a y9 33 = ef_a w 91 := (ef_s_a q9 (by decide)).trans g8_33
  have g9_34 : ef_a y9 34 = ef_a w 92 := (ef_s_a q9 (by decide)).trans g8_34
  have g9_35 : ef_a y9 35 = ef_a w 93 := (ef_s_a q9 (by decide)).trans g8_35
  have g9_36 : ef_a y9 36 = ef_a w 94 := (ef_s_a q9 (by decide)).trans g8_36
  have g9_37 : ef_a y9 37 = ef_a w 95 := (ef_s_a q9 (by decide)).trans g8_37
  have g9_38 : ef_a y9 38 = ef_a w 96 := p9.trans (ef_s_a s8 (by decide))
  obtain ⟨_, hr, hW⟩ := eg87_29_131_0 h9
  exact ⟨_, hr, hW, s9, g9_30, g9_31, g9_32, g9_33, g9_34, g9_35, g9_36, g9_37, g9_38, f9_0, f9_1, f9_7, f9_9⟩
theorem ew_cf115_97 {n : Nat} {w : px_W} {r : Option Value × px_W} (h : ec_E hb_X n 115 0 [(0, .inr (.inl 161)), (1, .inr (.inl 103))] [] w r) : ∃ w' : px_W, r = (none, w') ∧ ec_W hb_A w' ∧ ef_s [97, 98, 99, 100, 101] w w' ∧ ef_a w' 98 = ef_a w 40 ∧ ef_a w' 99 = ef_a w 41 ∧ ef_a w' 100 = ef_a w 42 ∧ ef_a w' 101 = ef_a w 43 ∧ ec_fd w' 97 1 = ec_fd w 39 1 := by
  have r0 : ef_s [97, 98, 99, 100, 101] w w := ef_s_refl
  obtain ⟨_, v1, y1, a1, b1⟩ := eg115_97_0_0 h
  obtain ⟨z1, e1, X1, q1, p1⟩ := ew_cp40_98 a1
  injection e1 with e1 i1
  subst i1
  have h1 := b1 e1 X1
  have s1 : ef_s [97, 98, 99, 100, 101] w y1 := ef_s_trans r0 (ef_s_mono q1 (by decide))
  have g1_98 : ef_a y1 98 = ef_a w 40 := p1.trans (ef_s_a r0 (by decide))
  obtain ⟨_, v2, y2, a2, b2⟩ := eg115_97_11_0 h1
  have s2_1 : ef_s [97, 98, 99, 100, 101] w (ec_pf y1 97 1 (ec_fd y1 39 1)) := ef_s_trans s1 (ef_s_pf (by decide))
  have w2_1 : ec_W hb_A (ec_pf y1 97 1 (ec_fd y1 39 1)) := ec_W_pf (k := 97) (f := 1) rfl rfl X1
  have f2_1 : ec_fd (ec_pf y1 97 1 (ec_fd y1 39 1)) 97 1 = ec_fd w 39 1 := by
    rw [ec_fd_pf (k := 97) (f := 1) X1 rfl (by decide), if_pos rfl, ec_tw_fd]
    try exact ef_s_f s1 (by decide) 1
  have g2_1_98 : ef_a (ec_pf y1 97 1 (ec_fd y1 39 1)) 98 = ef_a w 40 := (ef_s_a (ef_s_pf (S := [97]) List.mem_cons_self) (by decide)).trans g1_98
  obtain ⟨z2, e2, X2, q2, p2⟩ := ew_cp41_99 a2
  injection e2 with e2 i2
  subst i2
  have h2 := b2 e2 X2
  have s2 : ef_s [97, 98, 99, 100, 101] w y2 := ef_s_trans s2_1 (ef_s_mono q2 (by decide))
  have f2_1 : ec_fd y2 97 1 = ec_fd w 39 1 := (ef_s_f q2 (by decide) 1).trans f2_1
  have g2_98 : ef_a y2 98 = ef_a w 40 := (ef_s_a q2 (by decide)).trans g2_1_98
  have g2_99 : ef_a y2 99 = ef_a w 41 := p2.trans (ef_s_a s2_1 (by decide))
  obtain ⟨_, v3, y3, a3, b3⟩ := eg115_97_30_0 h2
  obtain ⟨z3, e3, X3, q3, p3⟩ := ew_cp42_100 a3
  injection e3 with e3 i3
  subst i3
  have h3 := b3 e3 X3
  have s3 : ef_s [97, 98, 99, 100, 101] w y3 := ef_s_trans s2 (ef_s_mono q3 (by decide))
  have f3_1 : ec_fd y3 97 1 = ec_fd w 39 1 := (ef_s_f q3 (by decide) 1).trans f2_1
  have g3_98 : ef_a y3 98 = ef_a w 40 := (ef_s_a q3 (by decide)).trans g2_98
  have g3_99 : ef_a y3 99 = ef_a w 41 := (ef_s_a q3 (by decide)).trans g2_99
  have g3_100 : ef_a y3 100 = ef_a w 42 := p3.trans (ef_s_a s2 (by decide))
  obtain ⟨_, v4, y4, a4, b4⟩ := eg115_97_41_0 h3
  obtain ⟨z4, e4, X4, q4, p4⟩ := ew_cp43_101 a4
  injection e4 with e4 i4
  subst i4
  have h4 := b4 e4 X4
  have s4 : ef_s [97, 98, 99, 100, 101] w y4 := ef_s_trans s3 (ef_s_mono q4 (by decide))
  have f4_1 : ec_fd y4 97 1 = ec_fd w 39 1 := (ef_s_f q4 (by decide) 1).trans f3_1
  have g4_98 : ef_a y4 98 = ef_a w 40 := (ef_s_a q4 (by decide)).trans g3_98
  have g4_99 : ef_a y4 99 = ef_a w 41 := (ef_s_a q4 (by decide)).trans g3_99
  have g4_100 : ef_a y4 100 = ef_a w 42 := (ef_s_a q4 (by decide)).trans g3_100
  have g4_101 : ef_a y4 101 = ef_a w 43 := p4.trans (ef_s_a s3 (by decide))
  obtain ⟨_, hr, hW⟩ := eg115_97_52_0 h4
  exact ⟨_, hr, hW, s4, g4_98, g4_99, g4_100, g4_101, f4_1⟩
theorem ew_cf115_39 {n : Nat} {w : px_W} {r : Option Value × px_W} (h : ec_E hb_X n 115 0 [(0, .inr (.inl 103)), (1, .inr (.inl 161))] [] w r) : ∃ w' : px_W, r = (none, w') ∧ ec_W hb_A w' ∧ ef_s [39, 40, 41, 42, 43] w w' ∧ ef_a w' 40 = ef_a w 98 ∧ ef_a w' 41 = ef_a w 99 ∧ ef_a w' 42 = ef_a w 100 ∧ ef_a w' 43 = ef_a w 101 ∧ ec_fd w' 39 1 = ec_fd w 97 1 := by
  have r0 : ef_s [39, 40, 41, 42, 43] w w := ef_s_refl
  obtain ⟨_, v1, y1, a1, b1⟩ := eg115_39_0_0 h
  obtain ⟨z1, e1, X1, q1, p1⟩ := ew_cp98_40 a1
  injection e1 with e1 i1
  subst i1
  have h1 := b1 e1 X1
  have s1 : ef_s [39, 40, 41, 42, 43] w y1 := ef_s_trans r0 (ef_s_mono q1 (by decide))
  have g1_40 : ef_a y1 40 = ef_a w 98 := p1.trans (ef_s_a r0 (by decide))
  obtain ⟨_, v2, y2, a2, b2⟩ := eg115_39_11_0 h1
  have s2_1 : ef_s [39, 40, 41, 42, 43] w (ec_pf y1 39 1 (ec_fd y1 97 1)) := ef_s_trans s1 (ef_s_pf (by decide))
  have w2_1 : ec_W hb_A (ec_pf y1 39 1 (ec_fd y1 97 1)) := ec_W_pf (k := 39) (f := 1) rfl rfl X1
  have f2_1 : ec_fd (ec_pf y1 39 1 (ec_fd y1 97 1)) 39 1 = ec_fd w 97 1 := by
    rw [ec_fd_pf (k := 39) (f := 1) X1 rfl (by decide), if_pos rfl, ec_tw_fd]
    try exact ef_s_f s1 (by decide) 1
  have g2_1_40 : ef_a (ec_pf y1 39 1 (ec_fd y1 97 1)) 40 = ef_a w 98 := (ef_s_a (ef_s_pf (S := [39]) List.mem_cons_self) (by decide)).trans g1_40
  obtain ⟨z2, e2, X2, q2, p2⟩ := ew_cp99_41 a2
  injection e2 with e2 i2
  subst i2
  have h2 := b2 e2 X2
  have s2 : ef_s [39, 40, 41, 42, 43] w y2 := ef_s_trans s2_1 (ef_s_mono q2 (by decide))
  have f2_1 : ec_fd y2 39 1 = ec_fd w 97 1 := (ef_s_f q2 (by decide) 1).trans f2_1
  have g2_40 : ef_a y2 40 = ef_a w 98 := (ef_s_a q2 (by decide)).trans g2_1_40
  have g2_41 : ef_a y2 41 = ef_a w 99 := p2.trans (ef_s_a s2_1 (by decide))
  obtain ⟨_, v3, y3, a3, b3⟩ := eg115_39_30_0 h2
  obtain ⟨z3, e3, X3, q3, p3⟩ := ew_cp100_42 a3
  injection e3 with e3 i3
  subst i3
  have h3 := b3 e3 X3
  have s3 : ef_s [39, 40, 41, 42, 43] w y3 := ef_s_trans s2 (ef_s_mono q3 (by decide))
  have f3_1 : ec_fd y3 39 1 = ec_fd w 97 1 := (ef_s_f q3 (by decide) 1).trans f2_1
  have g3_40 : ef_a y3 40 = ef_a w 98 := (ef_s_a q3 (by decide)).trans g2_40
  have g3_41 : ef_a y3 41 = ef_a w 99 := (ef_s_a q3 (by decide)).trans g2_41
  have g3_42 : ef_a y3 42 = ef_a w 100 := p3.trans (ef_s_a s2 (by decide))
  obtain ⟨_, v4, y4, a4, b4⟩ := eg115_39_41_0 h3
  obtain ⟨z4, e4, X4, q4, p4⟩ := ew_cp101_43 a4
  injection e4 with e4 i4
  subst i4
  have h4 := b4 e4 X4
  have s4 : ef_s [39, 40, 41, 42, 43] w y4 := ef_s_trans s3 (ef_s_mono q4 (by decide))
  have f4_1 : ec_fd y4 39 1 = ec_fd w 97 1 := (ef_s_f q4 (by decide) 1).trans f3_1
  have g4_40 : ef_a y4 40 = ef_a w 98 := (ef_s_a q4 (by decide)).trans g3_40
  have g4_41 : ef_a y4 41 = ef_a w 99 := (ef_s_a q4 (by decide)).trans g3_41
  have g4_42 : ef_a y4 42 = ef_a w 100 := (ef_s_a q4 (by decide)).trans g3_42
  have g4_43 : ef_a y4 43 = ef_a w 101 := p4.trans (ef_s_a s3 (by decide))
  obtain ⟨_, hr, hW⟩ := eg115_39_52_0 h4
  exact ⟨_, hr, hW, s4, g4_40, g4_41, g4_42, g4_43, f4_1⟩
theorem ew_cf73_102 {n : Nat} {w : px_W} {r : Option Value × px_W} (h : ec_E hb_X n 73 0 [(0, .inr (.inl 166)), (1, .inr (.inl 108))] [] w r) : ∃ w' : px_W, r = (none, w') ∧ ec_W hb_A w' ∧ ef_s [102, 103, 104, 105, 106, 107, 108, 109] w w' ∧ ef_a w' 103 = ef_a w 45 ∧ ef_a w' 104 = ef_a w 46 ∧ ef_a w' 105 = ef_a w 47 ∧ ef_a w' 106 = ef_a w 48 ∧ ef_a w' 107 = ef_a w 49 ∧ ef_a w' 108 = ef_a w 50 ∧ ef_a w' 109 = ef_a w 51 ∧ ec_fd w' 102 0 = ec_fd w 44 0 := by
  have r0 : ef_s [102, 103, 104, 105, 106, 107, 108, 109] w w := ef_s_refl
  obtain ⟨_, v1, y1, a1, b1⟩ := eg73_102_0_0 h
  have s1_0 : ef_s [102, 103, 104, 105, 106, 107, 108, 109] w (ec_pf w 102 0 (ec_fd w 44 0)) := ef_s_trans r0 (ef_s_pf (by decide))
  have w1_0 : ec_W hb_A (ec_pf w 102 0 (ec_fd w 44 0)) := ec_W_pf (k := 102) (f := 0) rfl rfl h.1
  have f1_0 : ec_fd (ec_pf w 102 0 (ec_fd w 44 0)) 102 0 = ec_fd w 44 0 := by
    rw [ec_fd_pf (k := 102) (f := 0) h.1 rfl (by decide), if_pos rfl, ec_tw_fd]
    try exact ef_s_f r0 (by decide) 0
  obtain ⟨z1, e1, X1, q1, p1⟩ := ew_cp45_103 a1
  injection e1 with e1 i1
  subst i1
  have h1 := b1 e1 X1
  have s1 : ef_s [102, 103, 104, 105, 106, 107, 108, 109] w y1 := ef_s_trans s1_0 (ef_s_mono q1 (by decide))
  have f1_0 : ec_fd y1 102 0 = ec_fd w 44 0 := (ef_s_f q1 (by decide) 0).trans f1_0
  have g1_103 : ef_a y1 103 = ef_a w 45 := p1.trans (ef_s_a s1_0 (by decide))
  obtain ⟨_, v2, y2, a2, b2⟩ := eg73_102_19_0 h1
  obtain ⟨z2, e2, X2, q2, p2⟩ := ew_cp46_104 a2
  injection e2 with e2 i2
  subst i2
  have h2 := b2 e2 X2
  have s2 : ef_s [102, 103, 104, 105, 106, 107, 108, 109] w y2 := ef_s_trans s1 (ef_s_mono q2 (by decide))
  have f2_0 : ec_fd y2 102 0 = ec_fd w 44 0 := (ef_s_f q2 (by decide) 0).trans f1_0
  have g2_103 : ef_a y2 103 = ef_a w 45 := (ef_s_a q2 (by decide)).trans g1_103
  have g2_104 : ef_a y2 104 = ef_a w 46 := p2.trans (ef_s_a s1 (by decide))
  obtain ⟨_, v3, y3, a3, b3⟩ := eg73_102_30_0 h2
  obtain ⟨z3, e3, X3, q3, p3⟩ := ew_cp47_105 a3
  injection e3 with e3 i3
  subst i3
  have h3 := b3 e3 X3
  have s3 : ef_s [102, 103, 104, 105, 106, 107, 108, 109] w y3 := ef_s_trans s2 (ef_s_mono q3 (by decide))
  have f3_0 : ec_fd y3 102 0 = ec_fd w 44 0 := (ef_s_f q3 (by decide) 0).trans f2_0
  have g3_103 : ef_a y3 103 = ef_a w 45 := (ef_s_a q3 (by decide)).trans g2_103
  have g3_104 : ef_a y3 104 = ef_a w 46 := (ef_s_a q3 (by decide)).trans g2_104
  have g3_105 : ef_a y3 105 = ef_a w 47 := p3.trans (ef_s_a s2 (by decide))
  obtain ⟨_, v4, y4, a4, b4⟩ := eg73_102_41_0 h3
  obtain ⟨z4, e4, X4, q4, p4⟩ := ew_cp48_106 a4
  injection e4 with e4 i4
  subst i4
  have h4 := b4 e4 X4
  have s4 : ef_s [102, 103, 104, 105, 106, 107, 108, 109] w y4 := ef_s_trans s3 (ef_s_mono q4 (by decide))
  have f4_0 : ec_fd y4 102 0 = ec_fd w 44 0 := (ef_s_f q4 (by decide) 0).trans f3_0
  have g4_103 : ef_a y4 103 = ef_a w 45 := (ef_s_a q4 (by decide)).trans g3_103
  have g4_104 : ef_a y4 104 = ef_a w 46 := (ef_s_a q4 (by decide)).trans g3_104
  have g4_105 : ef_a y4 105 = ef_a w 47 := (ef_s_a q4 (by decide)).trans g3_105
  have g4_106 : ef_a y4 106 = ef_a w 48 := p4.trans (ef_s_a s3 (by decide))
  obtain ⟨_, v5, y5, a5, b5⟩ := eg73_102_52_0 h4
  obtain ⟨z5, e5, X5, q5, p5⟩ := ew_cp49_107 a5
  injection e5 with e5 i5
  subst i5
  have h5 := b5 e5 X5
  have s5 : ef_s [102, 103, 104, 105, 106, 107, 108, 109] w y5 := ef_s_trans s4 (ef_s_mono q5 (by decide))
  have f5_0 : ec_fd y5 102 0 = ec_fd w 44 0 := (ef_s_f q5 (by decide) 0).trans f4_0
  have g5_103 : ef_a y5 103 = ef_a w 45 := (ef_s_a q5 (by decide)).trans g4_103
  have g5_104 : ef_a y5 104 = ef_a w 46 := (ef_s_a q5 (by decide)).trans g4_104
  have g5_105 : ef_a y5 105 = ef_a w 47 := (ef_s_a q5 (by decide)).trans g4_105
  have g5_106 : ef_a y5 106 = ef_a w 48 := (ef_s_a q5 (by decide)).trans g4_106
  have g5_107 : ef_a y5 107 = ef_a w 49 := p5.trans (ef_s_a s4 (by decide))
  obtain ⟨_, v6, y6, a6, b6⟩ := eg73_102_63_0 h5
  obtain ⟨z6, e6, X6, q6, p6⟩ := ew_cp50_108 a6
  injection e6 with e6 i6
  subst i6
  have h6 := b6 e6 X6
  have s6 : ef_s [102, 103, 104, 105, 106, 107, 108, 109] w y6 := ef_s_trans s5 (ef_s_mono q6 (by decide))
  have f6_0 : ec_fd y6 102 0 = ec_fd w 44 0 := (ef_s_f q6 (by decide) 0).trans f5_0
  have g6_103 : ef_a y6 103 = ef_a w 45 := (ef_s_a q6 (by decide)).trans g5_103
  have g6_104 : ef_a y6 104 = ef_a w 46 := (ef_s_a q6 (by decide)).trans g5_104
  have g6_105 : ef_a y6 105 = ef_a w 47 := (ef_s_a q6 (by decide)).trans g5_105
  have g6_106 : ef_a y6 106 = ef_a w 48 := (ef_s_a q6 (by decide)).trans g5_106
  have g6_107 : ef_a y6 107 = ef_a w 49 := (ef_s_a q6 (by decide)).trans g5_107
  have g6_108 : ef_a y6 108 = ef_a w 50 := p6.trans (ef_s_a s5 (by decide))
  obtain ⟨_, v7, y7, a7, b7⟩ := eg73_102_74_0 h6
  obtain ⟨z7, e7, X7, q7, p7⟩ := ew_cp51_109 a7
  injection e7 with e7 i7
  subst i7
  have h7 := b7 e7 X7
  have s7 : ef_s [102, 103, 104, 105, 106, 107, 108, 109] w y7 := ef_s_trans s6 (ef_s_mono q7 (by decide))
  have f7_0 : ec_fd y7 102 0 = ec_fd w 44 0 := (ef_s_f q7 (by decide) 0).trans f6_0
  have g7_103 : ef_a y7 103 = ef_a w 45 := (ef_s_a q7 (by decide)).trans g6_103
  have g7_104 : ef_a y7 104 = ef_a w 46 := (ef_s_a q7 (by decide)).trans g6_104
  have g7_105 : ef_a y7 105 = ef_a w 47 := (ef_s_a q7 (by decide)).trans g6_105
  have g7_106 : ef_a y7 106 = ef_a w 48 := (ef_s_a q7 (by decide)).trans g6_106
  have g7_107 : ef_a y7 107 = ef_a w 49 := (ef_s_a q7 (by decide)).trans g6_107
  have g7_108 : ef_a y7 108 = ef_a w 50 := (ef_s_a q7 (by decide)).trans g6_108
  have g7_109 : ef_a y7 109 = ef_a w 51 := p7.trans (ef_s_a s6 (by decide))
  obtain ⟨_, hr, hW⟩ := eg73_102_85_0 h7
  exact ⟨_, hr, hW, s7, g7_103, g7_104, g7_105, g7_106, g7_107, g7_108, g7_109, f7_0⟩
theorem ew_cf73_44 {n : Nat} {w : px_W} {r : Option Value × px_W} (h : ec_E hb_X n 73 0 [(0, .inr (.inl 108)), (1, .inr (.inl 166))] [] w r) : ∃ w' : px_W, r = (none, w') ∧ ec_W hb_A w' ∧ ef_s [44, 45, 46, 47, 48, 49, 50, 51] w w' ∧ ef_a w' 45 = ef_a w 103 ∧ ef_a w' 46 = ef_a w 104 ∧ ef_a w' 47 = ef_a w 105 ∧ ef_a w' 48 = ef_a w 106 ∧ ef_a w' 49 = ef_a w 107 ∧ ef_a w' 50 = ef_a w 108 ∧ ef_a w' 51 = ef_a w 109 ∧ ec_fd w' 44 0 = ec_fd w 102 0 := by
  have r0 : ef_s [44, 45, 46, 47, 48, 49, 50, 51] w w := ef_s_refl
  obtain ⟨_, v1, y1, a1, b1⟩ := eg73_44_0_0 h
  have s1_0 : ef_s [44, 45, 46, 47, 48, 49, 50, 51] w (ec_pf w 44 0 (ec_fd w 102 0)) := ef_s_trans r0 (ef_s_pf (by decide))
  have w1_0 : ec_W hb_A (ec_pf w 44 0 (ec_fd w 102 0)) := ec_W_pf (k := 44) (f := 0) rfl rfl h.1
  have f1_0 : ec_fd (ec_pf w 44 0 (ec_fd w 102 0)) 44 0 = ec_fd w 102 0 := by
    rw [ec_fd_pf (k := 44) (f := 0) h.1 rfl (by decide), if_pos rfl, ec_tw_fd]
    try exact ef_s_f r0 (by decide) 0
  obtain ⟨z1, e1, X1, q1, p1⟩ := ew_cp103_45 a1
  injection e1 with e1 i1
  subst i1
  have h1 := b1 e1 X1
  have s1 : ef_s [44, 45, 46, 47, 48, 49, 50, 51] w y1 := ef_s_trans s1_0 (ef_s_mono q1 (by decide))
  have f1_0 : ec_fd y1 44 0 = ec_fd w 102 0 := (ef_s_f q1 (by decide) 0).trans f1_0
  have g1_45 : ef_a y1 45 = ef_a w 103 := p1.trans (ef_s_a s1_0 (by decide))
  obtain ⟨_, v2, y2, a2, b2⟩ := eg73_44_19_0 h1
  obtain ⟨z2, e2, X2, q2, p2⟩ := ew_cp104_46 a2
  injection e2 with e2 i2
  subst i2
  have h2 := b2 e2 X2
  have s2 : ef_s [44, 45, 46, 47, 48, 49, 50, 51] w y2 := ef_s_trans s1 (ef_s_mono q2 (by decide))
  have f2_0 : ec_fd y2 44 0 = ec_fd w 102 0 := (ef_s_f q2 (by decide) 0).trans f1_0
  have g2_45 : ef_a y2 45 = ef_a w 103 := (ef_s_a q2 (by decide)).trans g1_45
  have g2_46 : ef_a y2 46 = ef_a w 104 := p2.trans (ef_s_a s1 (by decide))
  obtain ⟨_, v3, y3, a3, b3⟩ := eg73_44_30_0 h2
  obtain ⟨z3, e3, X3, q3, p3⟩ := ew_cp105_47 a3
  injection e3 with e3 i3
  subst i3
  have h3 := b3 e3 X3
  have s3 : ef_s [44, 45, 46, 47, 48, 49, 50, 51] w y3 := ef_s_trans s2 (ef_s_mono q3 (by decide))
  have f3_0 : ec_fd y3 44 0 = ec_fd w 102 0 := (ef_s_f q3 (by decide) 0).trans f2_0
  have g3_45 : ef_a y3 45 = ef_a w 103 := (ef_s_a q3 (by decide)).trans g2_45
  have g3_46 : ef_a y3 46 = ef_a w 104 := (ef_s_a q3 (by decide)).trans g2_46
  have g3_47 : ef_a y3 47 = ef_a w 105 := p3.trans (ef_s_a s2 (by decide))
  obtain ⟨_, v4, y4, a4, b4⟩ := eg73_44_41_0 h3
  obtain ⟨z4, e4, X4, q4, p4⟩ := ew_cp106_48 a4
  injection e4 with e4 i4
  subst i4
  have h4 := b4 e4 X4
  have s4 : ef_s [44, 45, 46, 47, 48, 49, 50, 51] w y4 := ef_s_trans s3 (ef_s_mono q4 (by decide))
  have f4_0 : ec_fd y4 44 0 = ec_fd w 102 0 := (ef_s_f q4 (by decide) 0).trans f3_0
  have g4_45 : ef_a y4 45 = ef_a w 103 := (ef_s_a q4 (by decide)).trans g3_45
  have g4_46 : ef_a y4 46 = ef_a w 104 := (ef_s_a q4 (by decide)).trans g3_46
  have g4_47 : ef_a y4 47 = ef_a w 105 := (ef_s_a q4 (by decide)).trans g3_47
  have g4_48 : ef_a y4 48 = ef_a w 106 := p4.trans (ef_s_a s3 (by decide))
  obtain ⟨_, v5, y5, a5, b5⟩ := eg73_44_52_0 h4
  obtain ⟨z5, e5, X5, q5, p5⟩ := ew_cp107_49 a5
  injection e5 with e5 i5
  subst i5
  have h5 := b5 e5 X5
  have s5 : ef_s [44, 45, 46, 47, 48, 49, 50, 51] w y5 := ef_s_trans s4 (ef_s_mono q5 (by decide))
  have f5_0 : ec_fd y5 44 0 = ec_fd w 102 0 := (ef_s_f q5 (by decide) 0).trans f4_0
  have g5_45 : ef_a y5 45 = ef_a w 103 := (ef_s_a q5 (by decide)).trans g4_45
  have g5_46 : ef_a y5 46 = ef_a w 104 := (ef_s_a q5 (by decide)).trans g4_46
  have g5_47 : ef_a y5 47 = ef_a w 105 := (ef_s_a q5 (by decide)).trans g4_47
  have g5_48 : ef_a y5 48 = ef_a w 106 := (ef_s_a q5 (by decide)).trans g4_48
  have g5_49 : ef_a y5 49 = ef_a w 107 := p5.trans (ef_s_a s4 (by decide))
  obtain ⟨_, v6, y6, a6, b6⟩ := eg73_44_63_0 h5
  obtain ⟨z6, e6, X6, q6, p6⟩ := ew_cp108_50 a6
  injection e6 with e6 i6
  subst i6
  have h6 := b6 e6 X6
  have s6 : ef_s [44, 45, 46, 47, 48, 49, 50, 51] w y6 := ef_s_trans s5 (ef_s_mono q6 (by decide))
  have f6_0 : ec_fd y6 44 0 = ec_fd w 102 0 := (ef_s_f q6 (by decide) 0).trans f5_0
  have g6_45 : ef_a y6 45 = ef_a w 103 := (ef_s_a q6 (by decide)).trans g5_45
  have g6_46 : ef_a y6 46 = ef_a w 104 := (ef_s_a q6 (by decide)).trans g5_46
  have g6_47 : ef_a y6 47 = ef_a w 105 := (ef_s_a q6 (by decide)).trans g5_47
  have g6_48 : ef_a y6 48 = ef_a w 106 := (ef_s_a q6 (by decide)).trans g5_48
  have g6_49 : ef_a y6 49 = ef_a w 107 := (ef_s_a q6 (by decide)).trans g5_49
  have g6_50 : ef_a y6 50 = ef_a w 108 := p6.trans (ef_s_a s5 (by decide))
  obtain ⟨_, v7, y7, a7, b7⟩ := eg73_44_74_0 h6
  obtain ⟨z7, e7, X7, q7, p7⟩ := ew_cp109_51 a7
  injection e7 with e7 i7
  subst i7
  have h7 := b7 e7 X7
  have s7 : ef_s [44, 45, 46, 47, 48, 49, 50, 51] w y7 := ef_s_trans s6 (ef_s_mono q7 (by decide))
  have f7_0 : ec_fd y7 44 0 = ec_fd w 102 0 := (ef_s_f q7 (by decide) 0).trans f6_0
  have g7_45 : ef_a y7 45 = ef_a w 103 := (ef_s_a q7 (by decide)).trans g6_45
  have g7_46 : ef_a y7 46 = ef_a w 104 := (ef_s_a q7 (by decide)).trans g6_46
  have g7_47 : ef_a y7 47 = ef_a w 105 := (ef_s_a q7 (by decide)).trans g6_47
  have g7_48 : ef_a y7 48 = ef_a w 106 := (ef_s_a q7 (by decide)).trans g6_48
  have g7_49 : ef_a y7 49 = ef_a w 107 := (ef_s_a q7 (by decide)).trans g6_49
  have g7_50 : ef_a y7 50 = ef_a w 108 := (ef_s_a q7 (by decide)).trans g6_50
  have g7_51 : ef_a y7 51 = ef_a w 109 := p7.trans (ef_s_a s6 (by decide))
  obtain ⟨_, hr, hW⟩ := eg73_44_85_0 h7
  exact ⟨_, hr, hW, s7, g7_45, g7_46, g7_47, g7_48, g7_49, g7_50, g7_51, f7_0⟩
theorem ew_cf45_110 {n : Nat} {w : px_W} {r : Option Value × px_W} (h : ec_E hb_X n 45 0 [(0, .inr (.inl 174)), (1, .inr (.inl 116))] [] w r) : ∃ w' : px_W, r = (none, w') ∧ ec_W hb_A w' ∧ ef_s [110, 112, 113] w w' ∧ ef_a w' 112 = ef_a w 54 ∧ ef_a w' 113 = ef_a w 55 ∧ ec_fd w' 110 0 = ec_fd w 52 0 := by
  have r0 : ef_s [110, 112, 113] w w := ef_s_refl
  obtain ⟨_, v1, y1, a1, b1⟩ := eg45_110_0_0 h
  have s1_0 : ef_s [110, 112, 113] w (ec_pf w 110 0 (ec_fd w 52 0)) := ef_s_trans r0 (ef_s_pf (by decide))
  have w1_0 : ec_W hb_A (ec_pf w 110 0 (ec_fd w 52 0)) := ec_W_pf (k := 110) (f := 0) rfl rfl h.1
  have f1_0 : ec_fd (ec_pf w 110 0 (ec_fd w 52 0)) 110 0 = ec_fd w 52 0 := by
    rw [ec_fd_pf (k := 110) (f := 0) h.1 rfl (by decide), if_pos rfl, ec_tw_fd]
    try exact ef_s_f r0 (by decide) 0
  obtain ⟨z1, e1, X1, q1, p1⟩ := ew_cp54_112 a1
  injection e1 with e1 i1
  subst i1
  have h1 := b1 e1 X1
  have s1 : ef_s [110, 112, 113] w y1 := ef_s_trans s1_0 (ef_s_mono q1 (by decide))
  have f1_0 : ec_fd y1 110 0 = ec_fd w 52 0 := (ef_s_f q1 (by decide) 0).trans f1_0
  have g1_112 : ef_a y1 112 = ef_a w 54 := p1.trans (ef_s_a s1_0 (by decide))
  obtain ⟨_, v2, y2, a2, b2⟩ := eg45_110_19_0 h1
  obtain ⟨z2, e2, X2, q2, p2⟩ := ew_cp55_113 a2
  injection e2 with e2 i2
  subst i2
  have h2 := b2 e2 X2
  have s2 : ef_s [110, 112, 113] w y2 := ef_s_trans s1 (ef_s_mono q2 (by decide))
  have f2_0 : ec_fd y2 110 0 = ec_fd w 52 0 := (ef_s_f q2 (by decide) 0).trans f1_0
  have g2_112 : ef_a y2 112 = ef_a w 54 := (ef_s_a q2 (by decide)).trans g1_112
  have g2_113 : ef_a y2 113 = ef_a w 55 := p2.trans (ef_s_a s1 (by decide))
  obtain ⟨_, hr, hW⟩ := eg45_110_30_0 h2
  exact ⟨_, hr, hW, s2, g2_112, g2_113, f2_0⟩
theorem ew_cf45_52 {n : Nat} {w : px_W} {r : Option Value × px_W} (h : ec_E hb_X n 45 0 [(0, .inr (.inl 116)), (1, .inr (.inl 174))] [] w r) : ∃ w' : px_W, r = (none, w') ∧ ec_W hb_A w' ∧ ef_s [52, 54, 55] w w' ∧ ef_a w' 54 = ef_a w 112 ∧ ef_a w' 55 = ef_a w 113 ∧ ec_fd w' 52 0 = ec_fd w 110 0 := by
  have r0 : ef_s [52, 54, 55] w w := ef_s_refl
  obtain ⟨_, v1, y1, a1, b1⟩ := eg45_52_0_0 h
  have s1_0 : ef_s [52, 54, 55] w (ec_pf w 52 0 (ec_fd w 110 0)) := ef_s_trans r0 (ef_s_pf (by decide))
  have w1_0 : ec_W hb_A (ec_pf w 52 0 (ec_fd w 110 0)) := ec_W_pf (k := 52) (f := 0) rfl rfl h.1
  have f1_0 : ec_fd (ec_pf w 52 0 (ec_fd w 110 0)) 52 0 = ec_fd w 110 0 := by
    rw [ec_fd_pf (k := 52) (f := 0) h.1 rfl (by decide), if_pos rfl, ec_tw_fd]
    try exact ef_s_f r0 (by decide) 0
  obtain ⟨z1, e1, X1, q1, p1⟩ := ew_cp112_54 a1
  injection e1 with e1 i1
  subst i1
  have h1 := b1 e1 X1
  have s1 : ef_s [52, 54, 55] w y1 := ef_s_trans s1_0 (ef_s_mono q1 (by decide))
  have f1_0 : ec_fd y1 52 0 = ec_fd w 110 0 := (ef_s_f q1 (by decide) 0).trans f1_0
  have g1_54 : ef_a y1 54 = ef_a w 112 := p1.trans (ef_s_a s1_0 (by decide))
  obtain ⟨_, v2, y2, a2, b2⟩ := eg45_52_19_0 h1
  obtain ⟨z2, e2, X2, q2, p2⟩ := ew_cp113_55 a2
  injection e2 with e2 i2
  subst i2
  have h2 := b2 e2 X2
  have s2 : ef_s [52, 54, 55] w y2 := ef_s_trans s1 (ef_s_mono q2 (by decide))
  have f2_0 : ec_fd y2 52 0 = ec_fd w 110 0 := (ef_s_f q2 (by decide) 0).trans f1_0
  have g2_54 : ef_a y2 54 = ef_a w 112 := (ef_s_a q2 (by decide)).trans g1_54
  have g2_55 : ef_a y2 55 = ef_a w 113 := p2.trans (ef_s_a s1 (by decide))
  obtain ⟨_, hr, hW⟩ := eg45_52_30_0 h2
  exact ⟨_, hr, hW, s2, g2_54, g2_55, f2_0⟩
/-- all of it -/
def ef_kept (w w' : px_W) : Prop := ef_s [59, 60, 61, 62, 63, 64, 65, 68, 69, 70, 71, 72, 73, 74, 75, 76, 77, 78, 79, 80, 81, 82, 83, 84, 85, 87, 88, 89, 90, 91, 92, 93, 94, 95, 96, 97, 98, 99, 100, 101, 102, 103, 104, 105, 106, 107, 108, 109, 110, 112, 113, 0] w w' ∧ ef_a w' 60 = ef_a w 2 ∧ ef_a w' 61 = ef_a w 3 ∧ ef_a w' 62 = ef_a w 4 ∧ ef_a w' 63 = ef_a w 5 ∧ ef_a w' 64 = ef_a w 6 ∧ ef_a w' 65 = ef_a w 7 ∧ ec_fd w' 59 0 = ec_fd w 1 0 ∧ ec_fd w' 59 1 = ec_fd w 1 1 ∧ ef_a w' 69 = ef_a w 11 ∧ ef_a w' 70 = ef_a w 12 ∧ ef_a w' 71 = ef_a w 13 ∧ ef_a w' 72 = ef_a w 14 ∧ ec_fd w' 68 0 = ec_fd w 10 0 ∧ ef_a w' 74 = ef_a w 16 ∧ ef_a w' 75 = ef_a w 17 ∧ ef_a w' 76 = ef_a w 18 ∧ ef_a w' 77 = ef_a w 19 ∧ ef_a w' 78 = ef_a w 20 ∧ ef_a w' 79 = ef_a w 21 ∧ ef_a w' 80 = ef_a w 22 ∧ ef_a w' 81 = ef_a w 23 ∧ ef_a w' 82 = ef_a w 24 ∧ ef_a w' 83 = ef_a w 25 ∧ ef_a w' 84 = ef_a w 26 ∧ ef_a w' 85 = ef_a w 27 ∧ ec_fd w' 73 0 = ec_fd w 15 0 ∧ ec_fd w' 73 5 = ec_fd w 15 5 ∧ ec_fd w' 73 10 = ec_fd w 15 10 ∧ ef_a w' 88 = ef_a w 30 ∧ ef_a w' 89 = ef_a w 31 ∧ ef_a w' 90 = ef_a w 32 ∧ ef_a w' 91 = ef_a w 33 ∧ ef_a w' 92 = ef_a w 34 ∧ ef_a w' 93 = ef_a w 35 ∧ ef_a w' 94 = ef_a w 36 ∧ ef_a w' 95 = ef_a w 37 ∧ ef_a w' 96 = ef_a w 38 ∧ ec_fd w' 87 0 = ec_fd w 29 0 ∧ ec_fd w' 87 1 = ec_fd w 29 1 ∧ ec_fd w' 87 7 = ec_fd w 29 7 ∧ ec_fd w' 87 9 = ec_fd w 29 9 ∧ ef_a w' 98 = ef_a w 40 ∧ ef_a w' 99 = ef_a w 41 ∧ ef_a w' 100 = ef_a w 42 ∧ ef_a w' 101 = ef_a w 43 ∧ ec_fd w' 97 1 = ec_fd w 39 1 ∧ ef_a w' 103 = ef_a w 45 ∧ ef_a w' 104 = ef_a w 46 ∧ ef_a w' 105 = ef_a w 47 ∧ ef_a w' 106 = ef_a w 48 ∧ ef_a w' 107 = ef_a w 49 ∧ ef_a w' 108 = ef_a w 50 ∧ ef_a w' 109 = ef_a w 51 ∧ ec_fd w' 102 0 = ec_fd w 44 0 ∧ ef_a w' 112 = ef_a w 54 ∧ ef_a w' 113 = ef_a w 55 ∧ ec_fd w' 110 0 = ec_fd w 52 0
theorem ew_keepA {n : Nat} {w : px_W} {r : Option Value × px_W} (h : ec_E hb_X n 171 0 [(0, .inr (.inl 64))] [] w r) : ∃ w' : px_W, r = (ec_R 1, w') ∧ ec_W hb_A w' ∧ ec_fd w' 0 14 = 1 ∧ ef_kept w w' := by
  have r0 : ef_s [59, 60, 61, 62, 63, 64, 65, 68, 69, 70, 71, 72, 73, 74, 75, 76, 77, 78, 79, 80, 81, 82, 83, 84, 85, 87, 88, 89, 90, 91, 92, 93, 94, 95, 96, 97, 98, 99, 100, 101, 102, 103, 104, 105, 106, 107, 108, 109, 110, 112, 113] w w := ef_s_refl
  obtain ⟨_, v1, y1, a1, b1⟩ := eg171_0_0_0 h
  obtain ⟨z1, e1, X1, q1, m1_0, m1_1, m1_2, m1_3, m1_4, m1_5, m1_6, m1_7⟩ := ew_cf32_59 a1
  injection e1 with e1 i1
  subst i1
  have h1 := b1 e1 X1
  have N1_0p1 := m1_0.trans (ef_s_a r0 (by decide : 2 ∉ [59, 60, 61, 62, 63, 64, 65, 68, 69, 70, 71, 72, 73, 74, 75, 76, 77, 78, 79, 80, 81, 82, 83, 84, 85, 87, 88, 89, 90, 91, 92, 93, 94, 95, 96, 97, 98, 99, 100, 101, 102, 103, 104, 105, 106, 107, 108, 109, 110, 112, 113]))
  have N1_1p1 := m1_1.trans (ef_s_a r0 (by decide : 3 ∉ [59, 60, 61, 62, 63, 64, 65, 68, 69, 70, 71, 72, 73, 74, 75, 76, 77, 78, 79, 80, 81, 82, 83, 84, 85, 87, 88, 89, 90, 91, 92, 93, 94, 95, 96, 97, 98, 99, 100, 101, 102, 103, 104, 105, 106, 107, 108, 109, 110, 112, 113]))
  have N1_2p1 := m1_2.trans (ef_s_a r0 (by decide : 4 ∉ [59, 60, 61, 62, 63, 64, 65, 68, 69, 70, 71, 72, 73, 74, 75, 76, 77, 78, 79, 80, 81, 82, 83, 84, 85, 87, 88, 89, 90, 91, 92, 93, 94, 95, 96, 97, 98, 99, 100, 101, 102, 103, 104, 105, 106, 107, 108, 109, 110, 112, 113]))
  have N1_3p1 := m1_3.trans (ef_s_a r0 (by decide : 5 ∉ [59, 60, 61, 62, 63, 64, 65, 68, 69, 70, 71, 72, 73, 74, 75, 76, 77, 78, 79, 80, 81, 82, 83, 84, 85, 87, 88, 89, 90, 91, 92, 93, 94, 95, 96, 97, 98, 99, 100, 101, 102, 103, 104, 105, 106, 107, 108, 109, 110, 112, 113]))
  have N1_4p1 := m1_4.trans (ef_s_a r0 (by decide : 6 ∉ [59, 60, 61, 62, 63, 64, 65, 68, 69, 70, 71, 72, 73, 74, 75, 76, 77, 78, 79, 80, 81, 82, 83, 84, 85, 87, 88, 89, 90, 91, 92, 93, 94, 95, 96, 97, 98, 99, 100, 101, 102, 103, 104, 105, 106, 107, 108, 109, 110, 112, 113]))
  have N1_5p1 := m1_5.trans (ef_s_a r0 (by decide : 7 ∉ [59, 60, 61, 62, 63, 64, 65, 68, 69, 70, 71, 72, 73, 74, 75, 76, 77, 78, 79, 80, 81, 82, 83, 84, 85, 87, 88, 89, 90, 91, 92, 93, 94, 95, 96, 97, 98, 99, 100, 101, 102, 103, 104, 105, 106, 107, 108, 109, 110, 112, 113]))
  have N1_6p1 := m1_6.trans (ef_s_f r0 (by decide : 1 ∉ [59, 60, 61, 62, 63, 64, 65, 68, 69, 70, 71, 72, 73, 74, 75, 76, 77, 78, 79, 80, 81, 82, 83, 84, 85, 87, 88, 89, 90, 91, 92, 93, 94, 95, 96, 97, 98, 99, 100, 101, 102, 103, 104, 105, 106, 107, 108, 109, 110, 112, 113]) 0)
  have N1_7p1 := m1_7.trans (ef_s_f r0 (by decide : 1 ∉ [59, 60, 61, 62, 63, 64, 65, 68, 69, 70, 71, 72, 73, 74, 75, 76, 77, 78, 79, 80, 81, 82, 83, 84, 85, 87, 88, 89, 90, 91, 92, 93, 94, 95, 96, 97, 98, 99, 100, 101, 102, 103, 104, 105, 106, 107, 108, 109, 110, 112, 113]) 1)
  have s1 : ef_s [59, 60, 61, 62, 63, 64, 65, 68, 69, 70, 71, 72, 73, 74, 75, 76, 77, 78, 79, 80, 81, 82, 83, 84, 85, 87, 88, 89, 90, 91, 92, 93, 94, 95, 96, 97, 98, 99, 100, 101, 102, 103, 104, 105, 106, 107, 108, 109, 110, 112, 113] w y1 := ef_s_trans r0 (ef_s_mono q1 (by decide))
  obtain ⟨_, v2, y2, a2, b2⟩ := eg171_0_11_0 h1
  obtain ⟨z2, e2, X2, q2, m2_0, m2_1, m2_2, m2_3, m2_4⟩ := ew_cf109_68 a2
  injection e2 with e2 i2
  subst i2
  have h2 := b2 e2 X2
  have N1_0p2 := (ef_s_a q2 (by decide)).trans N1_0p1
  have N1_1p2 := (ef_s_a q2 (by decide)).trans N1_1p1
  have N1_2p2 := (ef_s_a q2 (by decide)).trans N1_2p1
  have N1_3p2 := (ef_s_a q2 (by decide)).trans N1_3p1
  have N1_4p2 := (ef_s_a q2 (by decide)).trans N1_4p1
  have N1_5p2 := (ef_s_a q2 (by decide)).trans N1_5p1
  have N1_6p2 := (ef_s_f q2 (by decide) 0).trans N1_6p1
  have N1_7p2 := (ef_s_f q2 (by decide) 1).trans N1_7p1
  have N2_0p2 := m2_0.trans (ef_s_a s1 (by decide : 11 ∉ [59, 60, 61, 62, 63, 64, 65, 68, 69, 70, 71, 72, 73, 74, 75, 76, 77, 78, 79, 80, 81, 82, 83, 84, 85, 87, 88, 89, 90, 91, 92, 93, 94, 95, 96, 97, 98, 99, 100, 101, 102, 103, 104, 105, 106, 107, 108, 109, 110, 112, 113]))
  have N2_1p2 := m2_1.trans (ef_s_a s1 (by decide : 12 ∉ [59, 60, 61, 62, 63, 64, 65, 68, 69, 70, 71, 72, 73, 74, 75, 76, 77, 78, 79, 80, 81, 82, 83, 84, 85, 87, 88, 89, 90, 91, 92, 93, 94, 95, 96, 97, 98, 99, 100, 101, 102, 103, 104, 105, 106, 107, 108, 109, 110, 112, 113]))
  have N2_2p2 := m2_2.trans (ef_s_a s1 (by decide : 13 ∉ [59, 60, 61, 62, 63, 64, 65, 68, 69, 70, 71, 72, 73, 74, 75, 76, 77, 78, 79, 80, 81, 82, 83, 84, 85, 87, 88, 89, 90, 91, 92, 93, 94, 95, 96, 97, 98, 99, 100, 101, 102, 103, 104, 105, 106, 107, 108, 109, 110, 112, 113]))
  have N2_3p2 := m2_3.trans (ef_s_a s1 (by decide : 14 ∉ [59, 60, 61, 62, 63, 64, 65, 68, 69, 70, 71, 72, 73, 74, 75, 76, 77, 78, 79, 80, 81, 82, 83, 84, 85, 87, 88, 89, 90, 91, 92, 93, 94, 95, 96, 97, 98, 99, 100, 101, 102, 103, 104, 105, 106, 107, 108, 109, 110, 112, 113]))
  have N2_4p2 := m2_4.trans (ef_s_f s1 (by decide : 10 ∉ [59, 60, 61, 62, 63, 64, 65, 68, 69, 70, 71, 72, 73, 74, 75, 76, 77, 78, 79, 80, 81, 82, 83, 84, 85, 87, 88, 89, 90, 91, 92, 93, 94, 95, 96, 97, 98, 99, 100, 101, 102, 103, 104, 105, 106, 107, 108, 109, 110, 112, 113]) 0)
  have s2 : ef_s [59, 60, 61, 62, 63, 64, 65, 68, 69, 70, 71, 72, 73, 74, 75, 76, 77, 78, 79, 80, 81, 82, 83, 84, 85, 87, 88, 89, 90, 91, 92, 93, 94, 95, 96, 97, 98, 99, 100, 101, 102, 103, 104, 105, 106, 107, 108, 109, 110, 112, 113] w y2 := ef_s_trans s1 (ef_s_mono q2 (by decide))
  obtain ⟨_, v3, y3, a3, b3⟩ := eg171_0_22_0 h2
  obtain ⟨z3, e3, X3, q3, m3_0, m3_1, m3_2, m3_3, m3_4, m3_5, m3_6, m3_7, m3_8, m3_9, m3_10, m3_11, m3_12, m3_13, m3_14⟩ := ew_cf14_73 a3
  injection e3 with e3 i3
  subst i3
  have h3 := b3 e3 X3
  have N1_0p3 := (ef_s_a q3 (by decide)).trans N1_0p2
  have N1_1p3 := (ef_s_a q3 (by decide)).trans N1_1p2
  have N1_2p3 := (ef_s_a q3 (by decide)).trans N1_2p2
  have N1_3p3 := (ef_s_a q3 (by decide)).trans N1_3p2
  have N1_4p3 := (ef_s_a q3 (by decide)).trans N1_4p2
  have N1_5p3 := (ef_s_a q3 (by decide)).trans N1_5p2
  have N1_6p3 := (ef_s_f q3 (by decide) 0).trans N1_6p2
  have N1_7p3 := (ef_s_f q3 (by decide) 1).trans N1_7p2
  have N2_0p3 := (ef_s_a q3 (by decide)).trans N2_0p2
  have N2_1p3 := (ef_s_a q3 (by decide)).trans N2_1p2
  have N2_2p3 := (ef_s_a q3 (by decide)).trans N2_2p2
  have N2_3p3 := (ef_s_a q3 (by decide)).trans N2_3p2
  have N2_4p3 := (ef_s_f q3 (by decide) 0).trans N2_4p2
  have N3_0p3 := m3_0.trans (ef_s_a s2 (by decide : 16 ∉ [59, 60, 61, 62, 63, 64, 65, 68, 69, 70, 71, 72, 73, 74, 75, 76, 77, 78, 79, 80, 81, 82, 83, 84, 85, 87, 88, 89, 90, 91, 92, 93, 94, 95, 96, 97, 98, 99, 100, 101, 102, 103, 104, 105, 106, 107, 108, 109, 110, 112, 113]))
  have N3_1p3 := m3_1.trans (ef_s_a s2 (by decide : 17 ∉ [59, 60, 61, 62, 63, 64, 65, 68, 69, 70, 71, 72, 73, 74, 75, 76, 77, 78, 79, 80, 81, 82, 83, 84, 85, 87, 88, 89, 90, 91, 92, 93, 94, 95, 96, 97, 98, 99, 100, 101, 102, 103, 104, 105, 106, 107, 108, 109, 110, 112, 113]))
  have N3_2p3 := m3_2.trans (ef_s_a s2 (by decide : 18 ∉ [59, 60, 61, 62, 63, 64, 65, 68, 69, 70, 71, 72, 73, 74, 75, 76, 77, 78, 79, 80, 81, 82, 83, 84, 85, 87, 88, 89, 90, 91, 92, 93, 94, 95, 96, 97, 98, 99, 100, 101, 102, 103, 104, 105, 106, 107, 108, 109, 110, 112, 113]))
  have N3_3p3 := m3_3.trans (ef_s_a s2 (by decide : 19 ∉ [59, 60, 61, 62, 63, 64, 65, 68, 69, 70, 71, 72, 73, 74, 75, 76, 77, 78, 79, 80, 81, 82, 83, 84, 85, 87, 88, 89, 90, 91, 92, 93, 94, 95, 96, 97, 98, 99, 100, 101, 102, 103, 104, 105, 106, 107, 108, 109, 110, 112, 113]))
  have N3_4p3 := m3_4.trans (ef_s_a s2 (by decide : 20 ∉ [59, 60, 61, 62, 63, 64, 65, 68, 69, 70, 71, 72, 73, 74, 75, 76, 77, 78, 79, 80, 81, 82, 83, 84, 85, 87, 88, 89, 90, 91, 92, 93, 94, 95, 96, 97, 98, 99, 100, 101, 102, 103, 104, 105, 106, 107, 108, 109, 110, 112, 113]))
  have N3_5p3 := m3_5.trans (ef_s_a s2 (by decide : 21 ∉ [59, 60, 61, 62, 63, 64, 65, 68, 69, 70, 71, 72, 73, 74, 75, 76, 77, 78, 79, 80, 81, 82, 83, 84, 85, 87, 88, 89, 90, 91, 92, 93, 94, 95, 96, 97, 98, 99, 100, 101, 102, 103, 104, 105, 106, 107, 108, 109, 110, 112, 113]))
  have N3_6p3 := m3_6.trans (ef_s_a s2 (by decide : 22 ∉ [59, 60, 61, 62, 63, 64, 65, 68, 69, 70, 71, 72, 73, 74, 75, 76, 77, 78, 79, 80, 81, 82, 83, 84, 85, 87, 88, 89, 90, 91, 92, 93, 94, 95, 96, 97, 98, 99, 100, 101, 102, 103, 104, 105, 106, 107, 108, 109, 110, 112, 113]))
  have N3_7p3 := m3_7.trans (ef_s_a s2 (by decide : 23 ∉ [59, 60, 61, 62, 63, 64, 65, 68, 69, 70, 71, 72, 73, 74, 75, 76, 77, 78, 79, 80, 81, 82, 83, 84, 85, 87, 88, 89, 90, 91, 92, 93, 94, 95, 96, 97, 98, 99, 100, 101, 102, 103, 104, 105, 106, 107, 108, 109, 110, 112, 113]))
  have N3_8p3 := m3_8.trans (ef_s_a s2 (by decide : 24 ∉ [59, 60, 61, 62, 63, 64, 65, 68, 69, 70, 71, 72, 73, 74, 75, 76, 77, 78, 79, 80, 81, 82, 83, 84, 85, 87, 88, 89, 90, 91, 92, 93, 94, 95, 96, 97, 98, 99, 100, 101, 102, 103, 104, 105, 106, 107, 108, 109, 110, 112, 113]))
  have N3_9p3 := m3_9.trans (ef_s_a s2 (by decide : 25 ∉ [59, 60, 61, 62, 63, 64, 65, 68, 69, 70, 71, 72, 73, 74, 75, 76, 77, 78, 79, 80, 81, 82, 83, 84, 85, 87, 88, 89, 90, 91, 92, 93, 94, 95, 96, 97, 98, 99, 100, 101, 102, 103, 104, 105, 106, 107, 108, 109, 110, 112, 113]))
  have N3_10p3 := m3_10.trans (ef_s_a s2 (by decide : 26 ∉ [59, 60, 61, 62, 63, 64, 65, 68, 69, 70, 71, 72, 73, 74, 75, 76, 77, 78, 79, 80, 81, 82, 83, 84, 85, 87, 88, 89, 90, 91, 92, 93, 94, 95, 96, 97, 98, 99, 100, 101, 102, 103, 104, 105, 106, 107, 108, 109, 110, 112, 113]))
  have N3_11p3 := m3_11.trans (ef_s_a s2 (by decide : 27 ∉ [59, 60, 61, 62, 63, 64, 65, 68, 69, 70, 71, 72, 73, 74, 75, 76, 77, 78, 79, 80, 81, 82, 83, 84, 85, 87, 88, 89, 90, 91, 92, 93, 94, 95, 96, 97, 98, 99, 100, 101, 102, 103, 104, 105, 106, 107, 108, 109, 110, 112, 113]))
  have N3_12p3 := m3_12.trans (ef_s_f s2 (by decide : 15 ∉ [59, 60, 61, 62, 63, 64, 65, 68, 69, 70, 71, 72, 73, 74, 75, 76, 77, 78, 79, 80, 81, 82, 83, 84, 85, 87, 88, 89, 90, 91, 92, 93, 94, 95, 96, 97, 98, 99, 100, 101, 102, 103, 104, 105, 106, 107, 108, 109, 110, 112, 113]) 0)
  have N3_13p3 := m3_13.trans (ef_s_f s2 (by decide : 15 ∉ [59, 60, 61, 62, 63, 64, 65, 68, 69, 70, 71, 72, 73, 74, 75, 76, 77, 78, 79, 80, 81, 82, 83, 84, 85, 87, 88, 89, 90, 91, 92, 93, 94, 95, 96, 97, 98, 99, 100, 101, 102, 103, 104, 105, 106, 107, 108, 109, 110, 112, 113]) 5)
  have N3_14p3 := m3_14.trans (ef_s_f s2 (by decide : 15 ∉ [59, 60, 61, 62, 63, 64, 65, 68, 69, 70, 71, 72, 73, 74, 75, 76, 77, 78, 79, 80, 81, 82, 83, 84, 85, 87, 88, 89, 90, 91, 92, 93, 94, 95, 96, 97, 98, 99, 100, 101, 102, 103, 104, 105, 106, 107, 108, 109, 110, 112, 113]) 10)
  have s3 : ef_s [59, 60, 61, 62, 63, 64, 65, 68, 69, 70, 71, 72, 73, 74, 75, 76, 77, 78, 79, 80, 81, 82, 83, 84, 85, 87, 88, 89, 90, 91, 92, 93, 94, 95, 96, 97, 98, 99, 100, 101, 102, 103, 104, 105, 106, 107, 108, 109, 110, 112, 113] w y3 := ef_s_trans s2 (ef_s_mono q3 (by decide))
  obtain ⟨_, v4, y4, a4, b4⟩ := eg171_0_33_0 h3
  obtain ⟨z4, e4, X4, q4, m4_0, m4_1, m4_2, m4_3, m4_4, m4_5, m4_6, m4_7, m4_8, m4_9, m4_10, m4_11, m4_12⟩ := ew_cf87_87 a4
  injection e4 with e4 i4
  subst i4
  have h4 := b4 e4 X4
  have N1_0p4 := (ef_s_a q4 (by decide)).trans N1_0p3
  have N1_1p4 := (ef_s_a q4 (by decide)).trans N1_1p3
  have N1_2p4 := (ef_s_a q4 (by decide)).trans N1_2p3
  have N1_3p4 := (ef_s_a q4 (by decide)).trans N1_3p3
  have N1_4p4 := (ef_s_a q4 (by decide)).trans N1_4p3
  have N1_5p4 := (ef_s_a q4 (by decide)).trans N1_5p3
  have N1_6p4 := (ef_s_f q4 (by decide) 0).trans N1_6p3
  have N1_7p4 := (ef_s_f q4 (by decide) 1).trans N1_7p3
  have N2_0p4 := (ef_s_a q4 (by decide)).trans N2_0p3
  have N2_1p4 := (ef_s_a q4 (by decide)).trans N2_1p3
  have N2_2p4 := (ef_s_a q4 (by decide)).trans N2_2p3
  have N2_3p4 := (ef_s_a q4 (by decide)).trans N2_3p3
  have N2_4p4 := (ef_s_f q4 (by decide) 0).trans N2_4p3
  have N3_0p4 := (ef_s_a q4 (by decide)).trans N3_0p3
  have N3_1p4 := (ef_s_a q4 (by decide)).trans N3_1p3
  have N3_2p4 := (ef_s_a q4 (by decide)).trans N3_2p3
  have N3_3p4 := (ef_s_a q4 (by decide)).trans N3_3p3
  have N3_4p4 := (ef_s_a q4 (by decide)).trans N3_4p3
  have N3_5p4 := (ef_s_a q4 (by decide)).trans N3_5p3
  have N3_6p4 := (ef_s_a q4 (by decide)).trans N3_6p3
  have N3_7p4 := (ef_s_a q4 (by decide)).trans N3_7p3
  have N3_8p4 := (ef_s_a q4 (by decide)).trans N3_8p3
  have N3_9p4 := (ef_s_a q4 (by decide)).trans N3_9p3
  have N3_10p4 := (ef_s_a q4 (by decide)).trans N3_10p3
  have N3_11p4 := (ef_s_a q4 (by decide)).trans N3_11p3
  have N3_12p4 := (ef_s_f q4 (by decide) 0).trans N3_12p3
  have N3_13p4 := (ef_s_f q4 (by decide) 5).trans N3_13p3
  have N3_14p4 := (ef_s_f q4 (by decide) 10).trans N3_14p3
  have N4_0p4 := m4_0.trans (ef_s_a s3 (by decide : 30 ∉ [59, 60, 61, 62, 63, 64, 65, 68, 69, 70, 71, 72, 73, 74, 75, 76, 77, 78, 79, 80, 81, 82, 83, 84, 85, 87, 88, 89, 90, 91, 92, 93, 94, 95, 96, 97, 98, 99, 100, 101, 102, 103, 104, 105, 106, 107, 108, 109, 110, 112, 113]))
  have N4_1p4 := m4_1.trans (ef_s_a s3 (by decide : 31 ∉ [59, 60, 61, 62, 63, 64, 65, 68, 69, 70, 71, 72, 73, 74, 75, 76, 77, 78, 79, 80, 81, 82, 83, 84, 85, 87, 88, 89, 90, 91, 92, 93, 94, 95, 96, 97, 98, 99, 100, 101, 102, 103, 104, 105, 106, 107, 108, 109, 110, 112, 113]))
  have N4_2p4 := m4_2.trans (ef_s_a s3 (by decide : 32 ∉ [59, 60, 61, 62, 63, 64, 65, 68, 69, 70, 71, 72, 73, 74, 75, 76, 77, 78, 79, 80, 81, 82, 83, 84, 85, 87, 88, 89, 90, 91, 92, 93, 94, 95, 96, 97, 98, 99, 100, 101, 102, 103, 104, 105, 106, 107, 108, 109, 110, 112, 113]))
  have N4_3p4 := m4_3.trans (ef_s_a s3 (by decide : 33 ∉ [59, 60, 61, 62, 63, 64, 65, 68, 69, 70, 71, 72, 73, 74, 75, 76, 77, 78, 79, 80, 81, 82, 83, 84, 85, 87, 88, 89, 90, 91, 92, 93, 94, 95, 96, 97, 98, 99, 100, 101, 102, 103, 104, 105, 106, 107, 108, 109, 110, 112, 113]))
  have N4_4p4 := m4_4.trans (ef_s_a s3 (by decide : 34 ∉ [59, 60, 61, 62, 63, 64, 65, 68, 69, 70, 71, 72, 73, 74, 75, 76, 77, 78, 79, 80, 81, 82, 83, 84, 85, 87, 88, 89, 90, 91, 92, 93, 94, 95, 96, 97, 98, 99, 100, 101, 102, 103, 104, 105, 106, 107, 108, 109, 110, 112, 113]))
  have N4_5p4 := m4_5.trans (ef_s_a s3 (by decide : 35 ∉ [59, 60, 61, 62, 63, 64, 65, 68, 69, 70, 71, 72, 73, 74, 75, 76, 77, 78, 79, 80, 81, 82, 83, 84, 85, 87, 88, 89, 90, 91, 92, 93, 94, 95, 96, 97, 98, 99, 100, 101, 102, 103, 104, 105, 106, 107, 108, 109, 110, 112, 113]))
  have N4_6p4 := m4_6.trans (ef_s_a s3 (by decide : 36 ∉ [59, 60, 61, 62, 63, 64, 65, 68, 69, 70, 71, 72, 73, 74, 75, 76, 77, 78, 79, 80, 81, 82, 83, 84, 85, 87, 88, 89, 90, 91, 92, 93, 94, 95, 96, 97, 98, 99, 100, 101, 102, 103, 104, 105, 106, 107, 108, 109, 110, 112, 113]))
  have N4_7p4 := m4_7.trans (ef_s_a s3 (by decide : 37 ∉ [59, 60, 61, 62, 63, 64, 65, 68, 69, 70, 71, 72, 73, 74, 75, 76, 77, 78, 79, 80, 81, 82, 83, 84, 85, 87, 88, 89, 90, 91, 92, 93, 94, 95, 96, 97, 98, 99, 100, 101, 102, 103, 104, 105, 106, 107, 108, 109, 110, 112, 113]))
  have N4_8p4 := m4_8.trans (ef_s_a s3 (by decide : 38 ∉ [59, 60, 61, 62, 63, 64, 65, 68, 69, 70, 71, 72, 73, 74, 75, 76, 77, 78, 79, 80, 81, 82, 83, 84, 85, 87, 88, 89, 90, 91, 92, 93, 94, 95, 96, 97, 98, 99, 100, 101, 102, 103, 104, 105, 106, 107, 108, 109, 110, 112, 113]))
  have N4_9p4 := m4_9.trans (ef_s_f s3 (by decide : 29 ∉ [59, 60, 61, 62, 63, 64, 65, 68, 69, 70, 71, 72, 73, 74, 75, 76, 77, 78, 79, 80, 81, 82, 83, 84, 85, 87, 88, 89, 90, 91, 92, 93, 94, 95, 96, 97, 98, 99, 100, 101, 102, 103, 104, 105, 106, 107, 108, 109, 110, 112, 113]) 0)
  have N4_10p4 := m4_10.trans (ef_s_f s3 (by decide : 29 ∉ [59, 60, 61, 62, 63, 64, 65, 68, 69, 70, 71, 72, 73, 74, 75, 76, 77, 78, 79, 80, 81, 82, 83, 84, 85, 87, 88, 89, 90, 91, 92, 93, 94, 95, 96, 97, 98, 99, 100, 101, 102, 103, 104, 105, 106, 107, 108, 109, 110, 112, 113]) 1)
  have N4_11p4 := m4_11.trans (ef_s_f s3 (by decide : 29 ∉ [59, 60, 61, 62, 63, 64, 65, 68, 69, 70, 71, 72, 73, 74, 75, 76, 77, 78, 79, 80, 81, 82, 83, 84, 85, 87, 88, 89, 90, 91, 92, 93, 94, 95, 96, 97, 98, 99, 100, 101, 102, 103, 104, 105, 106, 107, 108, 109, 110, 112, 113]) 7)
  have N4_12p4 := m4_12.trans (ef_s_f s3 (by decide : 29 ∉ [59, 60, 61, 62, 63, 64, 65, 68, 69, 70, 71, 72, 73, 74, 75, 76, 77, 78, 79, 80, 81, 82, 83, 84, 85, 87, 88, 89, 90, 91, 92, 93, 94, 95, 96, 97, 98, 99, 100, 101, 102, 103, 104, 105, 106, 107, 108, 109, 110, 112, 113]) 9)
  have s4 : ef_s [59, 60, 61, 62, 63, 64, 65, 68, 69, 70, 71, 72, 73, 74, 75, 76, 77, 78, 79, 80, 81, 82, 83, 84, 85, 87, 88, 89, 90, 91, 92, 93, 94, 95, 96, 97, 98, 99, 100, 101, 102, 103, 104, 105, 106, 107, 108, 109, 110, 112, 113] w y4 := ef_s_trans s3 (ef_s_mono q4 (by decide))
  obtain ⟨_, v5, y5, a5, b5⟩ := eg171_0_44_0 h4
  obtain ⟨z5, e5, X5, q5, m5_0, m5_1, m5_2, m5_3, m5_4⟩ := ew_cf115_97 a5
  injection e5 with e5 i5
  subst i5
  have h5 := b5 e5 X5
  have N1_0p5 := (ef_s_a q5 (by decide)).trans N1_0p4
  have N1_1p5 := (ef_s_a q5 (by decide)).trans N1_1p4
  have N1_2p5 := (ef_s_a q5 (by decide)).trans N1_2p4
  have N1_3p5 := (ef_s_a q5 (by decide)).trans N1_3p4
  have N1_4p5 := (ef_s_a q5 (by decide)).trans N1_4p4
  have N1_5p5 := (ef_s_a q5 (by decide)).trans N1_5p4
  have N1_6p5 := (ef_s_f q5 (by decide) 0).trans N1_6p4
  have N1_7p5 := (ef_s_f q5 (by decide) 1).trans N1_7p4
  have N2_0p5 := (ef_s_a q5 (by decide)).trans N2_0p4
  have N2_1p5 := (ef_s_a q5 (by decide)).trans N2_1p4
  have N2_2p5 := (ef_s_a q5 (by decide)).trans N2_2p4
  have N2_3p5 := (ef_s_a q5 (by decide)).trans N2_3p4
  have N2_4p5 := (ef_s_f q5 (by decide) 0).trans N2_4p4
  have N3_0p5 := (ef_s_a q5 (by decide)).trans N3_0p4
  have N3_1p5 := (ef_s_a q5 (by decide)).trans N3_1p4
  have N3_2p5 := (ef_s_a q5 (by decide)).trans N3_2p4
  have N3_3p5 := (ef_s_a q5 (by decide)).trans N3_3p4
  have N3_4p5 := (ef_s_a q5 (by decide)).trans N3_4p4
  have N3_5p5 := (ef_s_a q5 (by decide)).trans N3_5p4
  have N3_6p5 := (ef_s_a q5 (by decide)).trans N3_6p4
  have N3_7p5 := (ef_s_a q5 (by decide)).trans N3_7p4
  have N3_8p5 := (ef_s_a q5 (by decide)).trans N3_8p4
  have N3_9p5 := (ef_s_a q5 (by decide)).trans N3_9p4
  have N3_10p5 := (ef_s_a q5 (by decide)).trans N3_10p4
  have N3_11p5 := (ef_s_a q5 (by decide)).trans N3_11p4
  have N3_12p5 := (ef_s_f q5 (by decide) 0).trans N3_12p4
  have N3_13p5 := (ef_s_f q5 (by decide) 5).trans N3_13p4
  have N3_14p5 := (ef_s_f q5 (by decide) 10).trans N3_14p4
  have N4_0p5 := (ef_s_a q5 (by decide)).trans N4_0p4
  have N4_1p5 := (ef_s_a q5 (by decide)).trans N4_1p4
  have N4_2p5 := (ef_s_a q5 (by decide)).trans N4_2p4
  have N4_3p5 := (ef_s_a q5 (by decide)).trans N4_3p4
  have N4_4p5 := (ef_s_a q5 (by decide)).trans N4_4p4
  have N4_5p5 := (ef_s_a q5 (by decide)).trans N4_5p4
  have N4_6p5 := (ef_s_a q5 (by decide)).trans N4_6p4
  have N4_7p5 := (ef_s_a q5 (by decide)).trans N4_7p4
  have N4_8p5 := (ef_s_a q5 (by decide)).trans N4_8p4
  have N4_9p5 := (ef_s_f q5 (by decide) 0).trans N4_9p4
  have N4_10p5 := (ef_s_f q5 (by decide) 1).trans N4_10p4
  have N4_11p5 := (ef_s_f q5 (by decide) 7).trans N4_11p4
  have N4_12p5 := (ef_s_f q5 (by decide) 9).trans N4_12p4
  have N5_0p5 := m5_0.trans (ef_s_a s4 (by decide : 40 ∉ [59, 60, 61, 62, 63, 64, 65, 68, 69, 70, 71, 72, 73, 74, 75, 76, 77, 78, 79, 80, 81, 82, 83, 84, 85, 87, 88, 89, 90, 91, 92, 93, 94, 95, 96, 97, 98, 99, 100, 101, 102, 103, 104, 105, 106, 107, 108, 109, 110, 112, 113]))
  have N5_1p5 := m5_1.trans (ef_s_a s4 (by decide : 41 ∉ [59, 60, 61, 62, 63, 64, 65, 68, 69, 70, 71, 72, 73, 74, 75, 76, 77, 78, 79, 80, 81, 82, 83, 84, 85, 87, 88, 89, 90, 91, 92, 93, 94, 95, 96, 97, 98, 99, 100, 101, 102, 103, 104, 105, 106, 107, 108, 109, 110, 112, 113]))
  have N5_2p5 := m5_2.trans (ef_s_a s4 (by decide : 42 ∉ [59, 60, 61, 62, 63, 64, 65, 68, 69, 70, 71, 72, 73, 74, 75, 76, 77, 78, 79, 80, 81, 82, 83, 84, 85, 87, 88, 89, 90, 91, 92, 93, 94, 95, 96, 97, 98, 99, 100, 101, 102, 103, 104, 105, 106, 107, 108, 109, 110, 112, 113]))
  have N5_3p5 := m5_3.trans (ef_s_a s4 (by decide : 43 ∉ [59, 60, 61, 62, 63, 64, 65, 68, 69, 70, 71, 72, 73, 74, 75, 76, 77, 78, 79, 80, 81, 82, 83, 84, 85, 87, 88, 89, 90, 91, 92, 93, 94, 95, 96, 97, 98, 99, 100, 101, 102, 103, 104, 105, 106, 107, 108, 109, 110, 112, 113]))
  have N5_4p5 := m5_4.trans (ef_s_f s4 (by decide : 39 ∉ [59, 60, 61, 62, 63, 64, 65, 68, 69, 70, 71, 72, 73, 74, 75, 76, 77, 78, 79, 80, 81, 82, 83, 84, 85, 87, 88, 89, 90, 91, 92, 93, 94, 95, 96, 97, 98, 99, 100, 101, 102, 103, 104, 105, 106, 107, 108, 109, 110, 112, 113]) 1)
  have s5 : ef_s [59, 60, 61, 62, 63, 64, 65, 68, 69, 70, 71, 72, 73, 74, 75, 76, 77, 78, 79, 80, 81, 82, 83, 84, 85, 87, 88, 89, 90, 91, 92, 93, 94, 95, 96, 97, 98, 99, 100, 101, 102, 103, 104, 105, 106, 107, 108, 109, 110, 112, 113] w y5 := ef_s_trans s4 (ef_s_mono q5 (by decide))
  obtain ⟨_, v6, y6, a6, b6⟩ := eg171_0_55_0 h5
  obtain ⟨z6, e6, X6, q6, m6_0, m6_1, m6_2, m6_3, m6_4, m6_5, m6_6, m6_7⟩ := ew_cf73_102 a6
  injection e6 with e6 i6
  subst i6
  have h6 := b6 e6 X6
  have N1_0p6 := (ef_s_a q6 (by decide)).trans N1_0p5
  have N1_1p6 := (ef_s_a q6 (by decide)).trans N1_1p5
  have N1_2p6 := (ef_s_a q6 (by decide)).trans N1_2p5
  have N1_3p6 := (ef_s_a q6 (by decide)).trans N1_3p5
  have N1_4p6 := (ef_s_a q6 (by decide)).trans N1_4p5
  have N1_5p6 := (ef_s_a q6 (by decide)).trans N1_5p5
  have N1_6p6 := (ef_s_f q6 (by decide) 0).trans N1_6p5
  have N1_7p6 := (ef_s_f q6 (by decide) 1).trans N1_7p5
  have N2_0p6 := (ef_s_a q6 (by decide)).trans N2_0p5
  have N2_1p6 := (ef_s_a q6 (by decide)).trans N2_1p5
  have N2_2p6 := (ef_s_a q6 (by decide)).trans N2_2p5
  have N2_3p6 := (ef_s_a q6 (by decide)).trans N2_3p5
  have N2_4p6 := (ef_s_f q6 (by decide) 0).trans N2_4p5
  have N3_0p6 := (ef_s_a q6 (by decide)).trans N3_0p5
  have N3_1p6 := (ef_s_a q6 (by decide)).trans N3_1p5
  have N3_2p6 := (ef_s_a q6 (by decide)).trans N3_2p5
  have N3_3p6 := (ef_s_a q6 (by decide)).trans N3_3p5
  have N3_4p6 := (ef_s_a q6 (by decide)).trans N3_4p5
  have N3_5p6 := (ef_s_a q6 (by decide)).trans N3_5p5
  have N3_6p6 := (ef_s_a q6 (by decide)).trans N3_6p5
  have N3_7p6 := (ef_s_a q6 (by decide)).trans N3_7p5
  have N3_8p6 := (ef_s_a q6 (by decide)).trans N3_8p5
  have N3_9p6 := (ef_s_a q6 (by decide)).trans N3_9p5
  have N3_10p6 := (ef_s_a q6 (by decide)).trans N3_10p5
  have N3_11p6 := (ef_s_a q6 (by decide)).trans N3_11p5
  have N3_12p6 := (ef_s_f q6 (by decide) 0).trans N3_12p5
  have N3_13p6 := (ef_s_f q6 (by decide) 5).trans N3_13p5
  have N3_14p6 := (ef_s_f q6 (by decide) 10).trans N3_14p5
  have N4_0p6 := (ef_s_a q6 (by decide)).trans N4_0p5
  have N4_1p6 := (ef_s_a q6 (by decide)).trans N4_1p5
  have N4_2p6 := (ef_s_a q6 (by decide)).trans N4_2p5
  have N4_3p6 := (ef_s_a q6 (by decide)).trans N4_3p5
  have N4_4p6 := (ef_s_a q6 (by decide)).trans N4_4p5
  have N4_5p6 := (ef_s_a q6 (by decide)).trans N4_5p5
  have N4_6p6 := (ef_s_a q6 (by decide)).trans N4_6p5
  have N4_7p6 := (ef_s_a q6 (by decide)).trans N4_7p5
  have N4_8p6 := (ef_s_a q6 (by decide)).trans N4_8p5
  have N4_9p6 := (ef_s_f q6 (by decide) 0).trans N4_9p5
  have N4_10p6 := (ef_s_f q6 (by decide) 1).trans N4_10p5
  have N4_11p6 := (ef_s_f q6 (by decide) 7).trans N4_11p5
  have N4_12p6 := (ef_s_f q6 (by decide) 9).trans N4_12p5
  have N5_0p6 := (ef_s_a q6 (by decide)).trans N5_0p5
  have N5_1p6 := (ef_s_a q6 (by decide)).trans N5_1p5
  have N5_2p6 := (ef_s_a q6 (by decide)).trans N5_2p5
  have N5_3p6 := (ef_s_a q6 (by decide)).trans N5_3p5
  have N5_4p6 := (ef_s_f q6 (by decide) 1).trans N5_4p5
  have N6_0p6 := m6_0.trans (ef_s_a s5 (by decide : 45 ∉ [59, 60, 61, 62, 63, 64, 65, 68, 69, 70, 71, 72, 73, 74, 75, 76, 77, 78, 79, 80, 81, 82, 83, 84, 85, 87, 88, 89, 90, 91, 92, 93, 94, 95, 96, 97, 98, 99, 100, 101, 102, 103, 104, 105, 106, 107, 108, 109, 110, 112, 113]))
  have N6_1p6 := m6_1.trans (ef_s_a s5 (by decide : 46 ∉ [59, 60, 61, 62, 63, 64, 65, 68, 69, 70, 71, 72, 73, 74, 75, 76, 77, 78, 79, 80, 81, 82, 83, 84, 85, 87, 88, 89, 90, 91, 92, 93, 94, 95, 96, 97, 98, 99, 100, 101, 102, 103, 104, 105, 106, 107, 108, 109, 110, 112, 113]))
  have N6_2p6 := m6_2.trans (ef_s_a s5 (by decide : 47 ∉ [59, 60, 61, 62, 63, 64, 65, 68, 69, 70, 71, 72, 73, 74, 75, 76, 77, 78, 79, 80, 81, 82, 83, 84, 85, 87, 88, 89, 90, 91, 92, 93, 94, 95, 96, 97, 98, 99, 100, 101, 102, 103, 104, 105, 106, 107, 108, 109, 110, 112, 113]))
  have N6_3p6 := m6_3.trans (ef_s_a s5 (by decide : 48 ∉ [59, 60, 61, 62, 63, 64, 65, 68, 69, 70, 71, 72, 73, 74, 75, 76, 77, 78, 79, 80, 81, 82, 83, 84, 85, 87, 88, 89, 90, 91, 92, 93, 94, 95, 96, 97, 98, 99, 100, 101, 102, 103, 104, 105, 106, 107, 108, 109, 110, 112, 113]))
  have N6_4p6 := m6_4.trans (ef_s_a s5 (by decide : 49 ∉ [59, 60, 61, 62, 63, 64, 65, 68, 69, 70, 71, 72, 73, 74, 75, 76, 77, 78, 79, 80, 81, 82, 83, 84, 85, 87, 88, 89, 90, 91, 92, 93, 94, 95, 96, 97, 98, 99, 100, 101, 102, 103, 104, 105, 106, 107, 108, 109, 110, 112, 113]))
  have N6_5p6 := m6_5.trans (ef_s_a s5 (by decide : 50 ∉ [59, 60, 61, 62, 63, 64, 65, 68, 69, 70, 71, 72, 73, 74, 75, 76, 77, 78, 79, 80, 81, 82, 83, 84, 85, 87, 88, 89, 90, 91, 92, 93, 94, 95, 96, 97, 98, 99, 100, 101, 102, 103, 104, 105, 106, 107, 108, 109, 110, 112, 113]))
  have N6_6p6 := m6_6.trans (ef_s_a s5 (by decide : 51 ∉ [59, 60, 61, 62, 63, 64, 65, 68, 69, 70, 71, 72, 73, 74, 75, 76, 77, 78, 79, 80, 81, 82, 83, 84, 85, 87, 88, 89, 90, 91, 92, 93, 94, 95, 96, 97, 98, 99, 100, 101, 102, 103, 104, 105, 106, 107, 108, 109, 110, 112, 113]))
  have N6_7p6 := m6_7.trans (ef_s_f s5 (by decide : 44 ∉ [59, 60, 61, 62, 63, 64, 65, 68, 69, 70, 71, 72, 73, 74, 75, 76, 77, 78, 79, 80, 81, 82, 83, 84, 85, 87, 88, 89, 90, 91, 92, 93, 94, 95, 96, 97, 98, 99, 100, 101, 102, 103, 104, 105, 106, 107, 108, 109, 110, 112, 113]) 0)
  have s6 : ef_s [59, 60, 61, 62, 63, 64, 65, 68, 69, 70, 71, 72, 73, 74, 75, 76, 77, 78, 79, 80, 81, 82, 83, 84, 85, 87, 88, 89, 90, 91, 92, 93, 94, 95, 96, 97, 98, 99, 100, 101, 102, 103, 104, 105, 106, 107, 108, 109, 110, 112, 113] w y6 := ef_s_trans s5 (ef_s_mono q6 (by decide))
  obtain ⟨_, v7, y7, a7, b7⟩ := eg171_0_66_0 h6
  obtain ⟨z7, e7, X7, q7, m7_0, m7_1, m7_2⟩ := ew_cf45_110 a7
  injection e7 with e7 i7
  subst i7
  have h7 := b7 e7 X7
  have N1_0p7 := (ef_s_a q7 (by decide)).trans N1_0p6
  have N1_1p7 := (ef_s_a q7 (by decide)).trans N1_1p6
  have N1_2p7 := (ef_s_a q7 (by decide)).trans N1_2p6
  have N1_3p7 := (ef_s_a q7 (by decide)).trans N1_3p6
  have N1_4p7 := (ef_s_a q7 (by decide)).trans N1_4p6
  have N1_5p7 := (ef_s_a q7 (by decide)).trans N1_5p6
  have N1_6p7 := (ef_s_f q7 (by decide) 0).trans N1_6p6
  have N1_7p7 := (ef_s_f q7 (by decide) 1).trans N1_7p6
  have N2_0p7 := (ef_s_a q7 (by decide)).trans N2_0p6
  have N2_1p7 := (ef_s_a q7 (by decide)).trans N2_1p6
  have N2_2p7 := (ef_s_a q7 (by decide)).trans N2_2p6
  have N2_3p7 := (ef_s_a q7 (by decide)).trans N2_3p6
  have N2_4p7 := (ef_s_f q7 (by decide) 0).trans N2_4p6
  have N3_0p7 := (ef_s_a q7 (by decide)).trans N3_0p6
  have N3_1p7 := (ef_s_a q7 (by decide)).trans N3_1p6
  have N3_2p7 := (ef_s_a q7 (by decide)).trans N3_2p6
  have N3_3p7 := (ef_s_a q7 (by decide)).trans N3_3p6
  have N3_4p7 := (ef_s_a q7 (by decide)).trans N3_4p6
  have N3_5p7 := (ef_s_a q7 (by decide)).trans N3_5p6
  have N3_6p7 := (ef_s_a q7 (by decide)).trans N3_6p6
  have N3_7p7 := (ef_s_a q7 (by decide)).trans N3_7p6
  have N3_8p7 := (ef_s_a q7 (by decide)).trans N3_8p6
  have N3_9p7 := (ef_s_a q7 (by decide)).trans N3_9p6
  have N3_10p7 := (ef_s_a q7 (by decide)).trans N3_10p6
  have N3_11p7 := (ef_s_a q7 (by decide)).trans N3_11p6
  have N3_12p7 := (ef_s_f q7 (by decide) 0).trans N3_12p6
  have N3_13p7 := (ef_s_f q7 (by decide) 5).trans N3_13p6
  have N3_14p7 := (ef_s_f q7 (by decide) 10).trans N3_14p6
  have N4_0p7 := (ef_s_a q7 (by decide)).trans N4_0p6
  have N4_1p7 := (ef_s_a q7 (by decide)).trans N4_1p6
  have N4_2p7 := (ef_s_a q7 (by decide)).trans N4_2p6
  have N4_3p7 := (ef_s_a q7 (by decide)).trans N4_3p6
  have N4_4p7 := (ef_s_a q7 (by decide)).trans N4_4p6
  have N4_5p7 := (ef_s_a q7 (by decide)).trans N4_5p6
  have N4_6p7 := (ef_s_a q7 (by decide)).trans N4_6p6
  have N4_7p7 := (ef_s_a q7 (by decide)).trans N4_7p6
  have N4_8p7 := (ef_s_a q7 (by decide)).trans N4_8p6
  have N4_9p7 := (ef_s_f q7 (by decide) 0).trans N4_9p6
  have N4_10p7 := (ef_s_f q7 (by decide) 1).trans N4_10p6
  have N4_11p7 := (ef_s_f q7 (by decide) 7).trans N4_11p6
  have N4_12p7 := (ef_s_f q7 (by decide) 9).trans N4_12p6
  have N5_0p7 := (ef_s_a q7 (by decide)).trans N5_0p6
  have N5_1p7 := (ef_s_a q7 (by decide)).trans N5_1p6
  have N5_2p7 := (ef_s_a q7 (by decide)).trans N5_2p6
  have N5_3p7 := (ef_s_a q7 (by decide)).trans N5_3p6
  have N5_4p7 := (ef_s_f q7 (by decide) 1).trans N5_4p6
  have N6_0p7 := (ef_s_a q7 (by decide)).trans N6_0p6
  have N6_1p7 := (ef_s_a q7 (by decide)).trans N6_1p6
  have N6_2p7 := (ef_s_a q7 (by decide)).trans N6_2p6
  have N6_3p7 := (ef_s_a q7 (by decide)).trans N6_3p6
  have N6_4p7 := (ef_s_a q7 (by decide)).trans N6_4p6
  have N6_5p7 := (ef_s_a q7 (by decide)).trans N6_5p6
  have N6_6p7 := (ef_s_a q7 (by decide)).trans N6_6p6
  have N6_7p7 := (ef_s_f q7 (by decide) 0).trans N6_7p6
  have N7_0p7 := m7_0.trans (ef_s_a s6 (by decide : 54 ∉ [59, 60, 61, 62, 63, 64, 65, 68, 69, 70, 71, 72, 73, 74, 75, 76, 77, 78, 79, 80, 81, 82, 83, 84, 85, 87, 88, 89, 90, 91, 92, 93, 94, 95, 96, 97, 98, 99, 100, 101, 102, 103, 104, 105, 106, 107, 108, 109, 110, 112, 113]))
  have N7_1p7 := m7_1.trans (ef_s_a s6 (by decide : 55 ∉ [59, 60, 61, 62, 63, 64, 65, 68, 69, 70, 71, 72, 73, 74, 75, 76, 77, 78, 79, 80, 81, 82, 83, 84, 85, 87, 88, 89, 90, 91, 92, 93, 94, 95, 96, 97, 98, 99, 100, 101, 102, 103, 104, 105, 106, 107, 108, 109, 110, 112, 113]))
  have N7_2p7 := m7_2.trans (ef_s_f s6 (by decide : 52 ∉ [59, 60, 61, 62, 63, 64, 65, 68, 69, 70, 71, 72, 73, 74, 75, 76, 77, 78, 79, 80, 81, 82, 83, 84, 85, 87, 88, 89, 90, 91, 92, 93, 94, 95, 96, 97, 98, 99, 100, 101, 102, 103, 104, 105, 106, 107, 108, 109, 110, 112, 113]) 0)
  have s7 : ef_s [59, 60, 61, 62, 63, 64, 65, 68, 69, 70, 71, 72, 73, 74, 75, 76, 77, 78, 79, 80, 81, 82, 83, 84, 85, 87, 88, 89, 90, 91, 92, 93, 94, 95, 96, 97, 98, 99, 100, 101, 102, 103, 104, 105, 106, 107, 108, 109, 110, 112, 113] w y7 := ef_s_trans s6 (ef_s_mono q7 (by decide))
  obtain ⟨_, hr, hW⟩ := eg171_0_77_0 h7
  refine ⟨_, hr, hW, ?_, ef_s_trans (ef_s_mono s7 (by decide)) (ef_s_pf (by decide)), (ef_s_a (ef_s_pf (S := [0]) List.mem_cons_self) (by decide)).trans N1_0p7, (ef_s_a (ef_s_pf (S := [0]) List.mem_cons_self) (by decide)).trans N1_1p7, (ef_s_a (ef_s_pf (S := [0]) List.mem_cons_self) (by decide)).trans N1_2p7, (ef_s_a (ef_s_pf (S := [0]) List.mem_cons_self) (by decide)).trans N1_3p7, (ef_s_a (ef_s_pf (S := [0]) List.mem_cons_self) (by decide)).trans N1_4p7, (ef_s_a (ef_s_pf (S := [0]) List.mem_cons_self) (by decide)).trans N1_5p7, (ef_s_f (ef_s_pf (S := [0]) List.mem_cons_self) (by decide) 0).trans N1_6p7, (ef_s_f (ef_s_pf (S := [0]) List.mem_cons_self) (by decide) 1).trans N1_7p7, (ef_s_a (ef_s_pf (S := [0]) List.mem_cons_self) (by decide)).trans N2_0p7, (ef_s_a (ef_s_pf (S := [0]) List.mem_cons_self) (by decide)).trans N2_1p7, (ef_s_a (ef_s_pf (S := [0]) List.mem_cons_self) (by decide)).trans N2_2p7, (ef_s_a (ef_s_pf (S := [0]) List.mem_cons_self) (by decide)).trans N2_3p7, (ef_s_f (ef_s_pf (S := [0]) List.mem_cons_self) (by decide) 0).trans N2_4p7, (ef_s_a (ef_s_pf (S := [0]) List.mem_cons_self) (by decide)).trans N3_0p7, (ef_s_a (ef_s_pf (S := [0]) List.mem_cons_self) (by decide)).trans N3_1p7, (ef_s_a (ef_s_pf (S := [0]) List.mem_cons_self) (by decide)).trans N3_2p7, (ef_s_a (ef_s_pf (S := [0]) List.mem_cons_self) (by decide)).trans N3_3p7, (ef_s_a (ef_s_pf (S := [0]) List.mem_cons_self) (by decide)).trans N3_4p7, (ef_s_a (ef_s_pf (S := [0]) List.mem_cons_self) (by decide)).trans N3_5p7, (ef_s_a (ef_s_pf (S := [0]) List.mem_cons_self) (by decide)).trans N3_6p7, (ef_s_a (ef_s_pf (S := [0]) List.mem_cons_self) (by decide)).trans N3_7p7, (ef_s_a (ef_s_pf (S := [0]) List.mem_cons_self) (by decide)).trans N3_8p7, (ef_s_a (ef_s_pf (S := [0]) List.mem_cons_self) (by decide)).trans N3_9p7, (ef_s_a (ef_s_pf (S := [0]) List.mem_cons_self) (by decide)).trans N3_10p7, (ef_s_a (ef_s_pf (S := [0]) List.mem_cons_self) (by decide)).trans N3_11p7, (ef_s_f (ef_s_pf (S := [0]) List.mem_cons_self) (by decide) 0).trans N3_12p7, (ef_s_f (ef_s_pf (S := [0]) List.mem_cons_self) (by decide) 5).trans N3_13p7, (ef_s_f (ef_s_pf (S := [0]) List.mem_cons_self) (by decide) 10).trans N3_14p7, (ef_s_a (ef_s_pf (S := [0]) List.mem_cons_self) (by decide)).trans N4_0p7, (ef_s_a (ef_s_pf (S := [0]) List.mem_cons_self) (by decide)).trans N4_1p7, (ef_s_a (ef_s_pf (S := [0]) List.mem_cons_self) (by decide)).trans N4_2p7, (ef_s_a (ef_s_pf (S := [0]) List.mem_cons_self) (by decide)).trans N4_3p7, (ef_s_a (ef_s_pf (S := [0]) List.mem_cons_self) (by decide)).trans N4_4p7, (ef_s_a (ef_s_pf (S := [0]) List.mem_cons_self) (by decide)).trans N4_5p7, (ef_s_a (ef_s_pf (S := [0]) List.mem_cons_self) (by decide)).trans N4_6p7, (ef_s_a (ef_s_pf (S := [0]) List.mem_cons_self) (by decide)).trans N4_7p7, (ef_s_a (ef_s_pf (S := [0]) List.mem_cons_self) (by decide)).trans N4_8p7, (ef_s_f (ef_s_pf (S := [0]) List.mem_cons_self) (by decide) 0).trans N4_9p7, (ef_s_f (ef_s_pf (S := [0]) List.mem_cons_self) (by decide) 1).trans N4_10p7, (ef_s_f (ef_s_pf (S := [0]) List.mem_cons_self) (by decide) 7).trans N4_11p7, (ef_s_f (ef_s_pf (S := [0]) List.mem_cons_self) (by decide) 9).trans N4_12p7, (ef_s_a (ef_s_pf (S := [0]) List.mem_cons_self) (by decide)).trans N5_0p7, (ef_s_a (ef_s_pf (S := [0]) List.mem_cons_self) (by decide)).trans N5_1p7, (ef_s_a (ef_s_pf (S := [0]) List.mem_cons_self) (by decide)).trans N5_2p7, (ef_s_a (ef_s_pf (S := [0]) List.mem_cons_self) (by decide)).trans N5_3p7, (ef_s_f (ef_s_pf (S := [0]) List.mem_cons_self) (by decide) 1).trans N5_4p7, (ef_s_a (ef_s_pf (S := [0]) List.mem_cons_self) (by decide)).trans N6_0p7, (ef_s_a (ef_s_pf (S := [0]) List.mem_cons_self) (by decide)).trans N6_1p7, (ef_s_a (ef_s_pf (S := [0]) List.mem_cons_self) (by decide)).trans N6_2p7, (ef_s_a (ef_s_pf (S := [0]) List.mem_cons_self) (by decide)).trans N6_3p7, (ef_s_a (ef_s_pf (S := [0]) List.mem_cons_self) (by decide)).trans N6_4p7, (ef_s_a (ef_s_pf (S := [0]) List.mem_cons_self) (by decide)).trans N6_5p7, (ef_s_a (ef_s_pf (S := [0]) List.mem_cons_self) (by decide)).trans N6_6p7, (ef_s_f (ef_s_pf (S := [0]) List.mem_cons_self) (by decide) 0).trans N6_7p7, (ef_s_a (ef_s_pf (S := [0]) List.mem_cons_self) (by decide)).trans N7_0p7, (ef_s_a (ef_s_pf (S := [0]) List.mem_cons_self) (by decide)).trans N7_1p7, (ef_s_f (ef_s_pf (S := [0]) List.mem_cons_self) (by decide) 0).trans N7_2p7⟩
  rw [ec_fd_pf (k := 0) (f := 14) X7 rfl (by decide), if_pos rfl]
  rfl
/-- all of it -/
def ef_back (w w' : px_W) : Prop := ef_s [1, 2, 3, 4, 5, 6, 7, 10, 11, 12, 13, 14, 15, 16, 17, 18, 19, 20, 21, 22, 23, 24, 25, 26, 27, 29, 30, 31, 32, 33, 34, 35, 36, 37, 38, 39, 40, 41, 42, 43, 44, 45, 46, 47, 48, 49, 50, 51, 52, 54, 55] w w' ∧ ef_a w' 2 = ef_a w 60 ∧ ef_a w' 3 = ef_a w 61 ∧ ef_a w' 4 = ef_a w 62 ∧ ef_a w' 5 = ef_a w 63 ∧ ef_a w' 6 = ef_a w 64 ∧ ef_a w' 7 = ef_a w 65 ∧ ec_fd w' 1 0 = ec_fd w 59 0 ∧ ec_fd w' 1 1 = ec_fd w 59 1 ∧ ef_a w' 11 = ef_a w 69 ∧ ef_a w' 12 = ef_a w 70 ∧ ef_a w' 13 = ef_a w 71 ∧ ef_a w' 14 = ef_a w 72 ∧ ec_fd w' 10 0 = ec_fd w 68 0 ∧ ef_a w' 16 = ef_a w 74 ∧ ef_a w' 17 = ef_a w 75 ∧ ef_a w' 18 = ef_a w 76 ∧ ef_a w' 19 = ef_a w 77 ∧ ef_a w' 20 = ef_a w 78 ∧ ef_a w' 21 = ef_a w 79 ∧ ef_a w' 22 = ef_a w 80 ∧ ef_a w' 23 = ef_a w 81 ∧ ef_a w' 24 = ef_a w 82 ∧ ef_a w' 25 = ef_a w 83 ∧ ef_a w' 26 = ef_a w 84 ∧ ef_a w' 27 = ef_a w 85 ∧ ec_fd w' 15 0 = ec_fd w 73 0 ∧ ec_fd w' 15 5 = ec_fd w 73 5 ∧ ec_fd w' 15 10 = ec_fd w 73 10 ∧ ef_a w' 30 = ef_a w 88 ∧ ef_a w' 31 = ef_a w 89 ∧ ef_a w' 32 = ef_a w 90 ∧ ef_a w' 33 = ef_a w 91 ∧ ef_a w' 34 = ef_a w 92 ∧ ef_a w' 35 = ef_a w 93 ∧ ef_a w' 36 = ef_a w 94 ∧ ef_a w' 37 = ef_a w 95 ∧ ef_a w' 38 = ef_a w 96 ∧ ec_fd w' 29 0 = ec_fd w 87 0 ∧ ec_fd w' 29 1 = ec_fd w 87 1 ∧ ec_fd w' 29 7 = ec_fd w 87 7 ∧ ec_fd w' 29 9 = ec_fd w 87 9 ∧ ef_a w' 40 = ef_a w 98 ∧ ef_a w' 41 = ef_a w 99 ∧ ef_a w' 42 = ef_a w 100 ∧ ef_a w' 43 = ef_a w 101 ∧ ec_fd w' 39 1 = ec_fd w 97 1 ∧ ef_a w' 45 = ef_a w 103 ∧ ef_a w' 46 = ef_a w 104 ∧ ef_a w' 47 = ef_a w 105 ∧ ef_a w' 48 = ef_a w 106 ∧ ef_a w' 49 = ef_a w 107 ∧ ef_a w' 50 = ef_a w 108 ∧ ef_a w' 51 = ef_a w 109 ∧ ec_fd w' 44 0 = ec_fd w 102 0 ∧ ef_a w' 54 = ef_a w 112 ∧ ef_a w' 55 = ef_a w 113 ∧ ec_fd w' 52 0 = ec_fd w 110 0
theorem ew_againA {n : Nat} {w : px_W} {r : Option Value × px_W} (h : ec_E hb_X n 172 0 [(0, .inr (.inl 64))] [] w r) : (ec_fd w 0 14 = 0 ∧ r = (ec_R (-3), w) ∧ ec_W hb_A w) ∨ (ec_fd w 0 14 ≠ 0 ∧ ∃ w' : px_W, r = (ec_R 1, w') ∧ ec_W hb_A w' ∧ ef_back w w') := by
  have t0 : ec_tw 0 = 0 := rfl
  have u0 := ec_tw_fd w 0 14
  by_cases c : ec_fd w 0 14 = 0
  · obtain ⟨_, hr, hW⟩ := eg172_0_0_1 h (by omega)
    exact .inl ⟨c, hr, hW⟩
  · refine .inr ⟨c, ?_⟩
    have r0 : ef_s [1, 2, 3, 4, 5, 6, 7, 10, 11, 12, 13, 14, 15, 16, 17, 18, 19, 20, 21, 22, 23, 24, 25, 26, 27, 29, 30, 31, 32, 33, 34, 35, 36, 37, 38, 39, 40, 41, 42, 43, 44, 45, 46, 47, 48, 49, 50, 51, 52, 54, 55] w w := ef_s_refl
    obtain ⟨_, v1, y1, a1, b1⟩ := eg172_0_0_0 h (by omega)
    obtain ⟨z1, e1, X1, q1, m1_0, m1_1, m1_2, m1_3, m1_4, m1_5, m1_6, m1_7⟩ := ew_cf32_1 a1
    injection e1 with e1 i1
    subst i1
    have h1 := b1 e1 X1
    have N1_0p1 := m1_0.trans (ef_s_a r0 (by decide : 60 ∉ [1, 2, 3, 4, 5, 6, 7, 10, 11, 12, 13, 14, 15, 16, 17, 18, 19, 20, 21, 22, 23, 24, 25, 26, 27, 29, 30, 31, 32, 33, 34, 35, 36, 37, 38, 39, 40, 41, 42, 43, 44, 45, 46, 47, 48, 49, 50, 51, 52, 54, 55]))
    have N1_1p1 := m1_1.trans (ef_s_a r0 (by decide : 61 ∉ [1, 2, 3, 4, 5, 6, 7, 10, 11, 12, 13, 14, 15, 16, 17, 18, 19, 20, 21, 22, 23, 24, 25, 26, 27, 29, 30, 31, 32, 33, 34, 35, 36, 37, 38, 39, 40, 41, 42, 43, 44, 45, 46, 47, 48, 49, 50, 51, 52, 54, 55]))
    have N1_2p1 := m1_2.trans (ef_s_a r0 (by decide : 62 ∉ [1, 2, 3, 4, 5, 6, 7, 10, 11, 12, 13, 14, 15, 16, 17, 18, 19, 20, 21, 22, 23, 24, 25, 26, 27, 29, 30, 31, 32, 33, 34, 35, 36, 37, 38, 39, 40, 41, 42, 43, 44, 45, 46, 47, 48, 49, 50, 51, 52, 54, 55]))
    have N1_3p1 := m1_3.trans (ef_s_a r0 (by decide : 63 ∉ [1, 2, 3, 4, 5, 6, 7, 10, 11, 12, 13, 14, 15, 16, 17, 18, 19, 20, 21, 22, 23, 24, 25, 26, 27, 29, 30, 31, 32, 33, 34, 35, 36, 37, 38, 39, 40, 41, 42, 43, 44, 45, 46, 47, 48, 49, 50, 51, 52, 54, 55]))
    have N1_4p1 := m1_4.trans (ef_s_a r0 (by decide : 64 ∉ [1, 2, 3, 4, 5, 6, 7, 10, 11, 12, 13, 14, 15, 16, 17, 18, 19, 20, 21, 22, 23, 24, 25, 26, 27, 29, 30, 31, 32, 33, 34, 35, 36, 37, 38, 39, 40, 41, 42, 43, 44, 45, 46, 47, 48, 49, 50, 51, 52, 54, 55]))
    have N1_5p1 := m1_5.trans (ef_s_a r0 (by decide : 65 ∉ [1, 2, 3, 4, 5, 6, 7, 10, 11, 12, 13, 14, 15, 16, 17, 18, 19, 20, 21, 22, 23, 24, 25, 26, 27, 29, 30, 31, 32, 33, 34, 35, 36, 37, 38, 39, 40, 41, 42, 43, 44, 45, 46, 47, 48, 49, 50, 51, 52, 54, 55]))
    have N1_6p1 := m1_6.trans (ef_s_f r0 (by decide : 59 ∉ [1, 2, 3, 4, 5, 6, 7, 10, 11, 12, 13, 14, 15, 16, 17, 18, 19, 20, 21, 22, 23, 24, 25, 26, 27, 29, 30, 31, 32, 33, 34, 35, 36, 37, 38, 39, 40, 41, 42, 43, 44, 45, 46, 47, 48, 49, 50, 51, 52, 54, 55]) 0)
    have N1_7p1 := m1_7.trans (ef_s_f r0 (by decide : 59 ∉ [1, 2, 3, 4, 5, 6, 7, 10, 11, 12, 13, 14, 15, 16, 17, 18, 19, 20, 21, 22, 23, 24, 25, 26, 27, 29, 30, 31, 32, 33, 34, 35, 36, 37, 38, 39, 40, 41, 42, 43, 44, 45, 46, 47, 48, 49, 50, 51, 52, 54, 55]) 1)
    have s1 : ef_s [1, 2, 3, 4, 5, 6, 7, 10, 11, 12, 13, 14, 15, 16, 17, 18, 19, 20, 21, 22, 23, 24, 25, 26, 27, 29, 30, 31, 32, 33, 34, 35, 36, 37, 38, 39, 40, 41, 42, 43, 44, 45, 46, 47, 48, 49, 50, 51, 52, 54, 55] w y1 := ef_s_trans r0 (ef_s_mono q1 (by decide))
    obtain ⟨_, v2, y2, a2, b2⟩ := eg172_0_21_0 h1
    obtain ⟨z2, e2, X2, q2, m2_0, m2_1, m2_2, m2_3, m2_4⟩ := ew_cf109_10 a2
    injection e2 with e2 i2
    subst i2
    have h2 := b2 e2 X2
    have N1_0p2 := (ef_s_a q2 (by decide)).trans N1_0p1
    have N1_1p2 := (ef_s_a q2 (by decide)).trans N1_1p1
    have N1_2p2 := (ef_s_a q2 (by decide)).trans N1_2p1
    have N1_3p2 := (ef_s_a q2 (by decide)).trans N1_3p1
    have N1_4p2 := (ef_s_a q2 (by decide)).trans N1_4p1
    have N1_5p2 := (ef_s_a q2 (by decide)).trans N1_5p1
    have N1_6p2 := (ef_s_f q2 (by decide) 0).trans N1_6p1
    have N1_7p2 := (ef_s_f q2 (by decide) 1).trans N1_7p1
    have N2_0p2 := m2_0.trans (ef_s_a s1 (by decide : 69 ∉ [1, 2, 3, 4, 5, 6, 7, 10, 11, 12, 13, 14, 15, 16, 17, 18, 19, 20, 21, 22, 23, 24, 25, 26, 27, 29, 30, 31, 32, 33, 34, 35, 36, 37, 38, 39, 40, 41, 42, 43, 44, 45, 46, 47, 48, 49, 50, 51, 52, 54, 55]))
    have N2_1p2 := m2_1.trans (ef_s_a s1 (by decide : 70 ∉ [1, 2, 3, 4, 5, 6, 7, 10, 11, 12, 13, 14, 15, 16, 17, 18, 19, 20, 21, 22, 23, 24, 25, 26, 27, 29, 30, 31, 32, 33, 34, 35, 36, 37, 38, 39, 40, 41, 42, 43, 44, 45, 46, 47, 48, 49, 50, 51, 52, 54, 55]))
    have N2_2p2 := m2_2.trans (ef_s_a s1 (by decide : 71 ∉ [1, 2, 3, 4, 5, 6, 7, 10, 11, 12, 13, 14, 15, 16, 17, 18, 19, 20, 21, 22, 23, 24, 25, 26, 27, 29, 30, 31, 32, 33, 34, 35, 36, 37, 38, 39, 40, 41, 42, 43, 44, 45, 46, 47, 48, 49, 50, 51, 52, 54, 55]))
    have N2_3p2 := m2_3.trans (ef_s_a s1 (by decide : 72 ∉ [1, 2, 3, 4, 5, 6, 7, 10, 11, 12, 13, 14, 15, 16, 17, 18, 19, 20, 21, 22, 23, 24, 25, 26, 27, 29, 30, 31, 32, 33, 34, 35, 36, 37, 38, 39, 40, 41, 42, 43, 44, 45, 46, 47, 48, 49, 50, 51, 52, 54, 55]))
    have N2_4p2 := m2_4.trans (ef_s_f s1 (by decide : 68 ∉ [1, 2, 3, 4, 5, 6, 7, 10, 11, 12, 13, 14, 15, 16, 17, 18, 19, 20, 21, 22, 23, 24, 25, 26, 27, 29, 30, 31, 32, 33, 34, 35, 36, 37, 38, 39, 40, 41, 42, 43, 44, 45, 46, 47, 48, 49, 50, 51, 52, 54, 55]) 0)
    have s2 : ef_s [1, 2, 3, 4, 5, 6, 7, 10, 11, 12, 13, 14, 15, 16, 17, 18, 19, 20, 21, 22, 23, 24, 25, 26, 27, 29, 30, 31, 32, 33, 34, 35, 36, 37, 38, 39, 40, 41, 42, 43, 44, 45, 46, 47, 48, 49, 50, 51, 52, 54, 55] w y2 := ef_s_trans s1 (ef_s_mono q2 (by decide))
    obtain ⟨_, v3, y3, a3, b3⟩ := eg172_0_32_0 h2
    obtain ⟨z3, e3, X3, q3, m3_0, m3_1, m3_2, m3_3, m3_4, m3_5, m3_6, m3_7, m3_8, m3_9, m3_10, m3_11, m3_12, m3_13, m3_14⟩ := ew_cf14_15 a3
    injection e3 with e3 i3
    subst i3
    have h3 := b3 e3 X3
    have N1_0p3 := (ef_s_a q3 (by decide)).trans N1_0p2
    have N1_1p3 := (ef_s_a q3 (by decide)).trans N1_1p2
    have N1_2p3 := (ef_s_a q3 (by decide)).trans N1_2p2
    have N1_3p3 := (ef_s_a q3 (by decide)).trans N1_3p2
    have N1_4p3 := (ef_s_a q3 (by decide)).trans N1_4p2
    have N1_5p3 := (ef_s_a q3 (by decide)).trans N1_5p2
    have N1_6p3 := (ef_s_f q3 (by decide) 0).trans N1_6p2
    have N1_7p3 := (ef_s_f q3 (by decide) 1).trans N1_7p2
    have N2_0p3 := (ef_s_a q3 (by decide)).trans N2_0p2
    have N2_1p3 := (ef_s_a q3 (by decide)).trans N2_1p2
    have N2_2p3 := (ef_s_a q3 (by decide)).trans N2_2p2
    have N2_3p3 := (ef_s_a q3 (by decide)).trans N2_3p2
    have N2_4p3 := (ef_s_f q3 (by decide) 0).trans N2_4p2
    have N3_0p3 := m3_0.trans (ef_s_a s2 (by decide : 74 ∉ [1, 2, 3, 4, 5, 6, 7, 10, 11, 12, 13, 14, 15, 16, 17, 18, 19, 20, 21, 22, 23, 24, 25, 26, 27, 29, 30, 31, 32, 33, 34, 35, 36, 37, 38, 39, 40, 41, 42, 43, 44, 45, 46, 47, 48, 49, 50, 51, 52, 54, 55]))
    have N3_1p3 := m3_1.trans (ef_s_a s2 (by decide : 75 ∉ [1, 2, 3, 4, 5, 6, 7, 10, 11, 12, 13, 14, 15, 16, 17, 18, 19, 20, 21, 22, 23, 24, 25, 26, 27, 29, 30, 31, 32, 33, 34, 35, 36, 37, 38, 39, 40, 41, 42, 43, 44, 45, 46, 47, 48, 49, 50, 51, 52, 54, 55]))
    have N3_2p3 := m3_2.trans (ef_s_a s2 (by decide : 76 ∉ [1, 2, 3, 4, 5, 6, 7, 10, 11, 12, 13, 14, 15, 16, 17, 18, 19, 20, 21, 22, 23, 24, 25, 26, 27, 29, 30, 31, 32, 33, 34, 35, 36, 37, 38, 39, 40, 41, 42, 43, 44, 45, 46, 47, 48, 49, 50, 51, 52, 54, 55]))
    have N3_3p3 := m3_3.trans (ef_s_a s2 (by decide : 77 ∉ [1, 2, 3, 4, 5, 6, 7, 10, 11, 12, 13, 14, 15, 16, 17, 18, 19, 20, 21, 22, 23, 24, 25, 26, 27, 29, 30, 31, 32, 33, 34, 35, 36, 37, 38, 39, 40, 41, 42, 43, 44, 45, 46, 47, 48, 49, 50, 51, 52, 54, 55]))
    have N3_4p3 := m3_4.trans (ef_s_a s2 (by decide : 78 ∉ [1, 2, 3, 4, 5, 6, 7, 10, 11, 12, 13, 14, 15, 16, 17, 18, 19, 20, 21, 22, 23, 24, 25, 26, 27, 29, 30, 31, 32, 33, 34, 35, 36, 37, 38, 39, 40, 41, 42, 43, 44, 45, 46, 47, 48, 49, 50, 51, 52, 54, 55]))
    have N3_5p3 := m3_5.trans (ef_s_a s2 (by decide : 79 ∉ [1, 2, 3, 4, 5, 6, 7, 10, 11, 12, 13, 14, 15, 16, 17, 18, 19, 20, 21, 22, 23, 24, 25, 26, 27, 29, 30, 31, 32, 33, 34, 35, 36, 37, 38, 39, 40, 41, 42, 43, 44, 45, 46, 47, 48, 49, 50, 51, 52, 54, 55]))
    have N3_6p3 := m3_6.trans (ef_s_a s2 (by decide : 80 ∉ [1, 2, 3, 4, 5, 6, 7, 10, 11, 12, 13, 14, 15, 16, 17, 18, 19, 20, 21, 22, 23, 24, 25, 26, 27, 29, 30, 31, 32, 33, 34, 35, 36, 37, 38, 39, 40, 41, 42, 43, 44, 45, 46, 47, 48, 49, 50, 51, 52, 54, 55]))
    have N3_7p3 := m3_7.trans (ef_s_a s2 (by decide : 81 ∉ [1, 2, 3, 4, 5, 6, 7, 10, 11, 12, 13, 14, 15, 16, 17, 18, 19, 20, 21, 22, 23, 24, 25, 26, 27, 29, 30, 31, 32, 33, 34, 35, 36, 37, 38, 39, 40, 41, 42, 43, 44, 45, 46, 47, 48, 49, 50, 51, 52, 54, 55]))
    have N3_8p3 := m3_8.trans (ef_s_a s2 (by decide : 82 ∉ [1, 2, 3, 4, 5, 6, 7, 10, 11, 12, 13, 14, 15, 16, 17, 18, 19, 20, 21, 22, 23, 24, 25, 26, 27, 29, 30, 31, 32, 33, 34, 35, 36, 37, 38, 39, 40, 41, 42, 43, 44, 45, 46, 47, 48, 49, 50, 51, 52, 54, 55]))
    have N3_9p3 := m3_9.trans (ef_s_a s2 (by decide : 83 ∉ [1, 2, 3, 4, 5, 6, 7, 10, 11, 12, 13, 14, 15, 16, 17, 18, 19, 20, 21, 22, 23, 24, 25, 26, 27, 29, 30, 31, 32, 33, 34, 35, 36, 37, 38, 39, 40, 41, 42, 43, 44, 45, 46, 47, 48, 49, 50, 51, 52, 54, 55]))
    have N3_10p3 := m3_10.trans (ef_s_a s2 (by decide : 84 ∉ [1, 2, 3, 4, 5, 6, 7, 10, 11, 12, 13, 14, 15, 16, 17, 18, 19, 20, 21, 22, 23, 24, 25, 26, 27, 29, 30, 31, 32, 33, 34, 35, 36, 37, 38, 39, 40, 41, 42, 43, 44, 45, 46, 47, 48, 49, 50, 51, 52, 54, 55]))
    have N3_11p3 := m3_11.trans (ef_s_a s2 (by decide : 85 ∉ [1, 2, 3, 4, 5, 6, 7, 10, 11, 12, 13, 14, 15, 16, 17, 18, 19, 20, 21, 22, 23, 24, 25, 26, 27, 29, 30, 31, 32, 33, 34, 35, 36, 37, 38, 39, 40, 41, 42, 43, 44, 45, 46, 47, 48, 49, 50, 51, 52, 54, 55]))
    have N3_12p3 := m3_12.trans (ef_s_f s2 (by decide : 73 ∉ [1, 2, 3, 4, 5, 6, 7, 10, 11, 12, 13, 14, 15, 16, 17, 18, 19, 20, 21, 22, 23, 24, 25, 26, 27, 29, 30, 31, 32, 33, 34, 35, 36, 37, 38, 39, 40, 41, 42, 43, 44, 45, 46, 47, 48, 49, 50, 51, 52, 54, 55]) 0)
    have N3_13p3 := m3_13.trans (ef_s_f s2 (by decide : 73 ∉ [1, 2, 3, 4, 5, 6, 7, 10, 11, 12, 13, 14, 15, 16, 17, 18, 19, 20, 21, 22, 23, 24, 25, 26, 27, 29, 30, 31, 32, 33, 34, 35, 36, 37, 38, 39, 40, 41, 42, 43, 44, 45, 46, 47, 48, 49, 50, 51, 52, 54, 55]) 5)
    have N3_14p3 := m3_14.trans (ef_s_f s2 (by decide : 73 ∉ [1, 2, 3, 4, 5, 6, 7, 10, 11, 12, 13, 14, 15, 16, 17, 18, 19, 20, 21, 22, 23, 24, 25, 26, 27, 29, 30, 31, 32, 33, 34, 35, 36, 37, 38, 39, 40, 41, 42, 43, 44, 45, 46, 47, 48, 49, 50, 51, 52, 54, 55]) 10)
    have s3 : ef_s [1, 2, 3, 4, 5, 6, 7, 10, 11, 12, 13, 14, 15, 16, 17, 18, 19, 20, 21, 22, 23, 24, 25, 26, 27, 29, 30, 31, 32, 33, 34, 35, 36, 37, 38, 39, 40, 41, 42, 43, 44, 45, 46, 47, 48, 49, 50, 51, 52, 54, 55] w y3 := ef_s_trans s2 (ef_s_mono q3 (by decide))
    obtain ⟨_, v4, y4, a4, b4⟩ := eg172_0_43_0 h3
    obtain ⟨z4, e4, X4, q4, m4_0, m4_1, m4_2, m4_3, m4_4, m4_5, m4_6, m4_7, m4_8, m4_9, m4_10, m4_11, m4_12⟩ := ew_cf87_29 a4
    injection e4 with e4 i4
    subst i4
    have h4 := b4 e4 X4
    have N1_0p4 := (ef_s_a q4 (by decide)).trans N1_0p3
    have N1_1p4 := (ef_s_a q4 (by decide)).trans N1_1p3
    have N1_2p4 := (ef_s_a q4 (by decide)).trans N1_2p3
    have N1_3p4 := (ef_s_a q4 (by decide)).trans N1_3p3
    have N1_4p4 := (ef_s_a q4 (by decide)).trans N1_4p3
    have N1_5p4 := (ef_s_a q4 (by decide)).trans N1_5p3
    have N1_6p4 := (ef_s_f q4 (by decide) 0).trans N1_6p3
    have N1_7p4 := (ef_s_f q4 (by decide) 1).trans N1_7p3
    have N2_0p4 := (ef_s_a q4 (by decide)).trans N2_0p3
    have N2_1p4 := (ef_s_a q4 (by decide)).trans N2_1p3
    have N2_2p4 := (ef_s_a q4 (by decide)).trans N2_2p3
    have N2_3p4 := (ef_s_a q4 (by decide)).trans N2_3p3
    have N2_4p4 := (ef_s_f q4 (by decide) 0).trans N2_4p3
    have N3_0p4 := (ef_s_a q4 (by decide)).trans N3_0p3
    have N3_1p4 := (ef_s_a q4 (by decide)).trans N3_1p3
    have N3_2p4 := (ef_s_a q4 (by decide)).trans N3_2p3
    have N3_3p4 := (ef_s_a q4 (by decide)).trans N3_3p3
    have N3_4p4 := (ef_s_a q4 (by decide)).trans N3_4p3
    have N3_5p4 := (ef_s_a q4 (by decide)).trans N3_5p3
    have N3_6p4 := (ef_s_a q4 (by decide)).trans N3_6p3
    have N3_7p4 := (ef_s_a q4 (by decide)).trans N3_7p3
    have N3_8p4 := (ef_s_a q4 (by decide)).trans N3_8p3
    have N3_9p4 := (ef_s_a q4 (by decide)).trans N3_9p3
    have N3_10p4 := (ef_s_a q4 (by decide)).trans N3_10p3
    have N3_11p4 := (ef_s_a q4 (by decide)).trans N3_11p3
    have N3_12p4 := (ef_s_f q4 (by decide) 0).trans N3_12p3
    have N3_13p4 := (ef_s_f q4 (by decide) 5).trans N3_13p3
    have N3_14p4 := (ef_s_f q4 (by decide) 10).trans N3_14p3
    have N4_0p4 := m4_0.trans (ef_s_a s3 (by decide : 88 ∉ [1, 2, 3, 4, 5, 6, 7, 10, 11, 12, 13, 14, 15, 16, 17, 18, 19, 20, 21, 22, 23, 24, 25, 26, 27, 29, 30, 31, 32, 33, 34, 35, 36, 37, 38, 39, 40, 41, 42, 43, 44, 45, 46, 47, 48, 49, 50, 51, 52, 54, 55]))
    have N4_1p4 := m4_1.trans (ef_s_a s3 (by decide : 89 ∉ [1, 2, 3, 4, 5, 6, 7, 10, 11, 12, 13, 14, 15, 16, 17, 18, 19, 20, 21, 22, 23, 24, 25, 26, 27, 29, 30, 31, 32, 33, 34, 35, 36, 37, 38, 39, 40, 41, 42, 43, 44, 45, 46, 47, 48, 49, 50, 51, 52, 54, 55]))
    have N4_2p4 := m4_2.trans (ef_s_a s3 (by decide : 90 ∉ [1, 2, 3, 4, 5, 6, 7, 10, 11, 12, 13, 14, 15, 16, 17, 18, 19, 20, 21, 22, 23, 24, 25, 26, 27, 29, 30, 31, 32, 33, 34, 35, 36, 37, 38, 39, 40, 41, 42, 43, 44, 45, 46, 47, 48, 49, 50, 51, 52, 54, 55]))
    have N4_3p4 := m4_3.trans (ef_s_a s3 (by decide : 91 ∉ [1, 2, 3, 4, 5, 6, 7, 10, 11, 12, 13, 14, 15, 16, 17, 18, 19, 20, 21, 22, 23, 24, 25, 26, 27, 29, 30, 31, 32, 33, 34, 35, 36, 37, 38, 39, 40, 41, 42, 43, 44, 45, 46, 47, 48, 49, 50, 51, 52, 54, 55]))
    have N4_4p4 := m4_4.trans (ef_s_a s3 (by decide : 92 ∉ [1, 2, 3, 4, 5, 6, 7, 10, 11, 12, 13, 14, 15, 16, 17, 18, 19, 20, 21, 22, 23, 24, 25, 26, 27, 29, 30, 31, 32, 33, 34, 35, 36, 37, 38, 39, 40, 41, 42, 43, 44, 45, 46, 47, 48, 49, 50, 51, 52, 54, 55]))
    have N4_5p4 := m4_5.trans (ef_s_a s3 (by decide : 93 ∉ [1, 2, 3, 4, 5, 6, 7, 10, 11, 12, 13, 14, 15, 16, 17, 18, 19, 20, 21, 22, 23, 24, 25, 26, 27, 29, 30, 31, 32, 33, 34, 35, 36, 37, 38, 39, 40, 41, 42, 43, 44, 45, 46, 47, 48, 49, 50, 51, 52, 54, 55]))
    have N4_6p4 := m4_6.trans (ef_s_a s3 (by decide : 94 ∉ [1, 2, 3, 4, 5, 6, 7, 10, 11, 12, 13, 14, 15, 16, 17, 18, 19, 20, 21, 22, 23, 24, 25, 26, 27, 29, 30, 31, 32, 33, 34, 35, 36, 37, 38, 39, 40, 41, 42, 43, 44, 45, 46, 47, 48, 49, 50, 51, 52, 54, 55]))
    have N4_7p4 := m4_7.trans (ef_s_a s3 (by decide : 95 ∉ [1, 2, 3, 4, 5, 6, 7, 10, 11, 12, 13, 14, 15, 16, 17, 18, 19, 20, 21, 22, 23, 24, 25, 26, 27, 29, 30, 31, 32, 33, 34, 35, 36, 37, 38, 39, 40, 41, 42, 43, 44, 45, 46, 47, 48, 49, 50, 51, 52, 54, 55]))
    have N4_8p4 := m4_8.trans (ef_s_a s3 (by decide : 96 ∉ [1, 2, 3, 4, 5, 6, 7, 10, 11, 12, 13, 14, 15, 16, 17, 18, 19, 20, 21, 22, 23, 24, 25, 26, 27, 29, 30, 31, 32, 33, 34, 35, 36, 37, 38, 39, 40, 41, 42, 43, 44, 45, 46, 47, 48, 49, 50, 51, 52, 54, 55]))
    have N4_9p4 := m4_9.trans (ef_s_f s3 (by decide : 87 ∉ [1, 2, 3, 4, 5, 6, 7, 10, 11, 12, 13, 14, 15, 16, 17, 18, 19, 20, 21, 22, 23, 24, 25, 26, 27, 29, 30, 31, 32, 33, 34, 35, 36, 37, 38, 39, 40, 41, 42, 43, 44, 45, 46, 47, 48, 49, 50, 51, 52, 54, 55]) 0)
    have N4_10p4 := m4_10.trans (ef_s_f s3 (by decide : 87 ∉ [1, 2, 3, 4, 5, 6, 7, 10, 11, 12, 13, 14, 15, 16, 17, 18, 19, 20, 21, 22, 23, 24, 25, 26, 27, 29, 30, 31, 32, 33, 34, 35, 36, 37, 38, 39, 40, 41, 42, 43, 44, 45, 46, 47, 48, 49, 50, 51, 52, 54, 55]) 1)
    have N4_11p4 := m4_11.trans (ef_s_f s3 (by decide : 87 ∉ [1, 2, 3, 4, 5, 6, 7, 10, 11, 12, 13, 14, 15, 16, 17, 18, 19, 20, 21, 22, 23, 24, 25, 26, 27, 29, 30, 31, 32, 33, 34, 35, 36, 37, 38, 39, 40, 41, 42, 43, 44, 45, 46, 47, 48, 49, 50, 51, 52, 54, 55]) 7)
    have N4_12p4 := m4_12.trans (ef_s_f s3 (by decide : 87 ∉ [1, 2, 3, 4, 5, 6, 7, 10, 11, 12, 13, 14, 15, 16, 17, 18, 19, 20, 21, 22, 23, 24, 25, 26, 27, 29, 30, 31, 32, 33, 34, 35, 36, 37, 38, 39, 40, 41, 42, 43, 44, 45, 46, 47, 48, 49, 50, 51, 52, 54, 55]) 9)
    have s4 : ef_s [1, 2, 3, 4, 5, 6, 7, 10, 11, 12, 13, 14, 15, 16, 17, 18, 19, 20, 21, 22, 23, 24, 25, 26, 27, 29, 30, 31, 32, 33, 34, 35, 36, 37, 38, 39, 40, 41, 42, 43, 44, 45, 46, 47, 48, 49, 50, 51, 52, 54, 55] w y4 := ef_s_trans s3 (ef_s_mono q4 (by decide))
    obtain ⟨_, v5, y5, a5, b5⟩ := eg172_0_54_0 h4
    obtain ⟨z5, e5, X5, q5, m5_0, m5_1, m5_2, m5_3, m5_4⟩ := ew_cf115_39 a5
    injection e5 with e5 i5
    subst i5
    have h5 := b5 e5 X5
    have N1_0p5 := (ef_s_a q5 (by decide)).trans N1_0p4
    have N1_1p5 := (ef_s_a q5 (by decide)).trans N1_1p4
    have N1_2p5 := (ef_s_a q5 (by decide)).trans N1_2p4
    have N1_3p5 := (ef_s_a q5 (by decide)).trans N1_3p4
    have N1_4p5 := (ef_s_a q5 (by decide)).trans N1_4p4
    have N1_5p5 := (ef_s_a q5 (by decide)).trans N1_5p4
    have N1_6p5 := (ef_s_f q5 (by decide) 0).trans N1_6p4
    have N1_7p5 := (ef_s_f q5 (by decide) 1).trans N1_7p4
    have N2_0p5 := (ef_s_a q5 (by decide)).trans N2_0p4
    have N2_1p5 := (ef_s_a q5 (by decide)).trans N2_1p4
    have N2_2p5 := (ef_s_a q5 (by decide)).trans N2_2p4
    have N2_3p5 := (ef_s_a q5 (by decide)).trans N2_3p4
    have N2_4p5 := (ef_s_f q5 (by decide) 0).trans N2_4p4
    have N3_0p5 := (ef_s_a q5 (by decide)).trans N3_0p4
    have N3_1p5 := (ef_s_a q5 (by decide)).trans N3_1p4
    have N3_2p5 := (ef_s_a q5 (by decide)).trans N3_2p4
    have N3_3p5 := (ef_s_a q5 (by decide)).trans N3_3p4
    have N3_4p5 := (ef_s_a q5 (by decide)).trans N3_4p4
    have N3_5p5 := (ef_s_a q5 (by decide)).trans N3_5p4
    have N3_6p5 := (ef_s_a q5 (by decide)).trans N3_6p4
    have N3_7p5 := (ef_s_a q5 (by decide)).trans N3_7p4
    have N3_8p5 := (ef_s_a q5 (by decide)).trans N3_8p4
    have N3_9p5 := (ef_s_a q5 (by decide)).trans N3_9p4
    have N3_10p5 := (ef_s_a q5 (by decide)).trans N3_10p4
    have N3_11p5 := (ef_s_a q5 (by decide)).trans N3_11p4
    have N3_12p5 := (ef_s_f q5 (by decide) 0).trans N3_12p4
    have N3_13p5 := (ef_s_f q5 (by decide) 5).trans N3_13p4
    have N3_14p5 := (ef_s_f q5 (by decide) 10).trans N3_14p4
    have N4_0p5 := (ef_s_a q5 (by decide)).trans N4_0p4
    have N4_1p5 := (ef_s_a q5 (by decide)).trans N4_1p4
    have N4_2p5 := (ef_s_a q5 (by decide)).trans N4_2p4
    have N4_3p5 := (ef_s_a q5 (by decide)).trans N4_3p4
    have N4_4p5 := (ef_s_a q5 (by decide)).trans N4_4p4
    have N4_5p5 := (ef_s_a q5 (by decide)).trans N4_5p4
    have N4_6p5 := (ef_s_a q5 (by decide)).trans N4_6p4
    have N4_7p5 := (ef_s_a q5 (by decide)).trans N4_7p4
    have N4_8p5 := (ef_s_a q5 (by decide)).trans N4_8p4
    have N4_9p5 := (ef_s_f q5 (by decide) 0).trans N4_9p4
    have N4_10p5 := (ef_s_f q5 (by decide) 1).trans N4_10p4
    have N4_11p5 := (ef_s_f q5 (by decide) 7).trans N4_11p4
    have N4_12p5 := (ef_s_f q5 (by decide) 9).trans N4_12p4
    have N5_0p5 := m5_0.trans (ef_s_a s4 (by decide : 98 ∉ [1, 2, 3, 4, 5, 6, 7, 10, 11, 12, 13, 14, 15, 16, 17, 18, 19, 20, 21, 22, 23, 24, 25, 26, 27, 29, 30, 31, 32, 33, 34, 35, 36, 37, 38, 39, 40, 41, 42, 43, 44, 45, 46, 47, 48, 49, 50, 51, 52, 54, 55]))
    have N5_1p5 := m5_1.trans (ef_s_a s4 (by decide : 99 ∉ [1, 2, 3, 4, 5, 6, 7, 10, 11, 12, 13, 14, 15, 16, 17, 18, 19, 20, 21, 22, 23, 24, 25, 26, 27, 29, 30, 31, 32, 33, 34, 35, 36, 37, 38, 39, 40, 41, 42, 43, 44, 45, 46, 47, 48, 49, 50, 51, 52, 54, 55]))
    have N5_2p5 := m5_2.trans (ef_s_a s4 (by decide : 100 ∉ [1, 2, 3, 4, 5, 6, 7, 10, 11, 12, 13, 14, 15, 16, 17, 18, 19, 20, 21, 22, 23, 24, 25, 26, 27, 29, 30, 31, 32, 33, 34, 35, 36, 37, 38, 39, 40, 41, 42, 43, 44, 45, 46, 47, 48, 49, 50, 51, 52, 54, 55]))
    have N5_3p5 := m5_3.trans (ef_s_a s4 (by decide : 101 ∉ [1, 2, 3, 4, 5, 6, 7, 10, 11, 12, 13, 14, 15, 16, 17, 18, 19, 20, 21, 22, 23, 24, 25, 26, 27, 29, 30, 31, 32, 33, 34, 35, 36, 37, 38, 39, 40, 41, 42, 43, 44, 45, 46, 47, 48, 49, 50, 51, 52, 54, 55]))
    have N5_4p5 := m5_4.trans (ef_s_f s4 (by decide : 97 ∉ [1, 2, 3, 4, 5, 6, 7, 10, 11, 12, 13, 14, 15, 16, 17, 18, 19, 20, 21, 22, 23, 24, 25, 26, 27, 29, 30, 31, 32, 33, 34, 35, 36, 37, 38, 39, 40, 41, 42, 43, 44, 45, 46, 47, 48, 49, 50, 51, 52, 54, 55]) 1)
    have s5 : ef_s [1, 2, 3, 4, 5, 6, 7, 10, 11, 12, 13, 14, 15, 16, 17, 18, 19, 20, 21, 22, 23, 24, 25, 26, 27, 29, 30, 31, 32, 33, 34, 35, 36, 37, 38, 39, 40, 41, 42, 43, 44, 45, 46, 47, 48, 49, 50, 51, 52, 54, 55] w y5 := ef_s_trans s4 (ef_s_mono q5 (by decide))
    obtain ⟨_, v6, y6, a6, b6⟩ := eg172_0_65_0 h5
    obtain ⟨z6, e6, X6, q6, m6_0, m6_1, m6_2, m6_3, m6_4, m6_5, m6_6, m6_7⟩ := ew_cf73_44 a6
    injection e6 with e6 i6
    subst i6
    have h6 := b6 e6 X6
    have N1_0p6 := (ef_s_a q6 (by decide)).trans N1_0p5
    have N1_1p6 := (ef_s_a q6 (by decide)).trans N1_1p5
    have N1_2p6 := (ef_s_a q6 (by decide)).trans N1_2p5
    have N1_3p6 := (ef_s_a q6 (by decide)).trans N1_3p5
    have N1_4p6 := (ef_s_a q6 (by decide)).trans N1_4p5
    have N1_5p6 := (ef_s_a q6 (by decide)).trans N1_5p5
    have N1_6p6 := (ef_s_f q6 (by decide) 0).trans N1_6p5
    have N1_7p6 := (ef_s_f q6 (by decide) 1).trans N1_7p5
    have N2_0p6 := (ef_s_a q6 (by decide)).trans N2_0p5
    have N2_1p6 := (ef_s_a q6 (by decide)).trans N2_1p5
    have N2_2p6 := (ef_s_a q6 (by decide)).trans N2_2p5
    have N2_3p6 := (ef_s_a q6 (by decide)).trans N2_3p5
    have N2_4p6 := (ef_s_f q6 (by decide) 0).trans N2_4p5
    have N3_0p6 := (ef_s_a q6 (by decide)).trans N3_0p5
    have N3_1p6 := (ef_s_a q6 (by decide)).trans N3_1p5
    have N3_2p6 := (ef_s_a q6 (by decide)).trans N3_2p5
    have N3_3p6 := (ef_s_a q6 (by decide)).trans N3_3p5
    have N3_4p6 := (ef_s_a q6 (by decide)).trans N3_4p5
    have N3_5p6 := (ef_s_a q6 (by decide)).trans N3_5p5
    have N3_6p6 := (ef_s_a q6 (by decide)).trans N3_6p5
    have N3_7p6 := (ef_s_a q6 (by decide)).trans N3_7p5
    have N3_8p6 := (ef_s_a q6 (by decide)).trans N3_8p5
    have N3_9p6 := (ef_s_a q6 (by decide)).trans N3_9p5
    have N3_10p6 := (ef_s_a q6 (by decide)).trans N3_10p5
    have N3_11p6 := (ef_s_a q6 (by decide)).trans N3_11p5
    have N3_12p6 := (ef_s_f q6 (by decide) 0).trans N3_12p5
    have N3_13p6 := (ef_s_f q6 (by decide) 5).trans N3_13p5
    have N3_14p6 := (ef_s_f q6 (by decide) 10).trans N3_14p5
    have N4_0p6 := (ef_s_a q6 (by decide)).trans N4_0p5
    have N4_1p6 := (ef_s_a q6 (by decide)).trans N4_1p5
    have N4_2p6 := (ef_s_a q6 (by decide)).trans N4_2p5
    have N4_3p6 := (ef_s_a q6 (by decide)).trans N4_3p5
    have N4_4p6 := (ef_s_a q6 (by decide)).trans N4_4p5
    have N4_5p6 := (ef_s_a q6 (by decide)).trans N4_5p5
    have N4_6p6 := (ef_s_a q6 (by decide)).trans N4_6p5
    have N4_7p6 := (ef_s_a q6 (by decide)).trans N4_7p5
    have N4_8p6 := (ef_s_a q6 (by decide)).trans N4_8p5
    have N4_9p6 := (ef_s_f q6 (by decide) 0).trans N4_9p5
    have N4_10p6 := (ef_s_f q6 (by decide) 1).trans N4_10p5
    have N4_11p6 := (ef_s_f q6 (by decide) 7).trans N4_11p5
    have N4_12p6 := (ef_s_f q6 (by decide) 9).trans N4_12p5
    have N5_0p6 := (ef_s_a q6 (by decide)).trans N5_0p5
    have N5_1p6 := (ef_s_a q6 (by decide)).trans N5_1p5
    have N5_2p6 := (ef_s_a q6 (by decide)).trans N5_2p5
    have N5_3p6 := (ef_s_a q6 (by decide)).trans N5_3p5
    have N5_4p6 := (ef_s_f q6 (by decide) 1).trans N5_4p5
    have N6_0p6 := m6_0.trans (ef_s_a s5 (by decide : 103 ∉ [1, 2, 3, 4, 5, 6, 7, 10, 11, 12, 13, 14, 15, 16, 17, 18, 19, 20, 21, 22, 23, 24, 25, 26, 27, 29, 30, 31, 32, 33, 34, 35, 36, 37, 38, 39, 40, 41, 42, 43, 44, 45, 46, 47, 48, 49, 50, 51, 52, 54, 55]))
    have N6_1p6 := m6_1.trans (ef_s_a s5 (by decide : 104 ∉ [1, 2, 3, 4, 5, 6, 7, 10, 11, 12, 13, 14, 15, 16, 17, 18, 19, 20, 21, 22, 23, 24, 25, 26, 27, 29, 30, 31, 32, 33, 34, 35, 36, 37, 38, 39, 40, 41, 42, 43, 44, 45, 46, 47, 48, 49, 50, 51, 52, 54, 55]))
    have N6_2p6 := m6_2.trans (ef_s_a s5 (by decide : 105 ∉ [1, 2, 3, 4, 5, 6, 7, 10, 11, 12, 13, 14, 15, 16, 17, 18, 19, 20, 21, 22, 23, 24, 25, 26, 27, 29, 30, 31, 32, 33, 34, 35, 36, 37, 38, 39, 40, 41, 42, 43, 44, 45, 46, 47, 48, 49, 50, 51, 52, 54, 55]))
    have N6_3p6 := m6_3.trans (ef_s_a s5 (by decide : 106 ∉ [1, 2, 3, 4, 5, 6, 7, 10, 11, 12, 13, 14, 15, 16, 17, 18, 19, 20, 21, 22, 23, 24, 25, 26, 27, 29, 30, 31, 32, 33, 34, 35, 36, 37, 38, 39, 40, 41, 42, 43, 44, 45, 46, 47, 48, 49, 50, 51, 52, 54, 55]))
    have N6_4p6 := m6_4.trans (ef_s_a s5 (by decide : 107 ∉ [1, 2, 3, 4, 5, 6, 7, 10, 11, 12, 13, 14, 15, 16, 17, 18, 19, 20, 21, 22, 23, 24, 25, 26, 27, 29, 30, 31, 32, 33, 34, 35, 36, 37, 38, 39, 40, 41, 42, 43, 44, 45, 46, 47, 48, 49, 50, 51, 52, 54, 55]))
    have N6_5p6 := m6_5.trans (ef_s_a s5 (by decide : 108 ∉ [1, 2, 3, 4, 5, 6, 7, 10, 11, 12, 13, 14, 15, 16, 17, 18, 19, 20, 21, 22, 23, 24, 25, 26, 27, 29, 30, 31, 32, 33, 34, 35, 36, 37, 38, 39, 40, 41, 42, 43, 44, 45, 46, 47, 48, 49, 50, 51, 52, 54, 55]))
    have N6_6p6 := m6_6.trans (ef_s_a s5 (by decide : 109 ∉ [1, 2, 3, 4, 5, 6, 7, 10, 11, 12, 13, 14, 15, 16, 17, 18, 19, 20, 21, 22, 23, 24, 25, 26, 27, 29, 30, 31, 32, 33, 34, 35, 36, 37, 38, 39, 40, 41, 42, 43, 44, 45, 46, 47, 48, 49, 50, 51, 52, 54, 55]))
    have N6_7p6 := m6_7.trans (ef_s_f s5 (by decide : 102 ∉ [1, 2, 3, 4, 5, 6, 7, 10, 11, 12, 13, 14, 15, 16, 17, 18, 19, 20, 21, 22, 23, 24, 25, 26, 27, 29, 30, 31, 32, 33, 34, 35, 36, 37, 38, 39, 40, 41, 42, 43, 44, 45, 46, 47, 48, 49, 50, 51, 52, 54, 55]) 0)
    have s6 : ef_s [1, 2, 3, 4, 5, 6, 7, 10, 11, 12, 13, 14, 15, 16, 17, 18, 19, 20, 21, 22, 23, 24, 25, 26, 27, 29, 30, 31, 32, 33, 34, 35, 36, 37, 38, 39, 40, 41, 42, 43, 44, 45, 46, 47, 48, 49, 50, 51, 52, 54, 55] w y6 := ef_s_trans s5 (ef_s_mono q6 (by decide))
    obtain ⟨_, v7, y7, a7, b7⟩ := eg172_0_76_0 h6
    obtain ⟨z7, e7, X7, q7, m7_0, m7_1, m7_2⟩ := ew_cf45_52 a7
    injection e7 with e7 i7
    subst i7
    have h7 := b7 e7 X7
    have N1_0p7 := (ef_s_a q7 (by decide)).trans N1_0p6
    have N1_1p7 := (ef_s_a q7 (by decide)).trans N1_1p6
    have N1_2p7 := (ef_s_a q7 (by decide)).trans N1_2p6
    have N1_3p7 := (ef_s_a q7 (by decide)).trans N1_3p6
    have N1_4p7 := (ef_s_a q7 (by decide)).trans N1_4p6
    have N1_5p7 := (ef_s_a q7 (by decide)).trans N1_5p6
    have N1_6p7 := (ef_s_f q7 (by decide) 0).trans N1_6p6
    have N1_7p7 := (ef_s_f q7 (by decide) 1).trans N1_7p6
    have N2_0p7 := (ef_s_a q7 (by decide)).trans N2_0p6
    have N2_1p7 := (ef_s_a q7 (by decide)).trans N2_1p6
    have N2_2p7 := (ef_s_a q7 (by decide)).trans N2_2p6
    have N2_3p7 := (ef_s_a q7 (by decide)).trans N2_3p6
    have N2_4p7 := (ef_s_f q7 (by decide) 0).trans N2_4p6
    have N3_0p7 := (ef_s_a q7 (by decide)).trans N3_0p6
    have N3_1p7 := (ef_s_a q7 (by decide)).trans N3_1p6
    have N3_2p7 := (ef_s_a q7 (by decide)).trans N3_2p6
    have N3_3p7 := (ef_s_a q7 (by decide)).trans N3_3p6
    have N3_4p7 := (ef_s_a q7 (by decide)).trans N3_4p6
    have N3_5p7 := (ef_s_a q7 (by decide)).trans N3_5p6
    have N3_6p7 := (ef_s_a q7 (by decide)).trans N3_6p6
    have N3_7p7 := (ef_s_a q7 (by decide)).trans N3_7p6
    have N3_8p7 := (ef_s_a q7 (by decide)).trans N3_8p6
    have N3_9p7 := (ef_s_a q7 (by decide)).trans N3_9p6
    have N3_10p7 := (ef_s_a q7 (by decide)).trans N3_10p6
    have N3_11p7 := (ef_s_a q7 (by decide)).trans N3_11p6
    have N3_12p7 := (ef_s_f q7 (by decide) 0).trans N3_12p6
    have N3_13p7 := (ef_s_f q7 (by decide) 5).trans N3_13p6
    have N3_14p7 := (ef_s_f q7 (by decide) 10).trans N3_14p6
    have N4_0p7 := (ef_s_a q7 (by decide)).trans N4_0p6
    have N4_1p7 := (ef_s_a q7 (by decide)).trans N4_1p6
    have N4_2p7 := (ef_s_a q7 (by decide)).trans N4_2p6
    have N4_3p7 := (ef_s_a q7 (by decide)).trans N4_3p6
    have N4_4p7 := (ef_s_a q7 (by decide)).trans N4_4p6
    have N4_5p7 := (ef_s_a q7 (by decide)).trans N4_5p6
    have N4_6p7 := (ef_s_a q7 (by decide)).trans N4_6p6
    have N4_7p7 := (ef_s_a q7 (by decide)).trans N4_7p6
    have N4_8p7 := (ef_s_a q7 (by decide)).trans N4_8p6
    have N4_9p7 := (ef_s_f q7 (by decide) 0).trans N4_9p6
    have N4_10p7 := (ef_s_f q7 (by decide) 1).trans N4_10p6
    have N4_11p7 := (ef_s_f q7 (by decide) 7).trans N4_11p6
    have N4_12p7 := (ef_s_f q7 (by decide) 9).trans N4_12p6
    have N5_0p7 := (ef_s_a q7 (by decide)).trans N5_0p6
    have N5_1p7 := (ef_s_a q7 (by decide)).trans N5_1p6
    have N5_2p7 := (ef_s_a q7 (by decide)).trans N5_2p6
    have N5_3p7 := (ef_s_a q7 (by decide)).trans N5_3p6
    have N5_4p7 := (ef_s_f q7 (by decide) 1).trans N5_4p6
    have N6_0p7 := (ef_s_a q7 (by decide)).trans N6_0p6
    have N6_1p7 := (ef_s_a q7 (by decide)).trans N6_1p6
    have N6_2p7 := (ef_s_a q7 (by decide)).trans N6_2p6
    have N6_3p7 := (ef_s_a q7 (by decide)).trans N6_3p6
    have N6_4p7 := (ef_s_a q7 (by decide)).trans N6_4p6
    have N6_5p7 := (ef_s_a q7 (by decide)).trans N6_5p6
    have N6_6p7 := (ef_s_a q7 (by decide)).trans N6_6p6
    have N6_7p7 := (ef_s_f q7 (by decide) 0).trans N6_7p6
    have N7_0p7 := m7_0.trans (ef_s_a s6 (by decide : 112 ∉ [1, 2, 3, 4, 5, 6, 7, 10, 11, 12, 13, 14, 15, 16, 17, 18, 19, 20, 21, 22, 23, 24, 25, 26, 27, 29, 30, 31, 32, 33, 34, 35, 36, 37, 38, 39, 40, 41, 42, 43, 44, 45, 46, 47, 48, 49, 50, 51, 52, 54, 55]))
    have N7_1p7 := m7_1.trans (ef_s_a s6 (by decide : 113 ∉ [1, 2, 3, 4, 5, 6, 7, 10, 11, 12, 13, 14, 15, 16, 17, 18, 19, 20, 21, 22, 23, 24, 25, 26, 27, 29, 30, 31, 32, 33, 34, 35, 36, 37, 38, 39, 40, 41, 42, 43, 44, 45, 46, 47, 48, 49, 50, 51, 52, 54, 55]))
    have N7_2p7 := m7_2.trans (ef_s_f s6 (by decide : 110 ∉ [1, 2, 3, 4, 5, 6, 7, 10, 11, 12, 13, 14, 15, 16, 17, 18, 19, 20, 21, 22, 23, 24, 25, 26, 27, 29, 30, 31, 32, 33, 34, 35, 36, 37, 38, 39, 40, 41, 42, 43, 44, 45, 46, 47, 48, 49, 50, 51, 52, 54, 55]) 0)
    have s7 : ef_s [1, 2, 3, 4, 5, 6, 7, 10, 11, 12, 13, 14, 15, 16, 17, 18, 19, 20, 21, 22, 23, 24, 25, 26, 27, 29, 30, 31, 32, 33, 34, 35, 36, 37, 38, 39, 40, 41, 42, 43, 44, 45, 46, 47, 48, 49, 50, 51, 52, 54, 55] w y7 := ef_s_trans s6 (ef_s_mono q7 (by decide))
    obtain ⟨_, hr, hW⟩ := eg172_0_87_0 h7
    exact ⟨_, hr, hW, s7, N1_0p7, N1_1p7, N1_2p7, N1_3p7, N1_4p7, N1_5p7, N1_6p7, N1_7p7, N2_0p7, N2_1p7, N2_2p7, N2_3p7, N2_4p7, N3_0p7, N3_1p7, N3_2p7, N3_3p7, N3_4p7, N3_5p7, N3_6p7, N3_7p7, N3_8p7, N3_9p7, N3_10p7, N3_11p7, N3_12p7, N3_13p7, N3_14p7, N4_0p7, N4_1p7, N4_2p7, N4_3p7, N4_4p7, N4_5p7, N4_6p7, N4_7p7, N4_8p7, N4_9p7, N4_10p7, N4_11p7, N4_12p7, N5_0p7, N5_1p7, N5_2p7, N5_3p7, N5_4p7, N6_0p7, N6_1p7, N6_2p7, N6_3p7, N6_4p7, N6_5p7, N6_6p7, N6_7p7, N7_0p7, N7_1p7, N7_2p7⟩
theorem ew_keepl : ∀ (k n i : Nat) (w : px_W) (r : Option Value × px_W), i + k = 1580 → ec_E hb_X n 292 2 [(0, .inr (.inl 215)), (1, .inl (i : Int))] [] w r → ∃ w' : px_W, ec_E hb_X n 292 2 [(0, .inr (.inl 215)), (1, .inl 1580)] [] w' r ∧ ef_s [153] w w' ∧ ∀ p, ef_a w' 153 p = if i ≤ p ∧ p < 1580 then ef_a w 152 p else ef_a w 153 p := by
  intro k
  induction k with
  | zero =>
    intro n i w r hik h
    have hi : i = 1580 := by omega
    subst hi
    exact ⟨w, h, ef_s_refl, fun p => by rw [if_neg (by omega)]⟩
  | succ k ih =>
    intro n i w r hik h
    have ei : ec_tw (i : Int) = i := ec_twn (by omega)
    have t8 : ec_tw 1580 = 1580 := rfl
    have h1 := (eg292_151_2_1 h (by omega)).2
    rw [ei, ef_rd] at h1
    obtain ⟨w', h2, s2, f2⟩ := ih n (i + 1) _ r (by omega) h1
    refine ⟨w', h2, ef_s_trans (ef_s_wr List.mem_cons_self) s2, fun p => ?_⟩
    rw [f2 p, ef_a_wr_o (by decide), ef_a_wr (n := 1580) h.1 rfl (by omega) (by omega), ef_tw]
    unfold ef_u
    by_cases h3 : i + 1 ≤ p ∧ p < 1580
    · rw [if_pos h3, if_pos (by omega)]
    · rw [if_neg h3]
      by_cases h4 : p = i
      · rw [if_pos (by omega), if_pos (by omega), h4]
      · rw [if_neg (by omega), if_neg (by omega)]
theorem ew_againl : ∀ (k n i : Nat) (w : px_W) (r : Option Value × px_W), i + k = 1580 → ec_E hb_X n 293 12 [(0, .inr (.inl 215)), (1, .inl (i : Int))] [] w r → ∃ w' : px_W, ec_E hb_X n 293 12 [(0, .inr (.inl 215)), (1, .inl 1580)] [] w' r ∧ ef_s [152] w w' ∧ ∀ p, ef_a w' 152 p = if i ≤ p ∧ p < 1580 then ef_a w 153 p else ef_a w 152 p := by
  intro k
  induction k with
  | zero =>
    intro n i w r hik h
    have hi : i = 1580 := by omega
    subst hi
    exact ⟨w, h, ef_s_refl, fun p => by rw [if_neg (by omega)]⟩
  | succ k ih =>
    intro n i w r hik h
    have ei : ec_tw (i : Int) = i := ec_twn (by omega)
    have t8 : ec_tw 1580 = 1580 := rfl
    have h1 := (eg293_151_12_1 h (by omega)).2
    rw [ei, ef_rd] at h1
    obtain ⟨w', h2, s2, f2⟩ := ih n (i + 1) _ r (by omega) h1
    refine ⟨w', h2, ef_s_trans (ef_s_wr List.mem_cons_self) s2, fun p => ?_⟩
    rw [f2 p, ef_a_wr_o (by decide), ef_a_wr (n := 1580) h.1 rfl (by omega) (by omega), ef_tw]
    unfold ef_u
    by_cases h3 : i + 1 ≤ p ∧ p < 1580
    · rw [if_pos h3, if_pos (by omega)]
    · rw [if_neg h3]
      by_cases h4 : p = i
      · rw [if_pos (by omega), if_pos (by omega), h4]
      · rw [if_neg (by omega), if_neg (by omega)]
theorem ew_keepB {n : Nat} {w : px_W} {r : Option Value × px_W} (h : ec_E hb_X n 292 0 [(0, .inr (.inl 215))] [] w r) : ∃ w' : px_W, r = (ec_R 1, w') ∧ ec_W hb_A w' ∧ ef_s [153, 151] w w' ∧ ef_a w' 153 = ef_a w 152 ∧ ∀ f, ec_fd w' 151 f = if f = 2 then 1 else ec_fd w 151 f := by
  have h1 := (eg292_151_0_0 h).2
  obtain ⟨w1, h2, s1, f1⟩ := ew_keepl 1580 n 0 w r rfl h1
  obtain ⟨_, hr, hW⟩ := eg292_151_2_0 h2 (Int.le_refl _)
  have m : (151 : Nat) ∈ [153, 151] := by decide
  refine ⟨_, hr, hW, ef_s_trans (ef_s_mono s1 (by decide)) (ef_s_pf m), ?_, fun f => ?_⟩
  · rw [ef_s_a (ef_s_pf (S := [151]) List.mem_cons_self) (by decide)]
    funext p
    rw [f1 p]
    by_cases hp : p < 1580
    · rw [if_pos (by omega)]
    · rw [if_neg (by omega), ef_out (n := 1580) h.1 rfl (by omega), ef_out (n := 1580) h.1 rfl (by omega)]
  · rw [ec_fd_pf (k := 151) (f := 2) h2.1 rfl (by decide), ef_s_f s1 (by decide)]
    rfl
theorem ew_againB {n : Nat} {w : px_W} {r : Option Value × px_W} (h : ec_E hb_X n 293 0 [(0, .inr (.inl 215))] [] w r) : (ec_fd w 151 2 = 0 ∧ r = (ec_R (-3), w) ∧ ec_W hb_A w) ∨ (ec_fd w 151 2 ≠ 0 ∧ ∃ w' : px_W, r = (ec_R 1, w') ∧ ec_W hb_A w' ∧ ef_s [152] w w' ∧ ef_a w' 152 = ef_a w 153) := by
  have t0 : ec_tw 0 = 0 := rfl
  have u0 := ec_tw_fd w 151 2
  by_cases c : ec_fd w 151 2 = 0
  · obtain ⟨_, hr, hW⟩ := eg293_151_0_1 h (by omega)
    exact .inl ⟨c, hr, hW⟩
  · refine .inr ⟨c, ?_⟩
    have h1 := (eg293_151_0_0 h (by omega)).2
    obtain ⟨w1, h2, s1, f1⟩ := ew_againl 1580 n 0 w r rfl h1
    obtain ⟨_, hr, hW⟩ := eg293_151_12_0 h2 (Int.le_refl _)
    refine ⟨_, hr, hW, s1, ?_⟩
    funext p
    rw [f1 p]
    by_cases hp : p < 1580
    · rw [if_pos (by omega)]
    · rw [if_neg (by omega), ef_out (n := 1580) h.1 rfl (by omega), ef_out (n := 1580) h.1 rfl (by omega)]

end
