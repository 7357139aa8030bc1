noncomputable section
/-! this program -/
def hb_X : ec_X := (hb_cl, hb_lt, hb_P, hb_P, hb_A, none)
theorem hb_ec {n j pc : Nat} {L : List (Nat × ec_V)} {st : List ec_V} {w : px_W} {r : Option Value × px_W} (t : List ec_O) (hk : ec_k hb_P (px_G hb_B) hb_A j t pc = true) (hh : ec_hh t = true) (h : ec_E hb_X (n + 1) j pc L st w r) : ec_p hb_X n j r t L st w True := ec_run (X := hb_X) hb_Gok t hk hh h
theorem hb_ecw {n j pc : Nat} {L : List (Nat × ec_V)} {st : List ec_V} {w : px_W} {r : Option Value × px_W} (t : List ec_O) (hk : ec_k hb_P (px_G hb_B) hb_A j t pc = true) (h : ec_E hb_X n j pc L st w r) : ec_p hb_X n j r t L st w True := ec_p_ok (X := hb_X) hb_Gok t n pc L st w True hk trivial (Nat.le_succ n) (.inl (Nat.le_refl n)) h

end
