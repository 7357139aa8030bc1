noncomputable section
/-! WHAT THE LAW OF THIS CLAIM HOLDS AT ITS HEAD: nothing kept (A), something kept (B) -/
def hb_RA : sy_T := [(0, 3072), (0, 3072), (0, 200)]
def hb_FA : List sy_Fa := [(137, (0, []), .inl (0, [(2, 1)])), (151, (4, []), .inl (0, [(2, 1)])), (0, (14, []), .inl (0, [])), (151, (2, []), .inl (0, []))]
def hb_RB : sy_T := [(0, 3072), (0, 3072), (0, 200)]
def hb_FB : List sy_Fa := [(137, (0, []), .inl (0, [(2, 1)])), (151, (4, []), .inl (0, [(2, 1)])), (0, (14, []), .inl (1, [])), (151, (2, []), .inl (1, []))]
def hb_V0 : List Int := [0]
def hb_ps : List Nat := []
def hb_zs : List (Nat × Nat × Nat) := [(154, 20, 1)]

end
