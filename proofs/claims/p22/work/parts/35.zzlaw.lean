noncomputable section
/-! WHAT THE LAW OF THIS CLAIM HOLDS AT ITS HEAD: nothing kept (A), something kept (B) -/
def hb_RA : sy_T := [(0, 3072), (0, 3072), (0, 6)]
def hb_FA : List sy_Fa := [(29, (1, []), .inl (0, [(2, 1)])), (152, (6, []), .inl (0, [(2, 1)])), (0, (14, []), .inl (0, [])), (151, (2, []), .inl (0, []))]
def hb_RB : sy_T := [(0, 3072), (0, 3072), (0, 6), (0, 6)]
def hb_FB : List sy_Fa := [(29, (1, []), .inl (0, [(2, 1)])), (152, (6, []), .inl (0, [(2, 1)])), (87, (1, []), .inl (0, [(3, 1)])), (153, (6, []), .inl (0, [(3, 1)])), (0, (14, []), .inl (1, [])), (151, (2, []), .inl (1, []))]
def hb_V0 : List Int := [0]
def hb_ps : List Nat := [6]
def hb_zs : List (Nat × Nat × Nat) := [(141, 67, 1)]

end
