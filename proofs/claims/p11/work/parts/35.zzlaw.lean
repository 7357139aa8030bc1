noncomputable section
/-! WHAT THE LAW OF THIS CLAIM HOLDS AT ITS HEAD: nothing kept (A), something kept (B) -/
def hb_RA : sy_T := [(0, 3072), (0, 3072), (0, 12)]
def hb_FA : List sy_Fa := [(15, (0, []), .inl (0, [(2, 1)])), (152, (3, []), .inl (0, [(2, 1)])), (0, (14, []), .inl (0, [])), (151, (2, []), .inl (0, []))]
def hb_RB : sy_T := [(0, 3072), (0, 3072), (0, 12), (0, 12)]
def hb_FB : List sy_Fa := [(15, (0, []), .inl (0, [(2, 1)])), (152, (3, []), .inl (0, [(2, 1)])), (73, (0, []), .inl (0, [(3, 1)])), (153, (3, []), .inl (0, [(3, 1)])), (0, (14, []), .inl (1, [])), (151, (2, []), .inl (1, []))]
def hb_V0 : List Int := [0]
def hb_ps : List Nat := [3]
def hb_zs : List (Nat × Nat × Nat) := [(130, 16, 2)]

end
