noncomputable section
/-! WHAT THE LAW OF THIS CLAIM HOLDS AT ITS HEAD: nothing kept (A), something kept (B) -/
def hb_RA : sy_T := [(0, 3072), (0, 3072)]
def hb_FA : List sy_Fa := []
def hb_RB : sy_T := [(0, 3072), (0, 3072)]
def hb_FB : List sy_Fa := []
def hb_FS : List sy_Fa := [(29, (1, []), .inl (0, [])), (152, (6, []), .inl (0, [])), (29, (7, []), .inl (0, [])), (152, (7, []), .inl (0, [])), (0, (14, []), .inl (0, [])), (151, (2, []), .inl (0, [])), (29, (0, []), .inl (10, [])), (152, (12, []), .inl (10, [])), (29, (9, []), .inl (0, [])), (152, (8, []), .inl (0, []))]
def hb_V0 : List Int := []
def hb_ps : List Nat := []
def hb_zs : List (Nat × Nat × Nat) := []

end
