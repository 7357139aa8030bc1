noncomputable section
/-! WHAT THE LAW OF THIS CLAIM HOLDS AT ITS HEAD: nothing kept (A), something kept (B) -/
def hb_RA : sy_T := [(0, 3072), (0, 3072)]
def hb_FA : List sy_Fa := []
def hb_RB : sy_T := [(0, 3072), (0, 3072)]
def hb_FB : List sy_Fa := []
def hb_FS : List sy_Fa := [(15, (0, []), .inl (0, [])), (15, (5, []), .inl (0, [])), (15, (10, []), .inl (0, [])), (152, (3, []), .inl (0, [])), (152, (4, []), .inl (0, [])), (152, (5, []), .inl (0, [])), (0, (14, []), .inl (0, [])), (151, (2, []), .inl (0, [])), (134, (0, []), .inl (0, [])), (126, (0, []), .inl (0, [])), (151, (19, []), .inl (0, []))]
def hb_V0 : List Int := []
def hb_ps : List Nat := []
def hb_zs : List (Nat × Nat × Nat) := []

end
