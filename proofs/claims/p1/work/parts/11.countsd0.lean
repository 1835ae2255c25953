/-! ===== the counts: the law, piece by piece (0) ===== -/
section VD
noncomputable def vd_LF : Nat → vi_E → Bool := fun pc e => vs_ok 280 pc e
def vd_Lt : vi_Tr vi_E 12 := vt_c280
set_option maxRecDepth 1000000 in
theorem vd_L00000 : vs_tri 7 (@Prod.fst (vi_Tr vi_E 7) (vi_Tr vi_E 7) (@Prod.fst (vi_Tr vi_E 8) (vi_Tr vi_E 8) (@Prod.fst (vi_Tr vi_E 9) (vi_Tr vi_E 9) (@Prod.fst (vi_Tr vi_E 10) (vi_Tr vi_E 10) (@Prod.fst (vi_Tr vi_E 11) (vi_Tr vi_E 11) vd_Lt))))) (fun i => vd_LF (2 * (2 * (2 * (2 * (2 * (i))))))) = true := by decide +kernel
set_option maxRecDepth 1000000 in
theorem vd_L00001 : vs_tri 7 (@Prod.snd (vi_Tr vi_E 7) (vi_Tr vi_E 7) (@Prod.fst (vi_Tr vi_E 8) (vi_Tr vi_E 8) (@Prod.fst (vi_Tr vi_E 9) (vi_Tr vi_E 9) (@Prod.fst (vi_Tr vi_E 10) (vi_Tr vi_E 10) (@Prod.fst (vi_Tr vi_E 11) (vi_Tr vi_E 11) vd_Lt))))) (fun i => vd_LF (2 * (2 * (2 * (2 * (2 * (i) + 1)))))) = true := by decide +kernel
set_option maxRecDepth 1000000 in
theorem vd_L00010 : vs_tri 7 (@Prod.fst (vi_Tr vi_E 7) (vi_Tr vi_E 7) (@Prod.snd (vi_Tr vi_E 8) (vi_Tr vi_E 8) (@Prod.fst (vi_Tr vi_E 9) (vi_Tr vi_E 9) (@Prod.fst (vi_Tr vi_E 10) (vi_Tr vi_E 10) (@Prod.fst (vi_Tr vi_E 11) (vi_Tr vi_E 11) vd_Lt))))) (fun i => vd_LF (2 * (2 * (2 * (2 * (2 * (i)) + 1))))) = true := by decide +kernel
set_option maxRecDepth 1000000 in
theorem vd_L00011 : vs_tri 7 (@Prod.snd (vi_Tr vi_E 7) (vi_Tr vi_E 7) (@Prod.snd (vi_Tr vi_E 8) (vi_Tr vi_E 8) (@Prod.fst (vi_Tr vi_E 9) (vi_Tr vi_E 9) (@Prod.fst (vi_Tr vi_E 10) (vi_Tr vi_E 10) (@Prod.fst (vi_Tr vi_E 11) (vi_Tr vi_E 11) vd_Lt))))) (fun i => vd_LF (2 * (2 * (2 * (2 * (2 * (i) + 1) + 1))))) = true := by decide +kernel
set_option maxRecDepth 1000000 in
theorem vd_L00100 : vs_tri 7 (@Prod.fst (vi_Tr vi_E 7) (vi_Tr vi_E 7) (@Prod.fst (vi_Tr vi_E 8) (vi_Tr vi_E 8) (@Prod.snd (vi_Tr vi_E 9) (vi_Tr vi_E 9) (@Prod.fst (vi_Tr vi_E 10) (vi_Tr vi_E 10) (@Prod.fst (vi_Tr vi_E 11) (vi_Tr vi_E 11) vd_Lt))))) (fun i => vd_LF (2 * (2 * (2 * (2 * (2 * (i))) + 1)))) = true := by decide +kernel
set_option maxRecDepth 1000000 in
theorem vd_L00101 : vs_tri 7 (@Prod.snd (vi_Tr vi_E 7) (vi_Tr vi_E 7) (@Prod.fst (vi_Tr vi_E 8) (vi_Tr vi_E 8) (@Prod.snd (vi_Tr vi_E 9) (vi_Tr vi_E 9) (@Prod.fst (vi_Tr vi_E 10) (vi_Tr vi_E 10) (@Prod.fst (vi_Tr vi_E 11) (vi_Tr vi_E 11) vd_Lt))))) (fun i => vd_LF (2 * (2 * (2 * (2 * (2 * (i) + 1)) + 1)))) = true := by decide +kernel
set_option maxRecDepth 1000000 in
theorem vd_L00110 : vs_tri 7 (@Prod.fst (vi_Tr vi_E 7) (vi_Tr vi_E 7) (@Prod.snd (vi_Tr vi_E 8) (vi_Tr vi_E 8) (@Prod.snd (vi_Tr vi_E 9) (vi_Tr vi_E 9) (@Prod.fst (vi_Tr vi_E 10) (vi_Tr vi_E 10) (@Prod.fst (vi_Tr vi_E 11) (vi_Tr vi_E 11) vd_Lt))))) (fun i => vd_LF (2 * (2 * (2 * (2 * (2 * (i)) + 1) + 1)))) = true := by decide +kernel
set_option maxRecDepth 1000000 in
theorem vd_L00111 : vs_tri 7 (@Prod.snd (vi_Tr vi_E 7) (vi_Tr vi_E 7) (@Prod.snd (vi_Tr vi_E 8) (vi_Tr vi_E 8) (@Prod.snd (vi_Tr vi_E 9) (vi_Tr vi_E 9) (@Prod.fst (vi_Tr vi_E 10) (vi_Tr vi_E 10) (@Prod.fst (vi_Tr vi_E 11) (vi_Tr vi_E 11) vd_Lt))))) (fun i => vd_LF (2 * (2 * (2 * (2 * (2 * (i) + 1) + 1) + 1)))) = true := by decide +kernel
end VD
