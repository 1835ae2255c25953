/-! ===== the counts: the law, piece by piece (3) ===== -/
section VD
set_option maxRecDepth 1000000 in
theorem vd_L11000 : vs_tri 7 (@Prod.fst (vi_Tr vi_E 7) (vi_Tr vi_E 7) (@Prod.fst (vi_Tr vi_E 8) (vi_Tr vi_E 8) (@Prod.fst (vi_Tr vi_E 9) (vi_Tr vi_E 9) (@Prod.snd (vi_Tr vi_E 10) (vi_Tr vi_E 10) (@Prod.snd (vi_Tr vi_E 11) (vi_Tr vi_E 11) vd_Lt))))) (fun i => vd_LF (2 * (2 * (2 * (2 * (2 * (i)))) + 1) + 1)) = true := by decide +kernel
set_option maxRecDepth 1000000 in
theorem vd_L11001 : vs_tri 7 (@Prod.snd (vi_Tr vi_E 7) (vi_Tr vi_E 7) (@Prod.fst (vi_Tr vi_E 8) (vi_Tr vi_E 8) (@Prod.fst (vi_Tr vi_E 9) (vi_Tr vi_E 9) (@Prod.snd (vi_Tr vi_E 10) (vi_Tr vi_E 10) (@Prod.snd (vi_Tr vi_E 11) (vi_Tr vi_E 11) vd_Lt))))) (fun i => vd_LF (2 * (2 * (2 * (2 * (2 * (i) + 1))) + 1) + 1)) = true := by decide +kernel
set_option maxRecDepth 1000000 in
theorem vd_L11010 : vs_tri 7 (@Prod.fst (vi_Tr vi_E 7) (vi_Tr vi_E 7) (@Prod.snd (vi_Tr vi_E 8) (vi_Tr vi_E 8) (@Prod.fst (vi_Tr vi_E 9) (vi_Tr vi_E 9) (@Prod.snd (vi_Tr vi_E 10) (vi_Tr vi_E 10) (@Prod.snd (vi_Tr vi_E 11) (vi_Tr vi_E 11) vd_Lt))))) (fun i => vd_LF (2 * (2 * (2 * (2 * (2 * (i)) + 1)) + 1) + 1)) = true := by decide +kernel
set_option maxRecDepth 1000000 in
theorem vd_L11011 : vs_tri 7 (@Prod.snd (vi_Tr vi_E 7) (vi_Tr vi_E 7) (@Prod.snd (vi_Tr vi_E 8) (vi_Tr vi_E 8) (@Prod.fst (vi_Tr vi_E 9) (vi_Tr vi_E 9) (@Prod.snd (vi_Tr vi_E 10) (vi_Tr vi_E 10) (@Prod.snd (vi_Tr vi_E 11) (vi_Tr vi_E 11) vd_Lt))))) (fun i => vd_LF (2 * (2 * (2 * (2 * (2 * (i) + 1) + 1)) + 1) + 1)) = true := by decide +kernel
set_option maxRecDepth 1000000 in
theorem vd_L11100 : vs_tri 7 (@Prod.fst (vi_Tr vi_E 7) (vi_Tr vi_E 7) (@Prod.fst (vi_Tr vi_E 8) (vi_Tr vi_E 8) (@Prod.snd (vi_Tr vi_E 9) (vi_Tr vi_E 9) (@Prod.snd (vi_Tr vi_E 10) (vi_Tr vi_E 10) (@Prod.snd (vi_Tr vi_E 11) (vi_Tr vi_E 11) vd_Lt))))) (fun i => vd_LF (2 * (2 * (2 * (2 * (2 * (i))) + 1) + 1) + 1)) = true := by decide +kernel
set_option maxRecDepth 1000000 in
theorem vd_L11101 : vs_tri 7 (@Prod.snd (vi_Tr vi_E 7) (vi_Tr vi_E 7) (@Prod.fst (vi_Tr vi_E 8) (vi_Tr vi_E 8) (@Prod.snd (vi_Tr vi_E 9) (vi_Tr vi_E 9) (@Prod.snd (vi_Tr vi_E 10) (vi_Tr vi_E 10) (@Prod.snd (vi_Tr vi_E 11) (vi_Tr vi_E 11) vd_Lt))))) (fun i => vd_LF (2 * (2 * (2 * (2 * (2 * (i) + 1)) + 1) + 1) + 1)) = true := by decide +kernel
set_option maxRecDepth 1000000 in
theorem vd_L11110 : vs_tri 7 (@Prod.fst (vi_Tr vi_E 7) (vi_Tr vi_E 7) (@Prod.snd (vi_Tr vi_E 8) (vi_Tr vi_E 8) (@Prod.snd (vi_Tr vi_E 9) (vi_Tr vi_E 9) (@Prod.snd (vi_Tr vi_E 10) (vi_Tr vi_E 10) (@Prod.snd (vi_Tr vi_E 11) (vi_Tr vi_E 11) vd_Lt))))) (fun i => vd_LF (2 * (2 * (2 * (2 * (2 * (i)) + 1) + 1) + 1) + 1)) = true := by decide +kernel
set_option maxRecDepth 1000000 in
theorem vd_L11111 : vs_tri 7 (@Prod.snd (vi_Tr vi_E 7) (vi_Tr vi_E 7) (@Prod.snd (vi_Tr vi_E 8) (vi_Tr vi_E 8) (@Prod.snd (vi_Tr vi_E 9) (vi_Tr vi_E 9) (@Prod.snd (vi_Tr vi_E 10) (vi_Tr vi_E 10) (@Prod.snd (vi_Tr vi_E 11) (vi_Tr vi_E 11) vd_Lt))))) (fun i => vd_LF (2 * (2 * (2 * (2 * (2 * (i) + 1) + 1) + 1) + 1) + 1)) = true := by decide +kernel
end VD
