/-! ===== the counts: the law, piece by piece (2) ===== -/
section VD
set_option maxRecDepth 1000000 in
theorem vd_L10000 : vs_tri 7 (@Prod.fst (vi_Tr vi_E 7) (vi_Tr vi_E 7) (@Prod.fst (vi_Tr vi_E 8) (vi_Tr vi_E 8) (@Prod.fst (vi_Tr vi_E 9) (vi_Tr vi_E 9) (@Prod.fst (vi_Tr vi_E 10) (vi_Tr vi_E 10) (@Prod.snd (vi_Tr vi_E 11) (vi_Tr vi_E 11) vd_Lt))))) (fun i => vd_LF (2 * (2 * (2 * (2 * (2 * (i))))) + 1)) = true := by decide +kernel
set_option maxRecDepth 1000000 in
theorem vd_L10001 : vs_tri 7 (@Prod.snd (vi_Tr vi_E 7) (vi_Tr vi_E 7) (@Prod.fst (vi_Tr vi_E 8) (vi_Tr vi_E 8) (@Prod.fst (vi_Tr vi_E 9) (vi_Tr vi_E 9) (@Prod.fst (vi_Tr vi_E 10) (vi_Tr vi_E 10) (@Prod.snd (vi_Tr vi_E 11) (vi_Tr vi_E 11) vd_Lt))))) (fun i => vd_LF (2 * (2 * (2 * (2 * (2 * (i) + 1)))) + 1)) = true := by decide +kernel
set_option maxRecDepth 1000000 in
theorem vd_L10010 : vs_tri 7 (@Prod.fst (vi_Tr vi_E 7) (vi_Tr vi_E 7) (@Prod.snd (vi_Tr vi_E 8) (vi_Tr vi_E 8) (@Prod.fst (vi_Tr vi_E 9) (vi_Tr vi_E 9) (@Prod.fst (vi_Tr vi_E 10) (vi_Tr vi_E 10) (@Prod.snd (vi_Tr vi_E 11) (vi_Tr vi_E 11) vd_Lt))))) (fun i => vd_LF (2 * (2 * (2 * (2 * (2 * (i)) + 1))) + 1)) = true := by decide +kernel
set_option maxRecDepth 1000000 in
theorem vd_L10011 : vs_tri 7 (@Prod.snd (vi_Tr vi_E 7) (vi_Tr vi_E 7) (@Prod.snd (vi_Tr vi_E 8) (vi_Tr vi_E 8) (@Prod.fst (vi_Tr vi_E 9) (vi_Tr vi_E 9) (@Prod.fst (vi_Tr vi_E 10) (vi_Tr vi_E 10) (@Prod.snd (vi_Tr vi_E 11) (vi_Tr vi_E 11) vd_Lt))))) (fun i => vd_LF (2 * (2 * (2 * (2 * (2 * (i) + 1) + 1))) + 1)) = true := by decide +kernel
set_option maxRecDepth 1000000 in
theorem vd_L10100 : vs_tri 7 (@Prod.fst (vi_Tr vi_E 7) (vi_Tr vi_E 7) (@Prod.fst (vi_Tr vi_E 8) (vi_Tr vi_E 8) (@Prod.snd (vi_Tr vi_E 9) (vi_Tr vi_E 9) (@Prod.fst (vi_Tr vi_E 10) (vi_Tr vi_E 10) (@Prod.snd (vi_Tr vi_E 11) (vi_Tr vi_E 11) vd_Lt))))) (fun i => vd_LF (2 * (2 * (2 * (2 * (2 * (i))) + 1)) + 1)) = true := by decide +kernel
set_option maxRecDepth 1000000 in
theorem vd_L10101 : vs_tri 7 (@Prod.snd (vi_Tr vi_E 7) (vi_Tr vi_E 7) (@Prod.fst (vi_Tr vi_E 8) (vi_Tr vi_E 8) (@Prod.snd (vi_Tr vi_E 9) (vi_Tr vi_E 9) (@Prod.fst (vi_Tr vi_E 10) (vi_Tr vi_E 10) (@Prod.snd (vi_Tr vi_E 11) (vi_Tr vi_E 11) vd_Lt))))) (fun i => vd_LF (2 * (2 * (2 * (2 * (2 * (i) + 1)) + 1)) + 1)) = true := by decide +kernel
set_option maxRecDepth 1000000 in
theorem vd_L10110 : vs_tri 7 (@Prod.fst (vi_Tr vi_E 7) (vi_Tr vi_E 7) (@Prod.snd (vi_Tr vi_E 8) (vi_Tr vi_E 8) (@Prod.snd (vi_Tr vi_E 9) (vi_Tr vi_E 9) (@Prod.fst (vi_Tr vi_E 10) (vi_Tr vi_E 10) (@Prod.snd (vi_Tr vi_E 11) (vi_Tr vi_E 11) vd_Lt))))) (fun i => vd_LF (2 * (2 * (2 * (2 * (2 * (i)) + 1) + 1)) + 1)) = true := by decide +kernel
set_option maxRecDepth 1000000 in
theorem vd_L10111 : vs_tri 7 (@Prod.snd (vi_Tr vi_E 7) (vi_Tr vi_E 7) (@Prod.snd (vi_Tr vi_E 8) (vi_Tr vi_E 8) (@Prod.snd (vi_Tr vi_E 9) (vi_Tr vi_E 9) (@Prod.fst (vi_Tr vi_E 10) (vi_Tr vi_E 10) (@Prod.snd (vi_Tr vi_E 11) (vi_Tr vi_E 11) vd_Lt))))) (fun i => vd_LF (2 * (2 * (2 * (2 * (2 * (i) + 1) + 1) + 1)) + 1)) = true := by decide +kernel
end VD
