/-! ===== the counts: the law, put together; the methods; all together ===== -/
section VD
theorem vd_L0000 : vs_tri 8 (@Prod.fst (vi_Tr vi_E 8) (vi_Tr vi_E 8) (@Prod.fst (vi_Tr vi_E 9) (vi_Tr vi_E 9) (@Prod.fst (vi_Tr vi_E 10) (vi_Tr vi_E 10) (@Prod.fst (vi_Tr vi_E 11) (vi_Tr vi_E 11) vd_Lt)))) (fun i => vd_LF (2 * (2 * (2 * (2 * (i)))))) = true := by
  show and (vs_tri 7 (@Prod.fst (vi_Tr vi_E 7) (vi_Tr vi_E 7) (@Prod.fst (vi_Tr vi_E 8) (vi_Tr vi_E 8) (@Prod.fst (vi_Tr vi_E 9) (vi_Tr vi_E 9) (@Prod.fst (vi_Tr vi_E 10) (vi_Tr vi_E 10) (@Prod.fst (vi_Tr vi_E 11) (vi_Tr vi_E 11) vd_Lt))))) (fun i => vd_LF (2 * (2 * (2 * (2 * (2 * (i)))))))) (vs_tri 7 (@Prod.snd (vi_Tr vi_E 7) (vi_Tr vi_E 7) (@Prod.fst (vi_Tr vi_E 8) (vi_Tr vi_E 8) (@Prod.fst (vi_Tr vi_E 9) (vi_Tr vi_E 9) (@Prod.fst (vi_Tr vi_E 10) (vi_Tr vi_E 10) (@Prod.fst (vi_Tr vi_E 11) (vi_Tr vi_E 11) vd_Lt))))) (fun i => vd_LF (2 * (2 * (2 * (2 * (2 * (i) + 1))))))) = true
  rw [vd_L00000, vd_L00001]
  rfl
theorem vd_L0001 : vs_tri 8 (@Prod.snd (vi_Tr vi_E 8) (vi_Tr vi_E 8) (@Prod.fst (vi_Tr vi_E 9) (vi_Tr vi_E 9) (@Prod.fst (vi_Tr vi_E 10) (vi_Tr vi_E 10) (@Prod.fst (vi_Tr vi_E 11) (vi_Tr vi_E 11) vd_Lt)))) (fun i => vd_LF (2 * (2 * (2 * (2 * (i) + 1))))) = true := by
  show and (vs_tri 7 (@Prod.fst (vi_Tr vi_E 7) (vi_Tr vi_E 7) (@Prod.snd (vi_Tr vi_E 8) (vi_Tr vi_E 8) (@Prod.fst (vi_Tr vi_E 9) (vi_Tr vi_E 9) (@Prod.fst (vi_Tr vi_E 10) (vi_Tr vi_E 10) (@Prod.fst (vi_Tr vi_E 11) (vi_Tr vi_E 11) vd_Lt))))) (fun i => vd_LF (2 * (2 * (2 * (2 * (2 * (i)) + 1)))))) (vs_tri 7 (@Prod.snd (vi_Tr vi_E 7) (vi_Tr vi_E 7) (@Prod.snd (vi_Tr vi_E 8) (vi_Tr vi_E 8) (@Prod.fst (vi_Tr vi_E 9) (vi_Tr vi_E 9) (@Prod.fst (vi_Tr vi_E 10) (vi_Tr vi_E 10) (@Prod.fst (vi_Tr vi_E 11) (vi_Tr vi_E 11) vd_Lt))))) (fun i => vd_LF (2 * (2 * (2 * (2 * (2 * (i) + 1) + 1)))))) = true
  rw [vd_L00010, vd_L00011]
  rfl
theorem vd_L0010 : vs_tri 8 (@Prod.fst (vi_Tr vi_E 8) (vi_Tr vi_E 8) (@Prod.snd (vi_Tr vi_E 9) (vi_Tr vi_E 9) (@Prod.fst (vi_Tr vi_E 10) (vi_Tr vi_E 10) (@Prod.fst (vi_Tr vi_E 11) (vi_Tr vi_E 11) vd_Lt)))) (fun i => vd_LF (2 * (2 * (2 * (2 * (i)) + 1)))) = true := by
  show and (vs_tri 7 (@Prod.fst (vi_Tr vi_E 7) (vi_Tr vi_E 7) (@Prod.fst (vi_Tr vi_E 8) (vi_Tr vi_E 8) (@Prod.snd (vi_Tr vi_E 9) (vi_Tr vi_E 9) (@Prod.fst (vi_Tr vi_E 10) (vi_Tr vi_E 10) (@Prod.fst (vi_Tr vi_E 11) (vi_Tr vi_E 11) vd_Lt))))) (fun i => vd_LF (2 * (2 * (2 * (2 * (2 * (i))) + 1))))) (vs_tri 7 (@Prod.snd (vi_Tr vi_E 7) (vi_Tr vi_E 7) (@Prod.fst (vi_Tr vi_E 8) (vi_Tr vi_E 8) (@Prod.snd (vi_Tr vi_E 9) (vi_Tr vi_E 9) (@Prod.fst (vi_Tr vi_E 10) (vi_Tr vi_E 10) (@Prod.fst (vi_Tr vi_E 11) (vi_Tr vi_E 11) vd_Lt))))) (fun i => vd_LF (2 * (2 * (2 * (2 * (2 * (i) + 1)) + 1))))) = true
  rw [vd_L00100, vd_L00101]
  rfl
theorem vd_L0011 : vs_tri 8 (@Prod.snd (vi_Tr vi_E 8) (vi_Tr vi_E 8) (@Prod.snd (vi_Tr vi_E 9) (vi_Tr vi_E 9) (@Prod.fst (vi_Tr vi_E 10) (vi_Tr vi_E 10) (@Prod.fst (vi_Tr vi_E 11) (vi_Tr vi_E 11) vd_Lt)))) (fun i => vd_LF (2 * (2 * (2 * (2 * (i) + 1) + 1)))) = true := by
  show and (vs_tri 7 (@Prod.fst (vi_Tr vi_E 7) (vi_Tr vi_E 7) (@Prod.snd (vi_Tr vi_E 8) (vi_Tr vi_E 8) (@Prod.snd (vi_Tr vi_E 9) (vi_Tr vi_E 9) (@Prod.fst (vi_Tr vi_E 10) (vi_Tr vi_E 10) (@Prod.fst (vi_Tr vi_E 11) (vi_Tr vi_E 11) vd_Lt))))) (fun i => vd_LF (2 * (2 * (2 * (2 * (2 * (i)) + 1) + 1))))) (vs_tri 7 (@Prod.snd (vi_Tr vi_E 7) (vi_Tr vi_E 7) (@Prod.snd (vi_Tr vi_E 8) (vi_Tr vi_E 8) (@Prod.snd (vi_Tr vi_E 9) (vi_Tr vi_E 9) (@Prod.fst (vi_Tr vi_E 10) (vi_Tr vi_E 10) (@Prod.fst (vi_Tr vi_E 11) (vi_Tr vi_E 11) vd_Lt))))) (fun i => vd_LF (2 * (2 * (2 * (2 * (2 * (i) + 1) + 1) + 1))))) = true
  rw [vd_L00110, vd_L00111]
  rfl
theorem vd_L0100 : vs_tri 8 (@Prod.fst (vi_Tr vi_E 8) (vi_Tr vi_E 8) (@Prod.fst (vi_Tr vi_E 9) (vi_Tr vi_E 9) (@Prod.snd (vi_Tr vi_E 10) (vi_Tr vi_E 10) (@Prod.fst (vi_Tr vi_E 11) (vi_Tr vi_E 11) vd_Lt)))) (fun i => vd_LF (2 * (2 * (2 * (2 * (i))) + 1))) = true := by
  show and (vs_tri 7 (@Prod.fst (vi_Tr vi_E 7) (vi_Tr vi_E 7) (@Prod.fst (vi_Tr vi_E 8) (vi_Tr vi_E 8) (@Prod.fst (vi_Tr vi_E 9) (vi_Tr vi_E 9) (@Prod.snd (vi_Tr vi_E 10) (vi_Tr vi_E 10) (@Prod.fst (vi_Tr vi_E 11) (vi_Tr vi_E 11) vd_Lt))))) (fun i => vd_LF (2 * (2 * (2 * (2 * (2 * (i)))) + 1)))) (vs_tri 7 (@Prod.snd (vi_Tr vi_E 7) (vi_Tr vi_E 7) (@Prod.fst (vi_Tr vi_E 8) (vi_Tr vi_E 8) (@Prod.fst (vi_Tr vi_E 9) (vi_Tr vi_E 9) (@Prod.snd (vi_Tr vi_E 10) (vi_Tr vi_E 10) (@Prod.fst (vi_Tr vi_E 11) (vi_Tr vi_E 11) vd_Lt))))) (fun i => vd_LF (2 * (2 * (2 * (2 * (2 * (i) + 1))) + 1)))) = true
  rw [vd_L01000, vd_L01001]
  rfl
theorem vd_L0101 : vs_tri 8 (@Prod.snd (vi_Tr vi_E 8) (vi_Tr vi_E 8) (@Prod.fst (vi_Tr vi_E 9) (vi_Tr vi_E 9) (@Prod.snd (vi_Tr vi_E 10) (vi_Tr vi_E 10) (@Prod.fst (vi_Tr vi_E 11) (vi_Tr vi_E 11) vd_Lt)))) (fun i => vd_LF (2 * (2 * (2 * (2 * (i) + 1)) + 1))) = true := by
  show and (vs_tri 7 (@Prod.fst (vi_Tr vi_E 7) (vi_Tr vi_E 7) (@Prod.snd (vi_Tr vi_E 8) (vi_Tr vi_E 8) (@Prod.fst (vi_Tr vi_E 9) (vi_Tr vi_E 9) (@Prod.snd (vi_Tr vi_E 10) (vi_Tr vi_E 10) (@Prod.fst (vi_Tr vi_E 11) (vi_Tr vi_E 11) vd_Lt))))) (fun i => vd_LF (2 * (2 * (2 * (2 * (2 * (i)) + 1)) + 1)))) (vs_tri 7 (@Prod.snd (vi_Tr vi_E 7) (vi_Tr vi_E 7) (@Prod.snd (vi_Tr vi_E 8) (vi_Tr vi_E 8) (@Prod.fst (vi_Tr vi_E 9) (vi_Tr vi_E 9) (@Prod.snd (vi_Tr vi_E 10) (vi_Tr vi_E 10) (@Prod.fst (vi_Tr vi_E 11) (vi_Tr vi_E 11) vd_Lt))))) (fun i => vd_LF (2 * (2 * (2 * (2 * (2 * (i) + 1) + 1)) + 1)))) = true
  rw [vd_L01010, vd_L01011]
  rfl
theorem vd_L0110 : vs_tri 8 (@Prod.fst (vi_Tr vi_E 8) (vi_Tr vi_E 8) (@Prod.snd (vi_Tr vi_E 9) (vi_Tr vi_E 9) (@Prod.snd (vi_Tr vi_E 10) (vi_Tr vi_E 10) (@Prod.fst (vi_Tr vi_E 11) (vi_Tr vi_E 11) vd_Lt)))) (fun i => vd_LF (2 * (2 * (2 * (2 * (i)) + 1) + 1))) = true := by
  show and (vs_tri 7 (@Prod.fst (vi_Tr vi_E 7) (vi_Tr vi_E 7) (@Prod.fst (vi_Tr vi_E 8) (vi_Tr vi_E 8) (@Prod.snd (vi_Tr vi_E 9) (vi_Tr vi_E 9) (@Prod.snd (vi_Tr vi_E 10) (vi_Tr vi_E 10) (@Prod.fst (vi_Tr vi_E 11) (vi_Tr vi_E 11) vd_Lt))))) (fun i => vd_LF (2 * (2 * (2 * (2 * (2 * (i))) + 1) + 1)))) (vs_tri 7 (@Prod.snd (vi_Tr vi_E 7) (vi_Tr vi_E 7) (@Prod.fst (vi_Tr vi_E 8) (vi_Tr vi_E 8) (@Prod.snd (vi_Tr vi_E 9) (vi_Tr vi_E 9) (@Prod.snd (vi_Tr vi_E 10) (vi_Tr vi_E 10) (@Prod.fst (vi_Tr vi_E 11) (vi_Tr vi_E 11) vd_Lt))))) (fun i => vd_LF (2 * (2 * (2 * (2 * (2 * (i) + 1)) + 1) + 1)))) = true
  rw [vd_L01100, vd_L01101]
  rfl
theorem vd_L0111 : vs_tri 8 (@Prod.snd (vi_Tr vi_E 8) (vi_Tr vi_E 8) (@Prod.snd (vi_Tr vi_E 9) (vi_Tr vi_E 9) (@Prod.snd (vi_Tr vi_E 10) (vi_Tr vi_E 10) (@Prod.fst (vi_Tr vi_E 11) (vi_Tr vi_E 11) vd_Lt)))) (fun i => vd_LF (2 * (2 * (2 * (2 * (i) + 1) + 1) + 1))) = true := by
  show and (vs_tri 7 (@Prod.fst (vi_Tr vi_E 7) (vi_Tr vi_E 7) (@Prod.snd (vi_Tr vi_E 8) (vi_Tr vi_E 8) (@Prod.snd (vi_Tr vi_E 9) (vi_Tr vi_E 9) (@Prod.snd (vi_Tr vi_E 10) (vi_Tr vi_E 10) (@Prod.fst (vi_Tr vi_E 11) (vi_Tr vi_E 11) vd_Lt))))) (fun i => vd_LF (2 * (2 * (2 * (2 * (2 * (i)) + 1) + 1) + 1)))) (vs_tri 7 (@Prod.snd (vi_Tr vi_E 7) (vi_Tr vi_E 7) (@Prod.snd (vi_Tr vi_E 8) (vi_Tr vi_E 8) (@Prod.snd (vi_Tr vi_E 9) (vi_Tr vi_E 9) (@Prod.snd (vi_Tr vi_E 10) (vi_Tr vi_E 10) (@Prod.fst (vi_Tr vi_E 11) (vi_Tr vi_E 11) vd_Lt))))) (fun i => vd_LF (2 * (2 * (2 * (2 * (2 * (i) + 1) + 1) + 1) + 1)))) = true
  rw [vd_L01110, vd_L01111]
  rfl
theorem vd_L1000 : vs_tri 8 (@Prod.fst (vi_Tr vi_E 8) (vi_Tr vi_E 8) (@Prod.fst (vi_Tr vi_E 9) (vi_Tr vi_E 9) (@Prod.fst (vi_Tr vi_E 10) (vi_Tr vi_E 10) (@Prod.snd (vi_Tr vi_E 11) (vi_Tr vi_E 11) vd_Lt)))) (fun i => vd_LF (2 * (2 * (2 * (2 * (i)))) + 1)) = true := by
  show and (vs_tri 7 (@Prod.fst (vi_Tr vi_E 7) (vi_Tr vi_E 7) (@Prod.fst (vi_Tr vi_E 8) (vi_Tr vi_E 8) (@Prod.fst (vi_Tr vi_E 9) (vi_Tr vi_E 9) (@Prod.fst (vi_Tr vi_E 10) (vi_Tr vi_E 10) (@Prod.snd (vi_Tr vi_E 11) (vi_Tr vi_E 11) vd_Lt))))) (fun i => vd_LF (2 * (2 * (2 * (2 * (2 * (i))))) + 1))) (vs_tri 7 (@Prod.snd (vi_Tr vi_E 7) (vi_Tr vi_E 7) (@Prod.fst (vi_Tr vi_E 8) (vi_Tr vi_E 8) (@Prod.fst (vi_Tr vi_E 9) (vi_Tr vi_E 9) (@Prod.fst (vi_Tr vi_E 10) (vi_Tr vi_E 10) (@Prod.snd (vi_Tr vi_E 11) (vi_Tr vi_E 11) vd_Lt))))) (fun i => vd_LF (2 * (2 * (2 * (2 * (2 * (i) + 1)))) + 1))) = true
  rw [vd_L10000, vd_L10001]
  rfl
theorem vd_L1001 : vs_tri 8 (@Prod.snd (vi_Tr vi_E 8) (vi_Tr vi_E 8) (@Prod.fst (vi_Tr vi_E 9) (vi_Tr vi_E 9) (@Prod.fst (vi_Tr vi_E 10) (vi_Tr vi_E 10) (@Prod.snd (vi_Tr vi_E 11) (vi_Tr vi_E 11) vd_Lt)))) (fun i => vd_LF (2 * (2 * (2 * (2 * (i) + 1))) + 1)) = true := by
  show and (vs_tri 7 (@Prod.fst (vi_Tr vi_E 7) (vi_Tr vi_E 7) (@Prod.snd (vi_Tr vi_E 8) (vi_Tr vi_E 8) (@Prod.fst (vi_Tr vi_E 9) (vi_Tr vi_E 9) (@Prod.fst (vi_Tr vi_E 10) (vi_Tr vi_E 10) (@Prod.snd (vi_Tr vi_E 11) (vi_Tr vi_E 11) vd_Lt))))) (fun i => vd_LF (2 * (2 * (2 * (2 * (2 * (i)) + 1))) + 1))) (vs_tri 7 (@Prod.snd (vi_Tr vi_E 7) (vi_Tr vi_E 7) (@Prod.snd (vi_Tr vi_E 8) (vi_Tr vi_E 8) (@Prod.fst (vi_Tr vi_E 9) (vi_Tr vi_E 9) (@Prod.fst (vi_Tr vi_E 10) (vi_Tr vi_E 10) (@Prod.snd (vi_Tr vi_E 11) (vi_Tr vi_E 11) vd_Lt))))) (fun i => vd_LF (2 * (2 * (2 * (2 * (2 * (i) + 1) + 1))) + 1))) = true
  rw [vd_L10010, vd_L10011]
  rfl
theorem vd_L1010 : vs_tri 8 (@Prod.fst (vi_Tr vi_E 8) (vi_Tr vi_E 8) (@Prod.snd (vi_Tr vi_E 9) (vi_Tr vi_E 9) (@Prod.fst (vi_Tr vi_E 10) (vi_Tr vi_E 10) (@Prod.snd (vi_Tr vi_E 11) (vi_Tr vi_E 11) vd_Lt)))) (fun i => vd_LF (2 * (2 * (2 * (2 * (i)) + 1)) + 1)) = true := by
  show and (vs_tri 7 (@Prod.fst (vi_Tr vi_E 7) (vi_Tr vi_E 7) (@Prod.fst (vi_Tr vi_E 8) (vi_Tr vi_E 8) (@Prod.snd (vi_Tr vi_E 9) (vi_Tr vi_E 9) (@Prod.fst (vi_Tr vi_E 10) (vi_Tr vi_E 10) (@Prod.snd (vi_Tr vi_E 11) (vi_Tr vi_E 11) vd_Lt))))) (fun i => vd_LF (2 * (2 * (2 * (2 * (2 * (i))) + 1)) + 1))) (vs_tri 7 (@Prod.snd (vi_Tr vi_E 7) (vi_Tr vi_E 7) (@Prod.fst (vi_Tr vi_E 8) (vi_Tr vi_E 8) (@Prod.snd (vi_Tr vi_E 9) (vi_Tr vi_E 9) (@Prod.fst (vi_Tr vi_E 10) (vi_Tr vi_E 10) (@Prod.snd (vi_Tr vi_E 11) (vi_Tr vi_E 11) vd_Lt))))) (fun i => vd_LF (2 * (2 * (2 * (2 * (2 * (i) + 1)) + 1)) + 1))) = true
  rw [vd_L10100, vd_L10101]
  rfl
theorem vd_L1011 : vs_tri 8 (@Prod.snd (vi_Tr vi_E 8) (vi_Tr vi_E 8) (@Prod.snd (vi_Tr vi_E 9) (vi_Tr vi_E 9) (@Prod.fst (vi_Tr vi_E 10) (vi_Tr vi_E 10) (@Prod.snd (vi_Tr vi_E 11) (vi_Tr vi_E 11) vd_Lt)))) (fun i => vd_LF (2 * (2 * (2 * (2 * (i) + 1) + 1)) + 1)) = true := by
  show and (vs_tri 7 (@Prod.fst (vi_Tr vi_E 7) (vi_Tr vi_E 7) (@Prod.snd (vi_Tr vi_E 8) (vi_Tr vi_E 8) (@Prod.snd (vi_Tr vi_E 9) (vi_Tr vi_E 9) (@Prod.fst (vi_Tr vi_E 10) (vi_Tr vi_E 10) (@Prod.snd (vi_Tr vi_E 11) (vi_Tr vi_E 11) vd_Lt))))) (fun i => vd_LF (2 * (2 * (2 * (2 * (2 * (i)) + 1) + 1)) + 1))) (vs_tri 7 (@Prod.snd (vi_Tr vi_E 7) (vi_Tr vi_E 7) (@Prod.snd (vi_Tr vi_E 8) (vi_Tr vi_E 8) (@Prod.snd (vi_Tr vi_E 9) (vi_Tr vi_E 9) (@Prod.fst (vi_Tr vi_E 10) (vi_Tr vi_E 10) (@Prod.snd (vi_Tr vi_E 11) (vi_Tr vi_E 11) vd_Lt))))) (fun i => vd_LF (2 * (2 * (2 * (2 * (2 * (i) + 1) + 1) + 1)) + 1))) = true
  rw [vd_L10110, vd_L10111]
  rfl
theorem vd_L1100 : vs_tri 8 (@Prod.fst (vi_Tr vi_E 8) (vi_Tr vi_E 8) (@Prod.fst (vi_Tr vi_E 9) (vi_Tr vi_E 9) (@Prod.snd (vi_Tr vi_E 10) (vi_Tr vi_E 10) (@Prod.snd (vi_Tr vi_E 11) (vi_Tr vi_E 11) vd_Lt)))) (fun i => vd_LF (2 * (2 * (2 * (2 * (i))) + 1) + 1)) = true := by
  show and (vs_tri 7 (@Prod.fst (vi_Tr vi_E 7) (vi_Tr vi_E 7) (@Prod.fst (vi_Tr vi_E 8) (vi_Tr vi_E 8) (@Prod.fst (vi_Tr vi_E 9) (vi_Tr vi_E 9) (@Prod.snd (vi_Tr vi_E 10) (vi_Tr vi_E 10) (@Prod.snd (vi_Tr vi_E 11) (vi_Tr vi_E 11) vd_Lt))))) (fun i => vd_LF (2 * (2 * (2 * (2 * (2 * (i)))) + 1) + 1))) (vs_tri 7 (@Prod.snd (vi_Tr vi_E 7) (vi_Tr vi_E 7) (@Prod.fst (vi_Tr vi_E 8) (vi_Tr vi_E 8) (@Prod.fst (vi_Tr vi_E 9) (vi_Tr vi_E 9) (@Prod.snd (vi_Tr vi_E 10) (vi_Tr vi_E 10) (@Prod.snd (vi_Tr vi_E 11) (vi_Tr vi_E 11) vd_Lt))))) (fun i => vd_LF (2 * (2 * (2 * (2 * (2 * (i) + 1))) + 1) + 1))) = true
  rw [vd_L11000, vd_L11001]
  rfl
theorem vd_L1101 : vs_tri 8 (@Prod.snd (vi_Tr vi_E 8) (vi_Tr vi_E 8) (@Prod.fst (vi_Tr vi_E 9) (vi_Tr vi_E 9) (@Prod.snd (vi_Tr vi_E 10) (vi_Tr vi_E 10) (@Prod.snd (vi_Tr vi_E 11) (vi_Tr vi_E 11) vd_Lt)))) (fun i => vd_LF (2 * (2 * (2 * (2 * (i) + 1)) + 1) + 1)) = true := by
  show and (vs_tri 7 (@Prod.fst (vi_Tr vi_E 7) (vi_Tr vi_E 7) (@Prod.snd (vi_Tr vi_E 8) (vi_Tr vi_E 8) (@Prod.fst (vi_Tr vi_E 9) (vi_Tr vi_E 9) (@Prod.snd (vi_Tr vi_E 10) (vi_Tr vi_E 10) (@Prod.snd (vi_Tr vi_E 11) (vi_Tr vi_E 11) vd_Lt))))) (fun i => vd_LF (2 * (2 * (2 * (2 * (2 * (i)) + 1)) + 1) + 1))) (vs_tri 7 (@Prod.snd (vi_Tr vi_E 7) (vi_Tr vi_E 7) (@Prod.snd (vi_Tr vi_E 8) (vi_Tr vi_E 8) (@Prod.fst (vi_Tr vi_E 9) (vi_Tr vi_E 9) (@Prod.snd (vi_Tr vi_E 10) (vi_Tr vi_E 10) (@Prod.snd (vi_Tr vi_E 11) (vi_Tr vi_E 11) vd_Lt))))) (fun i => vd_LF (2 * (2 * (2 * (2 * (2 * (i) + 1) + 1)) + 1) + 1))) = true
  rw [vd_L11010, vd_L11011]
  rfl
theorem vd_L1110 : vs_tri 8 (@Prod.fst (vi_Tr vi_E 8) (vi_Tr vi_E 8) (@Prod.snd (vi_Tr vi_E 9) (vi_Tr vi_E 9) (@Prod.snd (vi_Tr vi_E 10) (vi_Tr vi_E 10) (@Prod.snd (vi_Tr vi_E 11) (vi_Tr vi_E 11) vd_Lt)))) (fun i => vd_LF (2 * (2 * (2 * (2 * (i)) + 1) + 1) + 1)) = true := by
  show and (vs_tri 7 (@Prod.fst (vi_Tr vi_E 7) (vi_Tr vi_E 7) (@Prod.fst (vi_Tr vi_E 8) (vi_Tr vi_E 8) (@Prod.snd (vi_Tr vi_E 9) (vi_Tr vi_E 9) (@Prod.snd (vi_Tr vi_E 10) (vi_Tr vi_E 10) (@Prod.snd (vi_Tr vi_E 11) (vi_Tr vi_E 11) vd_Lt))))) (fun i => vd_LF (2 * (2 * (2 * (2 * (2 * (i))) + 1) + 1) + 1))) (vs_tri 7 (@Prod.snd (vi_Tr vi_E 7) (vi_Tr vi_E 7) (@Prod.fst (vi_Tr vi_E 8) (vi_Tr vi_E 8) (@Prod.snd (vi_Tr vi_E 9) (vi_Tr vi_E 9) (@Prod.snd (vi_Tr vi_E 10) (vi_Tr vi_E 10) (@Prod.snd (vi_Tr vi_E 11) (vi_Tr vi_E 11) vd_Lt))))) (fun i => vd_LF (2 * (2 * (2 * (2 * (2 * (i) + 1)) + 1) + 1) + 1))) = true
  rw [vd_L11100, vd_L11101]
  rfl
theorem vd_L1111 : vs_tri 8 (@Prod.snd (vi_Tr vi_E 8) (vi_Tr vi_E 8) (@Prod.snd (vi_Tr vi_E 9) (vi_Tr vi_E 9) (@Prod.snd (vi_Tr vi_E 10) (vi_Tr vi_E 10) (@Prod.snd (vi_Tr vi_E 11) (vi_Tr vi_E 11) vd_Lt)))) (fun i => vd_LF (2 * (2 * (2 * (2 * (i) + 1) + 1) + 1) + 1)) = true := by
  show and (vs_tri 7 (@Prod.fst (vi_Tr vi_E 7) (vi_Tr vi_E 7) (@Prod.snd (vi_Tr vi_E 8) (vi_Tr vi_E 8) (@Prod.snd (vi_Tr vi_E 9) (vi_Tr vi_E 9) (@Prod.snd (vi_Tr vi_E 10) (vi_Tr vi_E 10) (@Prod.snd (vi_Tr vi_E 11) (vi_Tr vi_E 11) vd_Lt))))) (fun i => vd_LF (2 * (2 * (2 * (2 * (2 * (i)) + 1) + 1) + 1) + 1))) (vs_tri 7 (@Prod.snd (vi_Tr vi_E 7) (vi_Tr vi_E 7) (@Prod.snd (vi_Tr vi_E 8) (vi_Tr vi_E 8) (@Prod.snd (vi_Tr vi_E 9) (vi_Tr vi_E 9) (@Prod.snd (vi_Tr vi_E 10) (vi_Tr vi_E 10) (@Prod.snd (vi_Tr vi_E 11) (vi_Tr vi_E 11) vd_Lt))))) (fun i => vd_LF (2 * (2 * (2 * (2 * (2 * (i) + 1) + 1) + 1) + 1) + 1))) = true
  rw [vd_L11110, vd_L11111]
  rfl
theorem vd_L000 : vs_tri 9 (@Prod.fst (vi_Tr vi_E 9) (vi_Tr vi_E 9) (@Prod.fst (vi_Tr vi_E 10) (vi_Tr vi_E 10) (@Prod.fst (vi_Tr vi_E 11) (vi_Tr vi_E 11) vd_Lt))) (fun i => vd_LF (2 * (2 * (2 * (i))))) = true := by
  show and (vs_tri 8 (@Prod.fst (vi_Tr vi_E 8) (vi_Tr vi_E 8) (@Prod.fst (vi_Tr vi_E 9) (vi_Tr vi_E 9) (@Prod.fst (vi_Tr vi_E 10) (vi_Tr vi_E 10) (@Prod.fst (vi_Tr vi_E 11) (vi_Tr vi_E 11) vd_Lt)))) (fun i => vd_LF (2 * (2 * (2 * (2 * (i))))))) (vs_tri 8 (@Prod.snd (vi_Tr vi_E 8) (vi_Tr vi_E 8) (@Prod.fst (vi_Tr vi_E 9) (vi_Tr vi_E 9) (@Prod.fst (vi_Tr vi_E 10) (vi_Tr vi_E 10) (@Prod.fst (vi_Tr vi_E 11) (vi_Tr vi_E 11) vd_Lt)))) (fun i => vd_LF (2 * (2 * (2 * (2 * (i) + 1)))))) = true
  rw [vd_L0000, vd_L0001]
  rfl
theorem vd_L001 : vs_tri 9 (@Prod.snd (vi_Tr vi_E 9) (vi_Tr vi_E 9) (@Prod.fst (vi_Tr vi_E 10) (vi_Tr vi_E 10) (@Prod.fst (vi_Tr vi_E 11) (vi_Tr vi_E 11) vd_Lt))) (fun i => vd_LF (2 * (2 * (2 * (i) + 1)))) = true := by
  show and (vs_tri 8 (@Prod.fst (vi_Tr vi_E 8) (vi_Tr vi_E 8) (@Prod.snd (vi_Tr vi_E 9) (vi_Tr vi_E 9) (@Prod.fst (vi_Tr vi_E 10) (vi_Tr vi_E 10) (@Prod.fst (vi_Tr vi_E 11) (vi_Tr vi_E 11) vd_Lt)))) (fun i => vd_LF (2 * (2 * (2 * (2 * (i)) + 1))))) (vs_tri 8 (@Prod.snd (vi_Tr vi_E 8) (vi_Tr vi_E 8) (@Prod.snd (vi_Tr vi_E 9) (vi_Tr vi_E 9) (@Prod.fst (vi_Tr vi_E 10) (vi_Tr vi_E 10) (@Prod.fst (vi_Tr vi_E 11) (vi_Tr vi_E 11) vd_Lt)))) (fun i => vd_LF (2 * (2 * (2 * (2 * (i) + 1) + 1))))) = true
  rw [vd_L0010, vd_L0011]
  rfl
theorem vd_L010 : vs_tri 9 (@Prod.fst (vi_Tr vi_E 9) (vi_Tr vi_E 9) (@Prod.snd (vi_Tr vi_E 10) (vi_Tr vi_E 10) (@Prod.fst (vi_Tr vi_E 11) (vi_Tr vi_E 11) vd_Lt))) (fun i => vd_LF (2 * (2 * (2 * (i)) + 1))) = true := by
  show and (vs_tri 8 (@Prod.fst (vi_Tr vi_E 8) (vi_Tr vi_E 8) (@Prod.fst (vi_Tr vi_E 9) (vi_Tr vi_E 9) (@Prod.snd (vi_Tr vi_E 10) (vi_Tr vi_E 10) (@Prod.fst (vi_Tr vi_E 11) (vi_Tr vi_E 11) vd_Lt)))) (fun i => vd_LF (2 * (2 * (2 * (2 * (i))) + 1)))) (vs_tri 8 (@Prod.snd (vi_Tr vi_E 8) (vi_Tr vi_E 8) (@Prod.fst (vi_Tr vi_E 9) (vi_Tr vi_E 9) (@Prod.snd (vi_Tr vi_E 10) (vi_Tr vi_E 10) (@Prod.fst (vi_Tr vi_E 11) (vi_Tr vi_E 11) vd_Lt)))) (fun i => vd_LF (2 * (2 * (2 * (2 * (i) + 1)) + 1)))) = true
  rw [vd_L0100, vd_L0101]
  rfl
theorem vd_L011 : vs_tri 9 (@Prod.snd (vi_Tr vi_E 9) (vi_Tr vi_E 9) (@Prod.snd (vi_Tr vi_E 10) (vi_Tr vi_E 10) (@Prod.fst (vi_Tr vi_E 11) (vi_Tr vi_E 11) vd_Lt))) (fun i => vd_LF (2 * (2 * (2 * (i) + 1) + 1))) = true := by
  show and (vs_tri 8 (@Prod.fst (vi_Tr vi_E 8) (vi_Tr vi_E 8) (@Prod.snd (vi_Tr vi_E 9) (vi_Tr vi_E 9) (@Prod.snd (vi_Tr vi_E 10) (vi_Tr vi_E 10) (@Prod.fst (vi_Tr vi_E 11) (vi_Tr vi_E 11) vd_Lt)))) (fun i => vd_LF (2 * (2 * (2 * (2 * (i)) + 1) + 1)))) (vs_tri 8 (@Prod.snd (vi_Tr vi_E 8) (vi_Tr vi_E 8) (@Prod.snd (vi_Tr vi_E 9) (vi_Tr vi_E 9) (@Prod.snd (vi_Tr vi_E 10) (vi_Tr vi_E 10) (@Prod.fst (vi_Tr vi_E 11) (vi_Tr vi_E 11) vd_Lt)))) (fun i => vd_LF (2 * (2 * (2 * (2 * (i) + 1) + 1) + 1)))) = true
  rw [vd_L0110, vd_L0111]
  rfl
theorem vd_L100 : vs_tri 9 (@Prod.fst (vi_Tr vi_E 9) (vi_Tr vi_E 9) (@Prod.fst (vi_Tr vi_E 10) (vi_Tr vi_E 10) (@Prod.snd (vi_Tr vi_E 11) (vi_Tr vi_E 11) vd_Lt))) (fun i => vd_LF (2 * (2 * (2 * (i))) + 1)) = true := by
  show and (vs_tri 8 (@Prod.fst (vi_Tr vi_E 8) (vi_Tr vi_E 8) (@Prod.fst (vi_Tr vi_E 9) (vi_Tr vi_E 9) (@Prod.fst (vi_Tr vi_E 10) (vi_Tr vi_E 10) (@Prod.snd (vi_Tr vi_E 11) (vi_Tr vi_E 11) vd_Lt)))) (fun i => vd_LF (2 * (2 * (2 * (2 * (i)))) + 1))) (vs_tri 8 (@Prod.snd (vi_Tr vi_E 8) (vi_Tr vi_E 8) (@Prod.fst (vi_Tr vi_E 9) (vi_Tr vi_E 9) (@Prod.fst (vi_Tr vi_E 10) (vi_Tr vi_E 10) (@Prod.snd (vi_Tr vi_E 11) (vi_Tr vi_E 11) vd_Lt)))) (fun i => vd_LF (2 * (2 * (2 * (2 * (i) + 1))) + 1))) = true
  rw [vd_L1000, vd_L1001]
  rfl
theorem vd_L101 : vs_tri 9 (@Prod.snd (vi_Tr vi_E 9) (vi_Tr vi_E 9) (@Prod.fst (vi_Tr vi_E 10) (vi_Tr vi_E 10) (@Prod.snd (vi_Tr vi_E 11) (vi_Tr vi_E 11) vd_Lt))) (fun i => vd_LF (2 * (2 * (2 * (i) + 1)) + 1)) = true := by
  show and (vs_tri 8 (@Prod.fst (vi_Tr vi_E 8) (vi_Tr vi_E 8) (@Prod.snd (vi_Tr vi_E 9) (vi_Tr vi_E 9) (@Prod.fst (vi_Tr vi_E 10) (vi_Tr vi_E 10) (@Prod.snd (vi_Tr vi_E 11) (vi_Tr vi_E 11) vd_Lt)))) (fun i => vd_LF (2 * (2 * (2 * (2 * (i)) + 1)) + 1))) (vs_tri 8 (@Prod.snd (vi_Tr vi_E 8) (vi_Tr vi_E 8) (@Prod.snd (vi_Tr vi_E 9) (vi_Tr vi_E 9) (@Prod.fst (vi_Tr vi_E 10) (vi_Tr vi_E 10) (@Prod.snd (vi_Tr vi_E 11) (vi_Tr vi_E 11) vd_Lt)))) (fun i => vd_LF (2 * (2 * (2 * (2 * (i) + 1) + 1)) + 1))) = true
  rw [vd_L1010, vd_L1011]
  rfl
theorem vd_L110 : vs_tri 9 (@Prod.fst (vi_Tr vi_E 9) (vi_Tr vi_E 9) (@Prod.snd (vi_Tr vi_E 10) (vi_Tr vi_E 10) (@Prod.snd (vi_Tr vi_E 11) (vi_Tr vi_E 11) vd_Lt))) (fun i => vd_LF (2 * (2 * (2 * (i)) + 1) + 1)) = true := by
  show and (vs_tri 8 (@Prod.fst (vi_Tr vi_E 8) (vi_Tr vi_E 8) (@Prod.fst (vi_Tr vi_E 9) (vi_Tr vi_E 9) (@Prod.snd (vi_Tr vi_E 10) (vi_Tr vi_E 10) (@Prod.snd (vi_Tr vi_E 11) (vi_Tr vi_E 11) vd_Lt)))) (fun i => vd_LF (2 * (2 * (2 * (2 * (i))) + 1) + 1))) (vs_tri 8 (@Prod.snd (vi_Tr vi_E 8) (vi_Tr vi_E 8) (@Prod.fst (vi_Tr vi_E 9) (vi_Tr vi_E 9) (@Prod.snd (vi_Tr vi_E 10) (vi_Tr vi_E 10) (@Prod.snd (vi_Tr vi_E 11) (vi_Tr vi_E 11) vd_Lt)))) (fun i => vd_LF (2 * (2 * (2 * (2 * (i) + 1)) + 1) + 1))) = true
  rw [vd_L1100, vd_L1101]
  rfl
theorem vd_L111 : vs_tri 9 (@Prod.snd (vi_Tr vi_E 9) (vi_Tr vi_E 9) (@Prod.snd (vi_Tr vi_E 10) (vi_Tr vi_E 10) (@Prod.snd (vi_Tr vi_E 11) (vi_Tr vi_E 11) vd_Lt))) (fun i => vd_LF (2 * (2 * (2 * (i) + 1) + 1) + 1)) = true := by
  show and (vs_tri 8 (@Prod.fst (vi_Tr vi_E 8) (vi_Tr vi_E 8) (@Prod.snd (vi_Tr vi_E 9) (vi_Tr vi_E 9) (@Prod.snd (vi_Tr vi_E 10) (vi_Tr vi_E 10) (@Prod.snd (vi_Tr vi_E 11) (vi_Tr vi_E 11) vd_Lt)))) (fun i => vd_LF (2 * (2 * (2 * (2 * (i)) + 1) + 1) + 1))) (vs_tri 8 (@Prod.snd (vi_Tr vi_E 8) (vi_Tr vi_E 8) (@Prod.snd (vi_Tr vi_E 9) (vi_Tr vi_E 9) (@Prod.snd (vi_Tr vi_E 10) (vi_Tr vi_E 10) (@Prod.snd (vi_Tr vi_E 11) (vi_Tr vi_E 11) vd_Lt)))) (fun i => vd_LF (2 * (2 * (2 * (2 * (i) + 1) + 1) + 1) + 1))) = true
  rw [vd_L1110, vd_L1111]
  rfl
theorem vd_L00 : vs_tri 10 (@Prod.fst (vi_Tr vi_E 10) (vi_Tr vi_E 10) (@Prod.fst (vi_Tr vi_E 11) (vi_Tr vi_E 11) vd_Lt)) (fun i => vd_LF (2 * (2 * (i)))) = true := by
  show and (vs_tri 9 (@Prod.fst (vi_Tr vi_E 9) (vi_Tr vi_E 9) (@Prod.fst (vi_Tr vi_E 10) (vi_Tr vi_E 10) (@Prod.fst (vi_Tr vi_E 11) (vi_Tr vi_E 11) vd_Lt))) (fun i => vd_LF (2 * (2 * (2 * (i)))))) (vs_tri 9 (@Prod.snd (vi_Tr vi_E 9) (vi_Tr vi_E 9) (@Prod.fst (vi_Tr vi_E 10) (vi_Tr vi_E 10) (@Prod.fst (vi_Tr vi_E 11) (vi_Tr vi_E 11) vd_Lt))) (fun i => vd_LF (2 * (2 * (2 * (i) + 1))))) = true
  rw [vd_L000, vd_L001]
  rfl
theorem vd_L01 : vs_tri 10 (@Prod.snd (vi_Tr vi_E 10) (vi_Tr vi_E 10) (@Prod.fst (vi_Tr vi_E 11) (vi_Tr vi_E 11) vd_Lt)) (fun i => vd_LF (2 * (2 * (i) + 1))) = true := by
  show and (vs_tri 9 (@Prod.fst (vi_Tr vi_E 9) (vi_Tr vi_E 9) (@Prod.snd (vi_Tr vi_E 10) (vi_Tr vi_E 10) (@Prod.fst (vi_Tr vi_E 11) (vi_Tr vi_E 11) vd_Lt))) (fun i => vd_LF (2 * (2 * (2 * (i)) + 1)))) (vs_tri 9 (@Prod.snd (vi_Tr vi_E 9) (vi_Tr vi_E 9) (@Prod.snd (vi_Tr vi_E 10) (vi_Tr vi_E 10) (@Prod.fst (vi_Tr vi_E 11) (vi_Tr vi_E 11) vd_Lt))) (fun i => vd_LF (2 * (2 * (2 * (i) + 1) + 1)))) = true
  rw [vd_L010, vd_L011]
  rfl
theorem vd_L10 : vs_tri 10 (@Prod.fst (vi_Tr vi_E 10) (vi_Tr vi_E 10) (@Prod.snd (vi_Tr vi_E 11) (vi_Tr vi_E 11) vd_Lt)) (fun i => vd_LF (2 * (2 * (i)) + 1)) = true := by
  show and (vs_tri 9 (@Prod.fst (vi_Tr vi_E 9) (vi_Tr vi_E 9) (@Prod.fst (vi_Tr vi_E 10) (vi_Tr vi_E 10) (@Prod.snd (vi_Tr vi_E 11) (vi_Tr vi_E 11) vd_Lt))) (fun i => vd_LF (2 * (2 * (2 * (i))) + 1))) (vs_tri 9 (@Prod.snd (vi_Tr vi_E 9) (vi_Tr vi_E 9) (@Prod.fst (vi_Tr vi_E 10) (vi_Tr vi_E 10) (@Prod.snd (vi_Tr vi_E 11) (vi_Tr vi_E 11) vd_Lt))) (fun i => vd_LF (2 * (2 * (2 * (i) + 1)) + 1))) = true
  rw [vd_L100, vd_L101]
  rfl
theorem vd_L11 : vs_tri 10 (@Prod.snd (vi_Tr vi_E 10) (vi_Tr vi_E 10) (@Prod.snd (vi_Tr vi_E 11) (vi_Tr vi_E 11) vd_Lt)) (fun i => vd_LF (2 * (2 * (i) + 1) + 1)) = true := by
  show and (vs_tri 9 (@Prod.fst (vi_Tr vi_E 9) (vi_Tr vi_E 9) (@Prod.snd (vi_Tr vi_E 10) (vi_Tr vi_E 10) (@Prod.snd (vi_Tr vi_E 11) (vi_Tr vi_E 11) vd_Lt))) (fun i => vd_LF (2 * (2 * (2 * (i)) + 1) + 1))) (vs_tri 9 (@Prod.snd (vi_Tr vi_E 9) (vi_Tr vi_E 9) (@Prod.snd (vi_Tr vi_E 10) (vi_Tr vi_E 10) (@Prod.snd (vi_Tr vi_E 11) (vi_Tr vi_E 11) vd_Lt))) (fun i => vd_LF (2 * (2 * (2 * (i) + 1) + 1) + 1))) = true
  rw [vd_L110, vd_L111]
  rfl
theorem vd_L0 : vs_tri 11 (@Prod.fst (vi_Tr vi_E 11) (vi_Tr vi_E 11) vd_Lt) (fun i => vd_LF (2 * (i))) = true := by
  show and (vs_tri 10 (@Prod.fst (vi_Tr vi_E 10) (vi_Tr vi_E 10) (@Prod.fst (vi_Tr vi_E 11) (vi_Tr vi_E 11) vd_Lt)) (fun i => vd_LF (2 * (2 * (i))))) (vs_tri 10 (@Prod.snd (vi_Tr vi_E 10) (vi_Tr vi_E 10) (@Prod.fst (vi_Tr vi_E 11) (vi_Tr vi_E 11) vd_Lt)) (fun i => vd_LF (2 * (2 * (i) + 1)))) = true
  rw [vd_L00, vd_L01]
  rfl
theorem vd_L1 : vs_tri 11 (@Prod.snd (vi_Tr vi_E 11) (vi_Tr vi_E 11) vd_Lt) (fun i => vd_LF (2 * (i) + 1)) = true := by
  show and (vs_tri 10 (@Prod.fst (vi_Tr vi_E 10) (vi_Tr vi_E 10) (@Prod.snd (vi_Tr vi_E 11) (vi_Tr vi_E 11) vd_Lt)) (fun i => vd_LF (2 * (2 * (i)) + 1))) (vs_tri 10 (@Prod.snd (vi_Tr vi_E 10) (vi_Tr vi_E 10) (@Prod.snd (vi_Tr vi_E 11) (vi_Tr vi_E 11) vd_Lt)) (fun i => vd_LF (2 * (2 * (i) + 1) + 1))) = true
  rw [vd_L10, vd_L11]
  rfl
theorem vd_Lall : vs_tri 12 vd_Lt (fun i => vd_LF (i)) = true := by
  show and (vs_tri 11 (@Prod.fst (vi_Tr vi_E 11) (vi_Tr vi_E 11) vd_Lt) (fun i => vd_LF (2 * (i)))) (vs_tri 11 (@Prod.snd (vi_Tr vi_E 11) (vi_Tr vi_E 11) vd_Lt) (fun i => vd_LF (2 * (i) + 1))) = true
  rw [vd_L0, vd_L1]
  rfl
theorem vd_gL : vd_F 280 = true := vd_Lall
set_option maxRecDepth 1000000 in
theorem vd_m0 : vi_all 0 40 vs_mok = true := by decide +kernel
set_option maxRecDepth 1000000 in
theorem vd_m40 : vi_all 40 40 vs_mok = true := by decide +kernel
set_option maxRecDepth 1000000 in
theorem vd_m80 : vi_all 80 40 vs_mok = true := by decide +kernel
set_option maxRecDepth 1000000 in
theorem vd_m120 : vi_all 120 40 vs_mok = true := by decide +kernel
set_option maxRecDepth 1000000 in
theorem vd_m160 : vi_all 160 40 vs_mok = true := by decide +kernel
set_option maxRecDepth 1000000 in
theorem vd_m200 : vi_all 200 40 vs_mok = true := by decide +kernel
set_option maxRecDepth 1000000 in
theorem vd_m240 : vi_all 240 40 vs_mok = true := by decide +kernel
set_option maxRecDepth 1000000 in
theorem vd_a0 : vs_aok 0 = true := by decide +kernel
set_option maxRecDepth 1000000 in
theorem vd_a1 : vs_aok 1 = true := by decide +kernel
set_option maxRecDepth 1000000 in
theorem vd_a2 : vs_aok 2 = true := by decide +kernel
theorem vd_all (k : Nat) (h : k ≤ vt_law) : vd_F k = true := by
  have h : k < 281 := Nat.lt_succ_of_le h
  by_cases h0 : k < 10
  · exact vb_all vd_g0 k (by omega) (by omega)
  by_cases h10 : k < 20
  · exact vb_all vd_g10 k (by omega) (by omega)
  by_cases h20 : k < 30
  · exact vb_all vd_g20 k (by omega) (by omega)
  by_cases h30 : k < 40
  · exact vb_all vd_g30 k (by omega) (by omega)
  by_cases h40 : k < 50
  · exact vb_all vd_g40 k (by omega) (by omega)
  by_cases h50 : k < 60
  · exact vb_all vd_g50 k (by omega) (by omega)
  by_cases h60 : k < 70
  · exact vb_all vd_g60 k (by omega) (by omega)
  by_cases h70 : k < 80
  · exact vb_all vd_g70 k (by omega) (by omega)
  by_cases h80 : k < 90
  · exact vb_all vd_g80 k (by omega) (by omega)
  by_cases h90 : k < 100
  · exact vb_all vd_g90 k (by omega) (by omega)
  by_cases h100 : k < 110
  · exact vb_all vd_g100 k (by omega) (by omega)
  by_cases h110 : k < 120
  · exact vb_all vd_g110 k (by omega) (by omega)
  by_cases h120 : k < 130
  · exact vb_all vd_g120 k (by omega) (by omega)
  by_cases h130 : k < 140
  · exact vb_all vd_g130 k (by omega) (by omega)
  by_cases h140 : k < 150
  · exact vb_all vd_g140 k (by omega) (by omega)
  by_cases h150 : k < 160
  · exact vb_all vd_g150 k (by omega) (by omega)
  by_cases h160 : k < 170
  · exact vb_all vd_g160 k (by omega) (by omega)
  by_cases h170 : k < 180
  · exact vb_all vd_g170 k (by omega) (by omega)
  by_cases h180 : k < 190
  · exact vb_all vd_g180 k (by omega) (by omega)
  by_cases h190 : k < 200
  · exact vb_all vd_g190 k (by omega) (by omega)
  by_cases h200 : k < 210
  · exact vb_all vd_g200 k (by omega) (by omega)
  by_cases h210 : k < 220
  · exact vb_all vd_g210 k (by omega) (by omega)
  by_cases h220 : k < 230
  · exact vb_all vd_g220 k (by omega) (by omega)
  by_cases h230 : k < 240
  · exact vb_all vd_g230 k (by omega) (by omega)
  by_cases h240 : k < 250
  · exact vb_all vd_g240 k (by omega) (by omega)
  by_cases h250 : k < 260
  · exact vb_all vd_g250 k (by omega) (by omega)
  by_cases h260 : k < 270
  · exact vb_all vd_g260 k (by omega) (by omega)
  by_cases h270 : k < 280
  · exact vb_all vd_g270 k (by omega) (by omega)
  have hL : k = 280 := by omega
  subst hL
  exact vd_gL
theorem vd_mok (k : Nat) (h : k < vt_law) : vs_mok k = true := by
  have h : k < 280 := h
  by_cases h0 : k < 40
  · exact vb_all vd_m0 k (by omega) (by omega)
  by_cases h40 : k < 80
  · exact vb_all vd_m40 k (by omega) (by omega)
  by_cases h80 : k < 120
  · exact vb_all vd_m80 k (by omega) (by omega)
  by_cases h120 : k < 160
  · exact vb_all vd_m120 k (by omega) (by omega)
  by_cases h160 : k < 200
  · exact vb_all vd_m160 k (by omega) (by omega)
  by_cases h200 : k < 240
  · exact vb_all vd_m200 k (by omega) (by omega)
  by_cases h240 : k < 280
  · exact vb_all vd_m240 k (by omega) (by omega)
  exact absurd h (by omega)
theorem vd_aok (a : Nat) (h : a < 3) : vs_aok a = true := by
  match a, h with
  | 0, _ => exact vd_a0
  | 1, _ => exact vd_a1
  | 2, _ => exact vd_a2
theorem vd_ok (k : Nat) (h : k ≤ vt_law) (pc : Nat) : vs_ok k pc (vt_code k pc) = true := by
  have h1 := vs_tri_at _ _ _ (vd_all k h)
  unfold vt_code vi_lk
  by_cases e : pc < 2 ^ (vi_tg 9 vt_codeT k).1
  · rw [Nat.ble_eq_true_of_le e]
    exact h1 pc e
  · have e2 : Nat.ble (pc + 1) (2 ^ (vi_tg 9 vt_codeT k).1) = false := by
      cases hb : Nat.ble (pc + 1) (2 ^ (vi_tg 9 vt_codeT k).1) with
      | false => rfl
      | true => exact absurd (Nat.le_of_ble_eq_true hb) e
    rw [e2]
    rfl
end VD
