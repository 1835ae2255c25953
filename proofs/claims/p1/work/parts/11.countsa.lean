/-! ===== the counts, part 0: the tables are the code, by the decoder and the words ===== -/
section VD
noncomputable def vd_F (k : Nat) : Bool := vs_tri (vi_tg 9 vt_codeT k).1 (vi_tg 9 vt_codeT k).2 (fun pc e => vs_ok k pc e)
set_option maxRecDepth 1000000 in
theorem vd_g0 : vi_all 0 10 vd_F = true := by decide +kernel
set_option maxRecDepth 1000000 in
theorem vd_g10 : vi_all 10 10 vd_F = true := by decide +kernel
set_option maxRecDepth 1000000 in
theorem vd_g20 : vi_all 20 10 vd_F = true := by decide +kernel
set_option maxRecDepth 1000000 in
theorem vd_g30 : vi_all 30 10 vd_F = true := by decide +kernel
set_option maxRecDepth 1000000 in
theorem vd_g40 : vi_all 40 10 vd_F = true := by decide +kernel
set_option maxRecDepth 1000000 in
theorem vd_g50 : vi_all 50 10 vd_F = true := by decide +kernel
set_option maxRecDepth 1000000 in
theorem vd_g60 : vi_all 60 10 vd_F = true := by decide +kernel
set_option maxRecDepth 1000000 in
theorem vd_g70 : vi_all 70 10 vd_F = true := by decide +kernel
set_option maxRecDepth 1000000 in
theorem vd_g80 : vi_all 80 10 vd_F = true := by decide +kernel
set_option maxRecDepth 1000000 in
theorem vd_g90 : vi_all 90 10 vd_F = true := by decide +kernel
end VD
