/-! ===== the counts, part 1: the tables are the code, by the decoder and the words ===== -/
section VD
set_option maxRecDepth 1000000 in
theorem vd_g50 : vi_all 50 10 vd_F = true := by decide +kernel
set_option maxRecDepth 1000000 in
theorem vd_g60 : vi_all 60 10 vd_F = true := by decide +kernel
set_option maxRecDepth 1000000 in
theorem vd_g70 : vi_all 70 10 vd_F = true := by decide +kernel
set_option maxRecDepth 1000000 in
theorem vd_g80 : vi_all 80 10 vd_F = true := by decide +kernel
set_option maxRecDepth 1000000 in
theorem vd_g90 : vi_all 90 10 vd_F = true := by decide +kernel
end VD
