/-! ===== the counts, part 1: the tables are the code, by the decoder and the words ===== -/
section VD
set_option maxRecDepth 1000000 in
theorem vd_g100 : vi_all 100 10 vd_F = true := by decide +kernel
set_option maxRecDepth 1000000 in
theorem vd_g110 : vi_all 110 10 vd_F = true := by decide +kernel
set_option maxRecDepth 1000000 in
theorem vd_g120 : vi_all 120 10 vd_F = true := by decide +kernel
set_option maxRecDepth 1000000 in
theorem vd_g130 : vi_all 130 10 vd_F = true := by decide +kernel
set_option maxRecDepth 1000000 in
theorem vd_g140 : vi_all 140 10 vd_F = true := by decide +kernel
set_option maxRecDepth 1000000 in
theorem vd_g150 : vi_all 150 10 vd_F = true := by decide +kernel
set_option maxRecDepth 1000000 in
theorem vd_g160 : vi_all 160 10 vd_F = true := by decide +kernel
set_option maxRecDepth 1000000 in
theorem vd_g170 : vi_all 170 10 vd_F = true := by decide +kernel
set_option maxRecDepth 1000000 in
theorem vd_g180 : vi_all 180 10 vd_F = true := by decide +kernel
set_option maxRecDepth 1000000 in
theorem vd_g190 : vi_all 190 10 vd_F = true := by decide +kernel
end VD
