/-! ===== the counts, part 2: the tables are the code, by the decoder and the words ===== -/
section VD
set_option maxRecDepth 1000000 in
theorem vd_g100 : vi_all 100 10 vd_F = true := by decide +kernel
set_option maxRecDepth 1000000 in
theorem vd_g110 : vi_all 110 10 vd_F = true := by decide +kernel
set_option maxRecDepth 1000000 in
theorem vd_g120 : vi_all 120 8 vd_F = true := by decide +kernel
end VD
