/-! ===== the counts, part 2: the tables are the code, by the decoder and the words ===== -/
section VD
set_option maxRecDepth 1000000 in
theorem vd_g200 : vi_all 200 10 vd_F = true := by decide +kernel
set_option maxRecDepth 1000000 in
theorem vd_g210 : vi_all 210 10 vd_F = true := by decide +kernel
set_option maxRecDepth 1000000 in
theorem vd_g220 : vi_all 220 10 vd_F = true := by decide +kernel
set_option maxRecDepth 1000000 in
theorem vd_g230 : vi_all 230 10 vd_F = true := by decide +kernel
set_option maxRecDepth 1000000 in
theorem vd_g240 : vi_all 240 10 vd_F = true := by decide +kernel
set_option maxRecDepth 1000000 in
theorem vd_g250 : vi_all 250 10 vd_F = true := by decide +kernel
set_option maxRecDepth 1000000 in
theorem vd_g260 : vi_all 260 10 vd_F = true := by decide +kernel
set_option maxRecDepth 1000000 in
theorem vd_g270 : vi_all 270 10 vd_F = true := by decide +kernel
end VD
