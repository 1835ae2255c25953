/-! ===== the counts ===== -/
section VD
noncomputable def vd_F (k : Nat) (l : vt_L) : Bool := vs_tri l.1 l.2 (fun pc e => vs_ok k pc e)
set_option maxRecDepth 1000000 in
theorem vd_g0 : vi_all 0 12 (fun k => vd_F k (vi_tg 9 vt_codeT k)) = true := by decide +kernel
set_option maxRecDepth 1000000 in
theorem vd_g12 : vi_all 12 12 (fun k => vd_F k (vi_tg 9 vt_codeT k)) = true := by decide +kernel
set_option maxRecDepth 1000000 in
theorem vd_g24 : vi_all 24 12 (fun k => vd_F k (vi_tg 9 vt_codeT k)) = true := by decide +kernel
set_option maxRecDepth 1000000 in
theorem vd_g36 : vi_all 36 12 (fun k => vd_F k (vi_tg 9 vt_codeT k)) = true := by decide +kernel
set_option maxRecDepth 1000000 in
theorem vd_g48 : vi_all 48 12 (fun k => vd_F k (vi_tg 9 vt_codeT k)) = true := by decide +kernel
set_option maxRecDepth 1000000 in
theorem vd_g60 : vi_all 60 12 (fun k => vd_F k (vi_tg 9 vt_codeT k)) = true := by decide +kernel
set_option maxRecDepth 1000000 in
theorem vd_g72 : vi_all 72 12 (fun k => vd_F k (vi_tg 9 vt_codeT k)) = true := by decide +kernel
set_option maxRecDepth 1000000 in
theorem vd_g84 : vi_all 84 12 (fun k => vd_F k (vi_tg 9 vt_codeT k)) = true := by decide +kernel
set_option maxRecDepth 1000000 in
theorem vd_g96 : vi_all 96 12 (fun k => vd_F k (vi_tg 9 vt_codeT k)) = true := by decide +kernel
set_option maxRecDepth 1000000 in
theorem vd_g108 : vi_all 108 12 (fun k => vd_F k (vi_tg 9 vt_codeT k)) = true := by decide +kernel
set_option maxRecDepth 1000000 in
theorem vd_g120 : vi_all 120 12 (fun k => vd_F k (vi_tg 9 vt_codeT k)) = true := by decide +kernel
set_option maxRecDepth 1000000 in
theorem vd_g132 : vi_all 132 12 (fun k => vd_F k (vi_tg 9 vt_codeT k)) = true := by decide +kernel
set_option maxRecDepth 1000000 in
theorem vd_g144 : vi_all 144 12 (fun k => vd_F k (vi_tg 9 vt_codeT k)) = true := by decide +kernel
set_option maxRecDepth 1000000 in
theorem vd_g156 : vi_all 156 12 (fun k => vd_F k (vi_tg 9 vt_codeT k)) = true := by decide +kernel
set_option maxRecDepth 1000000 in
theorem vd_g168 : vi_all 168 12 (fun k => vd_F k (vi_tg 9 vt_codeT k)) = true := by decide +kernel
set_option maxRecDepth 1000000 in
theorem vd_g180 : vi_all 180 12 (fun k => vd_F k (vi_tg 9 vt_codeT k)) = true := by decide +kernel
set_option maxRecDepth 1000000 in
theorem vd_g192 : vi_all 192 12 (fun k => vd_F k (vi_tg 9 vt_codeT k)) = true := by decide +kernel
set_option maxRecDepth 1000000 in
theorem vd_g204 : vi_all 204 12 (fun k => vd_F k (vi_tg 9 vt_codeT k)) = true := by decide +kernel
set_option maxRecDepth 1000000 in
theorem vd_g216 : vi_all 216 12 (fun k => vd_F k (vi_tg 9 vt_codeT k)) = true := by decide +kernel
set_option maxRecDepth 1000000 in
theorem vd_g228 : vi_all 228 12 (fun k => vd_F k (vi_tg 9 vt_codeT k)) = true := by decide +kernel
set_option maxRecDepth 1000000 in
theorem vd_g240 : vi_all 240 12 (fun k => vd_F k (vi_tg 9 vt_codeT k)) = true := by decide +kernel
set_option maxRecDepth 1000000 in
theorem vd_g252 : vi_all 252 12 (fun k => vd_F k (vi_tg 9 vt_codeT k)) = true := by decide +kernel
set_option maxRecDepth 1000000 in
theorem vd_g264 : vi_all 264 12 (fun k => vd_F k (vi_tg 9 vt_codeT k)) = true := by decide +kernel
set_option maxRecDepth 1000000 in
theorem vd_g276 : vi_all 276 5 (fun k => vd_F k (vi_tg 9 vt_codeT k)) = true := by decide +kernel
set_option maxRecDepth 1000000 in
theorem vd_m0 : vi_all 0 40 (fun k => vs_mok k) = true := by decide +kernel
set_option maxRecDepth 1000000 in
theorem vd_m40 : vi_all 40 40 (fun k => vs_mok k) = true := by decide +kernel
set_option maxRecDepth 1000000 in
theorem vd_m80 : vi_all 80 40 (fun k => vs_mok k) = true := by decide +kernel
set_option maxRecDepth 1000000 in
theorem vd_m120 : vi_all 120 40 (fun k => vs_mok k) = true := by decide +kernel
set_option maxRecDepth 1000000 in
theorem vd_m160 : vi_all 160 40 (fun k => vs_mok k) = true := by decide +kernel
set_option maxRecDepth 1000000 in
theorem vd_m200 : vi_all 200 40 (fun k => vs_mok k) = true := by decide +kernel
set_option maxRecDepth 1000000 in
theorem vd_m240 : vi_all 240 40 (fun k => vs_mok k) = true := by decide +kernel
set_option maxRecDepth 1000000 in
theorem vd_a0 : vs_aok 0 = true := by decide +kernel
set_option maxRecDepth 1000000 in
theorem vd_a1 : vs_aok 1 = true := by decide +kernel
set_option maxRecDepth 1000000 in
theorem vd_a2 : vs_aok 2 = true := by decide +kernel
end VD
