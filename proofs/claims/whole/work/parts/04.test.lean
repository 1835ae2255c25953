section VTEST
set_option maxRecDepth 1000000 in
theorem vz_test6 : vi_run vt_code vt_mi vt_nf vt_ts vt_td vt_law 30000 0 [(vt_law, 0, [(0, (6, 6))], [], 0, 0)] (vi_tf 11 (.inl (99, []))) 0 0 [(0, 4294967295), (0, 4294967295), (0, 4294967295), (0, 4294967295), (0, 4294967295), (0, 4294967295)] = true := by decide +kernel
end VTEST
