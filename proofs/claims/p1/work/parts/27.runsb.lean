/-! ===== the walks of the law: scripts of one act, the acts 1 to 1 ===== -/
section VR6
set_option maxRecDepth 1000000 in
theorem vq_w6b : vq_W 6 2147483649 2147483649 = true := by decide +kernel
end VR6
