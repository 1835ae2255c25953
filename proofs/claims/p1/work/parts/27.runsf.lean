/-! ===== the walks of the law: scripts of one act, the acts 32 to 44 ===== -/
section VR6
set_option maxRecDepth 1000000 in
theorem vq_w6f : vq_W 6 2147483680 2147483692 = true := by decide +kernel
end VR6
