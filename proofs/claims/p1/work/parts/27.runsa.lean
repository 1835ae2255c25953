/-! ===== the walks of the law: scripts of one act, the acts 0 to 0 ===== -/
section VR6
set_option maxRecDepth 1000000 in
theorem vq_w6a : vq_W 6 2147483648 2147483648 = true := by decide +kernel
end VR6
