/-! ===== the walks of the law: scripts of one act, the acts 4 to 14 ===== -/
section VR6
set_option maxRecDepth 1000000 in
theorem vq_w6d : vq_W 6 2147483652 2147483662 = true := by decide +kernel
end VR6
