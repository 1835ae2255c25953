/-! ===== the walks of the law: scripts of one act, the acts 15 to 31 ===== -/
section VR6
set_option maxRecDepth 1000000 in
theorem vq_w6e : vq_W 6 2147483663 2147483679 = true := by decide +kernel
end VR6
