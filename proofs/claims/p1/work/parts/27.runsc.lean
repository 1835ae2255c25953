/-! ===== the walks of the law: scripts of one act, the acts 2 to 3 ===== -/
section VR6
set_option maxRecDepth 1000000 in
theorem vq_w6c : vq_W 6 2147483650 2147483651 = true := by decide +kernel
end VR6
