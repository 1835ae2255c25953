/-! ===== the walks of the law: scripts of one act, the acts 45 to 63 ===== -/
section VR6
set_option maxRecDepth 1000000 in
theorem vq_w6g : vq_W 6 2147483693 2147483711 = true := by decide +kernel
end VR6
