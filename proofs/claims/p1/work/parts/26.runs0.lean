/-! ===== the walks of the law: scripts too short for an act ===== -/
section VR6
set_option maxRecDepth 1000000 in
theorem vq_w0 : vq_W 0 2147483648 2147483711 = true := by decide +kernel
set_option maxRecDepth 1000000 in
theorem vq_w1 : vq_W 1 2147483648 2147483711 = true := by decide +kernel
set_option maxRecDepth 1000000 in
theorem vq_w2 : vq_W 2 2147483648 2147483711 = true := by decide +kernel
set_option maxRecDepth 1000000 in
theorem vq_w3 : vq_W 3 2147483648 2147483711 = true := by decide +kernel
set_option maxRecDepth 1000000 in
theorem vq_w4 : vq_W 4 2147483648 2147483711 = true := by decide +kernel
set_option maxRecDepth 1000000 in
theorem vq_w5 : vq_W 5 2147483648 2147483711 = true := by decide +kernel
end VR6
