/-! ===== the counts: the law; the methods; all together ===== -/
section VD
set_option maxRecDepth 1000000 in
theorem vd_gL : vd_F 128 = true := by decide +kernel
set_option maxRecDepth 1000000 in
theorem vd_m0 : vi_all 0 40 vs_mok = true := by decide +kernel
set_option maxRecDepth 1000000 in
theorem vd_m40 : vi_all 40 40 vs_mok = true := by decide +kernel
set_option maxRecDepth 1000000 in
theorem vd_m80 : vi_all 80 40 vs_mok = true := by decide +kernel
set_option maxRecDepth 1000000 in
theorem vd_m120 : vi_all 120 8 vs_mok = true := by decide +kernel
set_option maxRecDepth 1000000 in
theorem vd_a0 : vs_aok 0 = true := by decide +kernel
set_option maxRecDepth 1000000 in
theorem vd_a1 : vs_aok 1 = true := by decide +kernel
set_option maxRecDepth 1000000 in
theorem vd_a2 : vs_aok 2 = true := by decide +kernel
theorem vd_all (k : Nat) (h : k ≤ vt_law) : vd_F k = true := by
  have h : k < 129 := Nat.lt_succ_of_le h
  by_cases h0 : k < 10
  · exact vb_all vd_g0 k (by omega) (by omega)
  by_cases h10 : k < 20
  · exact vb_all vd_g10 k (by omega) (by omega)
  by_cases h20 : k < 30
  · exact vb_all vd_g20 k (by omega) (by omega)
  by_cases h30 : k < 40
  · exact vb_all vd_g30 k (by omega) (by omega)
  by_cases h40 : k < 50
  · exact vb_all vd_g40 k (by omega) (by omega)
  by_cases h50 : k < 60
  · exact vb_all vd_g50 k (by omega) (by omega)
  by_cases h60 : k < 70
  · exact vb_all vd_g60 k (by omega) (by omega)
  by_cases h70 : k < 80
  · exact vb_all vd_g70 k (by omega) (by omega)
  by_cases h80 : k < 90
  · exact vb_all vd_g80 k (by omega) (by omega)
  by_cases h90 : k < 100
  · exact vb_all vd_g90 k (by omega) (by omega)
  by_cases h100 : k < 110
  · exact vb_all vd_g100 k (by omega) (by omega)
  by_cases h110 : k < 120
  · exact vb_all vd_g110 k (by omega) (by omega)
  by_cases h120 : k < 128
  · exact vb_all vd_g120 k (by omega) (by omega)
  have hL : k = 128 := by omega
  subst hL
  exact vd_gL
theorem vd_mok (k : Nat) (h : k < vt_law) : vs_mok k = true := by
  have h : k < 128 := h
  by_cases h0 : k < 40
  · exact vb_all vd_m0 k (by omega) (by omega)
  by_cases h40 : k < 80
  · exact vb_all vd_m40 k (by omega) (by omega)
  by_cases h80 : k < 120
  · exact vb_all vd_m80 k (by omega) (by omega)
  by_cases h120 : k < 128
  · exact vb_all vd_m120 k (by omega) (by omega)
  exact absurd h (by omega)
theorem vd_aok (a : Nat) (h : a < 3) : vs_aok a = true := by
  match a, h with
  | 0, _ => exact vd_a0
  | 1, _ => exact vd_a1
  | 2, _ => exact vd_a2
theorem vd_ok (k : Nat) (h : k ≤ vt_law) (pc : Nat) : vs_ok k pc (vt_code k pc) = true := by
  have h1 := vs_tri_at _ _ _ (vd_all k h)
  unfold vt_code vi_lk
  by_cases e : pc < 2 ^ (vi_tg 9 vt_codeT k).1
  · rw [Nat.ble_eq_true_of_le e]
    exact h1 pc e
  · have e2 : Nat.ble (pc + 1) (2 ^ (vi_tg 9 vt_codeT k).1) = false := by
      cases hb : Nat.ble (pc + 1) (2 ^ (vi_tg 9 vt_codeT k).1) with
      | false => rfl
      | true => exact absurd (Nat.le_of_ble_eq_true hb) e
    rw [e2]
    rfl
end VD
