/-! ===== the counts ===== -/
section VD
set_option maxRecDepth 1000000 in
theorem vd_mok : (List.range 280).all vs_mok = true := by decide +kernel
noncomputable def vd_F (k : Nat) (l : vt_L) : Bool := vs_tri l.1 l.2 (fun pc e => vs_ok k pc e)
set_option maxRecDepth 1000000 in
theorem vd_c000 : vs_tri 6 (@Prod.fst (vi_Tr vt_L 6) (vi_Tr vt_L 6) (@Prod.fst (vi_Tr vt_L 7) (vi_Tr vt_L 7) (@Prod.fst (vi_Tr vt_L 8) (vi_Tr vt_L 8) vt_codeT))) (fun i => vd_F (2 * (2 * (2 * (i))))) = true := by decide +kernel
set_option maxRecDepth 1000000 in
theorem vd_c001 : vs_tri 6 (@Prod.snd (vi_Tr vt_L 6) (vi_Tr vt_L 6) (@Prod.fst (vi_Tr vt_L 7) (vi_Tr vt_L 7) (@Prod.fst (vi_Tr vt_L 8) (vi_Tr vt_L 8) vt_codeT))) (fun i => vd_F (2 * (2 * (2 * (i) + 1)))) = true := by decide +kernel
set_option maxRecDepth 1000000 in
theorem vd_c010 : vs_tri 6 (@Prod.fst (vi_Tr vt_L 6) (vi_Tr vt_L 6) (@Prod.snd (vi_Tr vt_L 7) (vi_Tr vt_L 7) (@Prod.fst (vi_Tr vt_L 8) (vi_Tr vt_L 8) vt_codeT))) (fun i => vd_F (2 * (2 * (2 * (i)) + 1))) = true := by decide +kernel
set_option maxRecDepth 1000000 in
theorem vd_c011 : vs_tri 6 (@Prod.snd (vi_Tr vt_L 6) (vi_Tr vt_L 6) (@Prod.snd (vi_Tr vt_L 7) (vi_Tr vt_L 7) (@Prod.fst (vi_Tr vt_L 8) (vi_Tr vt_L 8) vt_codeT))) (fun i => vd_F (2 * (2 * (2 * (i) + 1) + 1))) = true := by decide +kernel
set_option maxRecDepth 1000000 in
theorem vd_c100 : vs_tri 6 (@Prod.fst (vi_Tr vt_L 6) (vi_Tr vt_L 6) (@Prod.fst (vi_Tr vt_L 7) (vi_Tr vt_L 7) (@Prod.snd (vi_Tr vt_L 8) (vi_Tr vt_L 8) vt_codeT))) (fun i => vd_F (2 * (2 * (2 * (i))) + 1)) = true := by decide +kernel
set_option maxRecDepth 1000000 in
theorem vd_c101 : vs_tri 6 (@Prod.snd (vi_Tr vt_L 6) (vi_Tr vt_L 6) (@Prod.fst (vi_Tr vt_L 7) (vi_Tr vt_L 7) (@Prod.snd (vi_Tr vt_L 8) (vi_Tr vt_L 8) vt_codeT))) (fun i => vd_F (2 * (2 * (2 * (i) + 1)) + 1)) = true := by decide +kernel
set_option maxRecDepth 1000000 in
theorem vd_c110 : vs_tri 6 (@Prod.fst (vi_Tr vt_L 6) (vi_Tr vt_L 6) (@Prod.snd (vi_Tr vt_L 7) (vi_Tr vt_L 7) (@Prod.snd (vi_Tr vt_L 8) (vi_Tr vt_L 8) vt_codeT))) (fun i => vd_F (2 * (2 * (2 * (i)) + 1) + 1)) = true := by decide +kernel
set_option maxRecDepth 1000000 in
theorem vd_c111 : vs_tri 6 (@Prod.snd (vi_Tr vt_L 6) (vi_Tr vt_L 6) (@Prod.snd (vi_Tr vt_L 7) (vi_Tr vt_L 7) (@Prod.snd (vi_Tr vt_L 8) (vi_Tr vt_L 8) vt_codeT))) (fun i => vd_F (2 * (2 * (2 * (i) + 1) + 1) + 1)) = true := by decide +kernel
theorem vd_all : vs_tri 9 vt_codeT vd_F = true := by
  have h : ∀ (n : Nat) (t : vi_Tr vt_L (n + 1)) (f : Nat → vt_L → Bool), vs_tri n (@Prod.fst (vi_Tr vt_L n) (vi_Tr vt_L n) t) (fun i => f (2 * i)) = true → vs_tri n (@Prod.snd (vi_Tr vt_L n) (vi_Tr vt_L n) t) (fun i => f (2 * i + 1)) = true → vs_tri (n + 1) t f = true := by
    intro n t f h1 h2
    show (vs_tri n (@Prod.fst (vi_Tr vt_L n) (vi_Tr vt_L n) t) (fun i => f (2 * i)) && vs_tri n (@Prod.snd (vi_Tr vt_L n) (vi_Tr vt_L n) t) (fun i => f (2 * i + 1))) = true
    rw [h1, h2]; rfl
  refine h 8 _ _ (h 7 _ _ (h 6 _ _ vd_c000 vd_c001) (h 6 _ _ vd_c010 vd_c011)) (h 7 _ _ (h 6 _ _ vd_c100 vd_c101) (h 6 _ _ vd_c110 vd_c111))
theorem vd_ok (k pc : Nat) (hk : k < 512) : vs_ok k pc (vt_code k pc) = true := by
  have h1 := vs_tri_at 9 _ _ vd_all k (by omega)
  unfold vt_code vt_at
  by_cases h : pc + 1 ≤ 2 ^ (vi_tg 9 vt_codeT k).1
  · have e : Nat.ble (pc + 1) (2 ^ (vi_tg 9 vt_codeT k).1) = true := Nat.ble_eq_true_of_le h
    rw [e]
    exact vs_tri_at _ _ _ h1 pc (by omega)
  · have e : Nat.ble (pc + 1) (2 ^ (vi_tg 9 vt_codeT k).1) = false := by
      cases hb : Nat.ble (pc + 1) (2 ^ (vi_tg 9 vt_codeT k).1) with
      | false => rfl
      | true => exact absurd (Nat.le_of_ble_eq_true hb) h
    rw [e]; rfl
theorem vd_m {k : Nat} (hk : k < 280) : vs_mok k = true := List.all_eq_true.mp vd_mok k (List.mem_range.mpr hk)
end VD
