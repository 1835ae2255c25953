section VD
theorem vd_mok (k : Nat) (h : k < vt_law) : vs_mok k = true := sorry
theorem vd_aok (a : Nat) (h : a < 3) : vs_aok a = true := sorry
theorem vd_ok (k : Nat) (h : k ≤ vt_law) (pc : Nat) : vs_ok k pc (vt_code k pc) = true := sorry
end VD
