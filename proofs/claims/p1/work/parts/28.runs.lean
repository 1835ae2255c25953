/-! ===== all the walks ===== -/
section VR7
theorem vq_any (L : Nat) (hL : L ≤ 6) (xs : Nat → Int32) : ∃ n M', vr_run L xs n (vt_law, 0, vj_args 9 [.ref 0], []) vl_M0 = some (.inl [.int 1], M') ∧ M'.2.2.2.1 ≤ 600002 ∧ M'.2.2.2.2 ≤ 7302232 := by
  obtain ⟨h1, h2⟩ := vb_63 (xs 0)
  match L, hL with
  | 0, hL => exact vq_fin hL h1 h2 vq_w0
  | 1, hL => exact vq_fin hL h1 h2 vq_w1
  | 2, hL => exact vq_fin hL h1 h2 vq_w2
  | 3, hL => exact vq_fin hL h1 h2 vq_w3
  | 4, hL => exact vq_fin hL h1 h2 vq_w4
  | 5, hL => exact vq_fin hL h1 h2 vq_w5
  | 6, hL =>
    by_cases ha : vb_b (xs 0 &&& 63) ≤ 2147483648
    · exact vq_fin hL h1 ha vq_w6a
    by_cases hb : vb_b (xs 0 &&& 63) ≤ 2147483649
    · exact vq_fin hL (by omega) hb vq_w6b
    by_cases hc : vb_b (xs 0 &&& 63) ≤ 2147483651
    · exact vq_fin hL (by omega) hc vq_w6c
    by_cases hd : vb_b (xs 0 &&& 63) ≤ 2147483662
    · exact vq_fin hL (by omega) hd vq_w6d
    by_cases he : vb_b (xs 0 &&& 63) ≤ 2147483679
    · exact vq_fin hL (by omega) he vq_w6e
    by_cases hf : vb_b (xs 0 &&& 63) ≤ 2147483692
    · exact vq_fin hL (by omega) hf vq_w6f
    exact vq_fin hL (by omega) h2 vq_w6g
  | _ + 7, hL => omega
end VR7
