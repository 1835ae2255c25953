/-! ===== deeds and the chronicle ===== -/
section VW6
def ve_ix (z : Int) : Nat := if 0 ≤ z ∧ z < 120 then z.toNat else 120
theorem ve_ix_le (z : Int) : ve_ix z ≤ 120 := by unfold ve_ix; split <;> omega
theorem ve_ix_in {z : Int} (h0 : 0 ≤ z) (h1 : z < 120) : ve_ix z = z.toNat := if_pos ⟨h0, h1⟩
theorem ve_ix_no {z : Int} (h : z < 0 ∨ 120 ≤ z) : ve_ix z = 120 := if_neg (by omega)
theorem vl_at_in {l : List Int} {z : Int} (h : ∀ x ∈ l, vw_in x) : vw_in (vl_at l z) := by
  by_cases h0 : 0 ≤ z ∧ z < l.length
  · exact h _ (List.mem_of_getElem? (vl_at_lt h0.1 h0.2))
  · rw [vl_at_no (by omega)]; exact ⟨by omega, by omega⟩
variable {L : Nat} {xs : Nat → Int32} {σ : vw_S} {Q : List Value → vw_S → Prop} {k pc b c : Nat} {lc : List (Option Value)} {sc : List Value}
theorem vW_vals {kk i : Nat} {fr : vj_F} (hk : vw_ok kk i) (g : (∀ x ∈ σ.1 kk i, vw_in x) → vW vw_rep L xs fr σ Q) : vW vw_rep L xs fr σ Q := fun M hM => by
  obtain ⟨⟨t, f, r1, r2⟩, -⟩ := hM.2.1 kk i hk
  refine g (fun x hx => ?_) M hM
  obtain ⟨j, hj⟩ := List.getElem?_of_mem hx
  exact (r2 j x hj).1
theorem m_rank {d : Nat} (hd : d ≤ 120) (hQ : Q [.int (jI (σ.2 7 d * 6 + σ.2 5 d))] σ) : vW vw_rep L xs (24, 0, [some (.ref (vw_dr d))], []) σ Q := by
  refine w1 vi24_0 rfl rfl ?_
  refine w14d vi24_1 (by first | assumption | omega) rfl ?_
  refine w2 (6) vi24_4 (by decide) ?_
  refine w11 vi24_6 ?_
  refine w1 vi24_7 rfl rfl ?_
  refine w14d vi24_8 (by first | assumption | omega) rfl ?_
  refine w9 vi24_11 ?_
  refine w42 vi24_12 vm24.2.2.2 ?_
  exact hQ
theorem c_rank (hc : vt_code k pc = (27, 24, b, c)) {d : Nat} (hd : d ≤ 120) (hs : Nat.ble (vj_cat sc) 8 = true) (hQ : vW vw_rep L xs (k, pc + 3, lc, .int (jI (σ.2 7 d * 6 + σ.2 5 d)) :: sc) σ Q) : vW vw_rep L xs (k, pc, lc, .ref (vw_dr d) :: sc) σ Q := by
  refine w27 (n := 1) (vs := [.ref (vw_dr d)]) hc vm24.2.1 rfl (by rw [vm24.2.2.1]; rfl) hs (by simp only [List.length_cons]; omega) ⟨_, rfl⟩ (fun M hM => hM.2.2.1 d hd) (vw_tb_lt (vw_deed hd) (by omega)) vm24.1 ?_
  rw [vm24.2.2.1]
  exact m_rank hd (Q := fun v σ1 => vW vw_rep L xs (k, pc + 3, lc, v ++ sc) σ1 Q) hQ
theorem m_countDeeds  (hQ : Q [.int (jI (σ.2 1 0))] σ) : vW vw_rep L xs (1, 0, [some (.ref 9)], []) σ Q := by
  refine w1 vi1_0 rfl rfl ?_
  refine w14h vi1_1 rfl ?_
  refine w42 vi1_4 vm1.2.2.2 ?_
  exact hQ
theorem c_countDeeds (hc : vt_code k pc = (27, 1, b, c))  (hs : Nat.ble (vj_cat sc) 8 = true) (hQ : vW vw_rep L xs (k, pc + 3, lc, .int (jI (σ.2 1 0)) :: sc) σ Q) : vW vw_rep L xs (k, pc, lc, .ref 9 :: sc) σ Q := by
  refine w27 (n := 1) (vs := [.ref 9]) hc vm1.2.1 rfl (by rw [vm1.2.2.1]; rfl) hs (by simp only [List.length_cons]; omega) ⟨_, rfl⟩ (fun M hM => hM.2.2.2.2.2.2.1) ⟨by omega, by omega⟩ vm1.1 ?_
  rw [vm1.2.2.1]
  exact m_countDeeds  (Q := fun v σ1 => vW vw_rep L xs (k, pc + 3, lc, v ++ sc) σ1 Q) hQ
theorem m_countCells  (hQ : Q [.int (jI ((σ.1 12 0).length))] σ) : vW vw_rep L xs (2, 0, [some (.ref 9)], []) σ Q := by
  refine w1 vi2_0 rfl rfl ?_
  refine w14h vi2_1 rfl ?_
  refine c_size vi2_4 (show vw_ok 12 0 from ⟨by decide, by decide⟩) rfl ?_
  refine w42 vi2_7 vm2.2.2.2 ?_
  exact hQ
theorem c_countCells (hc : vt_code k pc = (27, 2, b, c))  (hs : Nat.ble (vj_cat sc) 8 = true) (hQ : vW vw_rep L xs (k, pc + 3, lc, .int (jI ((σ.1 12 0).length)) :: sc) σ Q) : vW vw_rep L xs (k, pc, lc, .ref 9 :: sc) σ Q := by
  refine w27 (n := 1) (vs := [.ref 9]) hc vm2.2.1 rfl (by rw [vm2.2.2.1]; rfl) hs (by simp only [List.length_cons]; omega) ⟨_, rfl⟩ (fun M hM => hM.2.2.2.2.2.2.1) ⟨by omega, by omega⟩ vm2.1 ?_
  rw [vm2.2.2.1]
  exact m_countCells  (Q := fun v σ1 => vW vw_rep L xs (k, pc + 3, lc, v ++ sc) σ1 Q) hQ
theorem m_deedAt {z : Int} (hz : vw_in z) (hQ : Q [.ref (vw_dr (ve_ix z))] σ) : vW vw_rep L xs (3, 0, [some (.ref 9), some (.int (jI (z))), none], []) σ Q := by
  have hz1 := hz.1
  have hz2 := hz.2
  refine w0 vi3_0 rfl rfl ?_
  refine w7 vi3_1 (vwz_2 ⟨by omega, by omega⟩) (fun h1 => ?_) (fun h1 => ?_)
  ·
    refine w1 vi3_13 rfl rfl ?_
    refine w14h vi3_14 rfl ?_
    refine w44 vi3_17 vm3.2.2.2 (vw_tb_lt (vw_deed (by omega)) (by omega)) ?_
    rw [ve_ix_no (by omega)] at hQ
    exact hQ
  ·
    refine w0 vi3_4 rfl rfl ?_
    refine w1 vi3_5 rfl rfl ?_
    refine w14h vi3_6 rfl ?_
    refine w26all vi3_9 ?_
    refine w8 vi3_10 (vwc_2 ⟨by omega, by omega⟩ ⟨by omega, by omega⟩) (fun h10 => ?_) (fun h10 => ?_)
    ·
      refine w1 vi3_18 rfl rfl ?_
      refine w14h vi3_19 rfl ?_
      refine w0 vi3_22 rfl rfl ?_
      refine w20all vi3_23 (by omega) (by omega) ?_
      refine w4 vi3_24 rfl rfl ?_
      refine w1 vi3_25 rfl rfl ?_
      refine w61 vi3_26 ?_
      refine w1 vi3_36 rfl rfl ?_
      refine w44 vi3_37 vm3.2.2.2 (vw_tb_lt (vw_deed (by omega)) (by omega)) ?_
      rw [ve_ix_in (by omega) (by omega)] at hQ
      exact hQ
    ·
      refine w1 vi3_13 rfl rfl ?_
      refine w14h vi3_14 rfl ?_
      refine w44 vi3_17 vm3.2.2.2 (vw_tb_lt (vw_deed (by omega)) (by omega)) ?_
      rw [ve_ix_no (by omega)] at hQ
      exact hQ
theorem c_deedAt (hc : vt_code k pc = (27, 3, b, c)) {z : Int} (hz : vw_in z) (hs : Nat.ble (vj_cat sc) 8 = true) (hQ : vW vw_rep L xs (k, pc + 3, lc, .ref (vw_dr (ve_ix z)) :: sc) σ Q) : vW vw_rep L xs (k, pc, lc, .int (jI (z)) :: .ref 9 :: sc) σ Q := by
  refine w27 (n := 2) (vs := [.int (jI (z)), .ref 9]) hc vm3.2.1 rfl (by rw [vm3.2.2.1]; rfl) hs (by simp only [List.length_cons]; omega) ⟨_, rfl⟩ (fun M hM => hM.2.2.2.2.2.2.1) ⟨by omega, by omega⟩ vm3.1 ?_
  rw [vm3.2.2.1]
  exact m_deedAt hz (Q := fun v σ1 => vW vw_rep L xs (k, pc + 3, lc, v ++ sc) σ1 Q) hQ
theorem m_letterOf {z : Int} (hz : vw_in z) (hQ : Q [.int (jI (vl_at (σ.1 12 0) z))] σ) : vW vw_rep L xs (5, 0, [some (.ref 9), some (.int (jI (z)))], []) σ Q := by
  refine w1 vi5_0 rfl rfl ?_
  refine w14h vi5_1 rfl ?_
  refine w0 vi5_4 rfl rfl ?_
  refine c_at vi5_5 (show vw_ok 12 0 from ⟨by decide, by decide⟩) hz rfl ?_
  refine w42 vi5_8 vm5.2.2.2 ?_
  exact hQ
theorem c_letterOf (hc : vt_code k pc = (27, 5, b, c)) {z : Int} (hz : vw_in z) (hs : Nat.ble (vj_cat sc) 8 = true) (hQ : vW vw_rep L xs (k, pc + 3, lc, .int (jI (vl_at (σ.1 12 0) z)) :: sc) σ Q) : vW vw_rep L xs (k, pc, lc, .int (jI (z)) :: .ref 9 :: sc) σ Q := by
  refine w27 (n := 2) (vs := [.int (jI (z)), .ref 9]) hc vm5.2.1 rfl (by rw [vm5.2.2.1]; rfl) hs (by simp only [List.length_cons]; omega) ⟨_, rfl⟩ (fun M hM => hM.2.2.2.2.2.2.1) ⟨by omega, by omega⟩ vm5.1 ?_
  rw [vm5.2.2.1]
  exact m_letterOf hz (Q := fun v σ1 => vW vw_rep L xs (k, pc + 3, lc, v ++ sc) σ1 Q) hQ
theorem m_typeOf {z : Int} (hz : vw_in z) (hQ : Q [.ref (vw_dr (ve_ix (vl_at (σ.1 13 0) z)))] σ) : vW vw_rep L xs (6, 0, [some (.ref 9), some (.int (jI (z)))], []) σ Q := by
  refine vW_vals (show vw_ok 13 0 from ⟨by decide, by decide⟩) (fun hv => ?_)
  refine w1 vi6_0 rfl rfl ?_
  refine w1 vi6_1 rfl rfl ?_
  refine w14h vi6_2 rfl ?_
  refine w0 vi6_5 rfl rfl ?_
  refine c_at vi6_6 (show vw_ok 13 0 from ⟨by decide, by decide⟩) hz rfl ?_
  refine c_deedAt vi6_9 (vl_at_in hv) rfl ?_
  refine w44 vi6_12 vm6.2.2.2 (vw_tb_lt (vw_deed (ve_ix_le _)) (by omega)) ?_
  exact hQ
theorem c_typeOf (hc : vt_code k pc = (27, 6, b, c)) {z : Int} (hz : vw_in z) (hs : Nat.ble (vj_cat sc) 8 = true) (hQ : vW vw_rep L xs (k, pc + 3, lc, .ref (vw_dr (ve_ix (vl_at (σ.1 13 0) z))) :: sc) σ Q) : vW vw_rep L xs (k, pc, lc, .int (jI (z)) :: .ref 9 :: sc) σ Q := by
  refine w27 (n := 2) (vs := [.int (jI (z)), .ref 9]) hc vm6.2.1 rfl (by rw [vm6.2.2.1]; rfl) hs (by simp only [List.length_cons]; omega) ⟨_, rfl⟩ (fun M hM => hM.2.2.2.2.2.2.1) ⟨by omega, by omega⟩ vm6.1 ?_
  rw [vm6.2.2.1]
  exact m_typeOf hz (Q := fun v σ1 => vW vw_rep L xs (k, pc + 3, lc, v ++ sc) σ1 Q) hQ
theorem m_open {z : Nat} (hz : z < 5) (h0 : 0 ≤ σ.2 1 0) (h1 : σ.2 1 0 < 120) (hQ : Q [.ref (vw_dr (σ.2 1 0).toNat)] (σ.1, vw_sv (vw_sv σ.2 4 (σ.2 1 0).toNat (z : Int)) 1 0 (σ.2 1 0 + 1))) : vW vw_rep L xs (4, 0, [some (.ref 9), some (.ref (z + 1)), none], []) σ Q := by
  refine w1 vi4_0 rfl rfl ?_
  refine w1 vi4_1 rfl rfl ?_
  refine w14h vi4_2 rfl ?_
  refine c_deedAt vi4_5 ⟨by omega, by omega⟩ rfl ?_
  rw [ve_ix_in h0 h1]
  refine w4 vi4_8 rfl rfl ?_
  refine w1 vi4_9 rfl rfl ?_
  refine w1 vi4_10 rfl rfl ?_
  refine w15what vi4_11 (by omega) hz ?_
  refine w1 vi4_14 rfl rfl ?_
  refine w38 vi4_15 rfl ?_
  refine w14h vi4_16 rfl ?_
  try dsimp only
  rw [vw_sv_ne _ _ (by omega)]
  refine w2 (1) vi4_19 (by decide) ?_
  refine w9 vi4_20 ?_
  refine w15count vi4_21 ⟨by omega, by omega⟩ ?_
  refine w1 vi4_24 rfl rfl ?_
  refine w44 vi4_25 vm4.2.2.2 (vw_tb_lt (vw_deed (by omega)) (by omega)) ?_
  exact hQ
theorem c_open (hc : vt_code k pc = (27, 4, b, c)) {z : Nat} (hz : z < 5) (h0 : 0 ≤ σ.2 1 0) (h1 : σ.2 1 0 < 120) (hs : Nat.ble (vj_cat sc) 8 = true) (hQ : vW vw_rep L xs (k, pc + 3, lc, .ref (vw_dr (σ.2 1 0).toNat) :: sc) (σ.1, vw_sv (vw_sv σ.2 4 (σ.2 1 0).toNat (z : Int)) 1 0 (σ.2 1 0 + 1)) Q) : vW vw_rep L xs (k, pc, lc, .ref (z + 1) :: .ref 9 :: sc) σ Q := by
  refine w27 (n := 2) (vs := [.ref (z + 1), .ref 9]) hc vm4.2.1 rfl (by rw [vm4.2.2.1]; rfl) hs (by simp only [List.length_cons]; omega) ⟨_, rfl⟩ (fun M hM => hM.2.2.2.2.2.2.1) ⟨by omega, by omega⟩ vm4.1 ?_
  rw [vm4.2.2.1]
  exact m_open hz h0 h1 (Q := fun v σ1 => vW vw_rep L xs (k, pc + 3, lc, v ++ sc) σ1 Q) hQ
end VW6
