/-! ===== deeds and the chronicle ===== -/
section VW6
def ve_ix (z : Int) : Nat := if 0 ≤ z ∧ z < 120 then z.toNat else 120
theorem ve_ix_le (z : Int) : ve_ix z ≤ 120 := by unfold ve_ix; split <;> omega
theorem ve_ix_in {z : Int} (h0 : 0 ≤ z) (h1 : z < 120) : ve_ix z = z.toNat := if_pos ⟨h0, h1⟩
theorem ve_ix_no {z : Int} (h : z < 0 ∨ 120 ≤ z) : ve_ix z = 120 := if_neg (by omega)
theorem vl_at_in {l : List Int} {z : Int} (h : ∀ x ∈ l, vw_in x) : vw_in (vl_at l z) := by
  by_cases h0 : 0 ≤ z ∧ z < l.length
  · exact h _ (List.mem_of_getElem? (vl_at_lt h0.1 h0.2))
  · rw [vl_at_no (by omega)]; exact ⟨by omega, by omega⟩
theorem vw_row_ref {k i : Nat} (h : vw_ok k i) : 8 ≤ vw_rr k i ∧ vw_rr k i < 811 := by
  obtain ⟨-, -, b3, b4⟩ := vw_row h
  exact ⟨b3, by omega⟩
/-- n times, from 0 on -/
def vf {A : Type} (f : Nat → A → A) : Nat → A → A
  | 0, a => a
  | n + 1, a => f n (vf f n a)
/-- a number as an int holds it -/
def jN (z : Int) : Int := (jI z).toInt
theorem jN_in (z : Int) : -2147483648 ≤ jN z ∧ jN z < 2147483648 := vw_in_of _
theorem jI_N (z : Int) : jI z = jI (jN z) := jI_of _
theorem jN_id {z : Int} (h0 : -2147483648 ≤ z) (h1 : z < 2147483648) : jN z = z := jI_int ⟨h0, h1⟩
variable {L : Nat} {xs : Nat → Int32} {σ : vw_S} {Q : List Value → vw_S → Prop} {k pc a b c : Nat} {lc : List (Option Value)} {sc : List Value} {fr : vj_F}
theorem vW_vals {kk i : Nat} (hk : vw_ok kk i) (g : (∀ x ∈ σ.1 kk i, vw_in x) → vW vw_rep L xs fr σ Q) : vW vw_rep L xs fr σ Q := fun M hM => by
  obtain ⟨⟨t, f, r1, r2⟩, -⟩ := hM.2.1 kk i hk
  refine g (fun x hx => ?_) M hM
  obtain ⟨j, hj⟩ := List.getElem?_of_mem hx
  exact (r2 j x hj).1
theorem vW_n (kk i : Nat) (g : -2147483648 ≤ σ.2 kk i → σ.2 kk i < 2147483648 → vW vw_rep L xs fr σ Q) : vW vw_rep L xs fr σ Q := vW_num (fun h => g (h.1 kk i).1 (h.1 kk i).2)
theorem vW_at {kk i : Nat} (hk : vw_ok kk i) (z : Int) (g : -2147483648 ≤ vl_at (σ.1 kk i) z → vl_at (σ.1 kk i) z < 2147483648 → vW vw_rep L xs fr σ Q) : vW vw_rep L xs fr σ Q := vW_vals hk (fun h => g (vl_at_in h).1 (vl_at_in h).2)
theorem c_at2 (hc : vt_code k pc = (27, 27, b, c)) {kk i : Nat} {z : Int} (hk : vw_ok kk i) (h0 : -2147483648 ≤ z) (h1 : z < 2147483648) (hs : Nat.ble (vj_cat sc) 8 = true) (t : -2147483648 ≤ vl_at (σ.1 kk i) z → vl_at (σ.1 kk i) z < 2147483648 → vW vw_rep L xs (k, pc + 3, lc, .int (jI (vl_at (σ.1 kk i) z)) :: sc) σ Q) : vW vw_rep L xs (k, pc, lc, .int (jI z) :: .ref (vw_rr kk i) :: sc) σ Q :=
  vW_vals hk (fun hv => c_at hc hk ⟨h0, h1⟩ hs (t (vl_at_in hv).1 (vl_at_in hv).2))
theorem c_placeOf2 (hc : vt_code k pc = (27, 36, b, c)) {kk i : Nat} {y : Int} (hk : vw_ok kk i) (h0 : -2147483648 ≤ y) (h1 : y < 2147483648) (hs : Nat.ble (vj_cat sc) 8 = true) (t : -2147483648 ≤ vl_pl (σ.1 kk i) y → vl_pl (σ.1 kk i) y < 2147483648 → vW vw_rep L xs (k, pc + 3, lc, .int (jI (vl_pl (σ.1 kk i) y)) :: sc) σ Q) : vW vw_rep L xs (k, pc, lc, .int (jI y) :: .ref (vw_rr kk i) :: sc) σ Q :=
  vW_len hk (fun hl => by
    have hcap := vw_cap_le kk
    have hv := vl_pl_in (σ.1 kk i) y (by omega)
    exact c_placeOf hc hk ⟨h0, h1⟩ hs (t hv.1 hv.2))
theorem vl_pl_cases (l : List Int) (y : Int) : (vl_pl l y = -1 ∧ y ∉ l) ∨ (0 ≤ vl_pl l y ∧ vl_pl l y < l.length ∧ vl_at l (vl_pl l y) = y) := by
  have : ∀ (l : List Int) (j : Nat), (vl_pf l y j = -1 ∧ y ∉ l) ∨ ((j : Int) ≤ vl_pf l y j ∧ vl_pf l y j < j + l.length ∧ l[(vl_pf l y j).toNat - j]? = some y) := by
    intro l
    induction l with
    | nil => intro j; exact Or.inl ⟨rfl, List.not_mem_nil⟩
    | cons x l ih =>
      intro j
      unfold vl_pf
      by_cases e : x = y
      · rw [if_pos e]
        right
        rw [List.length_cons, show ((j : Int)).toNat - j = 0 by omega]
        exact ⟨by omega, by omega, by rw [List.getElem?_cons_zero, e]⟩
      · rw [if_neg e]
        rcases ih (j + 1) with q | q
        · exact Or.inl ⟨q.1, fun h => by
            rcases List.mem_cons.mp h with h | h
            · exact e h.symm
            · exact q.2 h⟩
        · right
          rw [List.length_cons]
          refine ⟨by omega, by omega, ?_⟩
          rw [show (vl_pf l y (j + 1)).toNat - j = ((vl_pf l y (j + 1)).toNat - (j + 1)) + 1 by omega, List.getElem?_cons_succ]
          exact q.2.2
  rcases this l 0 with q | q
  · exact Or.inl q
  · refine Or.inr ⟨by have := q.1; unfold vl_pl; omega, by have := q.2.1; unfold vl_pl; omega, ?_⟩
    have h1 := vl_at_lt (l := l) (z := vl_pl l y) (by have := q.1; unfold vl_pl; omega) (by have := q.2.1; unfold vl_pl; omega)
    have h2 : l[(vl_pl l y).toNat]? = some y := q.2.2
    rw [h2] at h1
    exact (Option.some.inj h1).symm
theorem m_rank {d : Nat} (hd : d ≤ 120) (hQ :  Q [.int (jI (σ.2 7 d * 6 + σ.2 5 d))] σ) : vW vw_rep L xs (24, 0, [some (.ref (vw_dr d))], []) σ Q := by
  refine w1 vi24_0 rfl rfl ?_
  refine w14d vi24_1 (by first | omega | assumption | exact ve_ix_le _) rfl ?_
  refine w2 (6) vi24_4 (by decide) ?_
  refine w11 vi24_6 ?_
  refine w1 vi24_7 rfl rfl ?_
  refine w14d vi24_8 (by first | omega | assumption | exact ve_ix_le _) rfl ?_
  refine w9 vi24_11 ?_
  refine w42 vi24_12 vm24.2.2.2 ?_
  first | exact hQ | exact h1 (by assumption) | exact h0 (by assumption) | exact h1 (by omega) | exact h0 (by omega)
theorem c_rank (hc : vt_code k pc = (27, 24, b, c)) {d : Nat} (hd : d ≤ 120) (hs : Nat.ble (vj_cat sc) 8 = true) (hQ :  vW vw_rep L xs (k, pc + 3, lc, .int (jI (σ.2 7 d * 6 + σ.2 5 d)) :: sc) σ Q) : vW vw_rep L xs (k, pc, lc, .ref (vw_dr d) :: sc) σ Q := by
  refine w27 (n := 1) (vs := [.ref (vw_dr d)]) hc vm24.2.1 rfl (by rw [vm24.2.2.1]; rfl) hs (by simp only [List.length_cons]; omega) ⟨_, rfl⟩ (fun M hM => hM.2.2.1 _ hd) (vw_tb_lt (vw_deed hd) (by omega)) vm24.1 ?_
  rw [vm24.2.2.1]
  exact m_rank hd (Q := fun v σ1 => vW vw_rep L xs (k, pc + 3, lc, v ++ sc) σ1 Q) hQ
theorem m_countDeeds  (hQ :  Q [.int (jI (σ.2 1 0))] σ) : vW vw_rep L xs (1, 0, [some (.ref 9)], []) σ Q := by
  refine w1 vi1_0 rfl rfl ?_
  refine w14h vi1_1 rfl ?_
  refine w42 vi1_4 vm1.2.2.2 ?_
  first | exact hQ | exact h1 (by assumption) | exact h0 (by assumption) | exact h1 (by omega) | exact h0 (by omega)
theorem c_countDeeds (hc : vt_code k pc = (27, 1, b, c))  (hs : Nat.ble (vj_cat sc) 8 = true) (hQ :  vW vw_rep L xs (k, pc + 3, lc, .int (jI (σ.2 1 0)) :: sc) σ Q) : vW vw_rep L xs (k, pc, lc, .ref 9 :: sc) σ Q := by
  refine w27 (n := 1) (vs := [.ref 9]) hc vm1.2.1 rfl (by rw [vm1.2.2.1]; rfl) hs (by simp only [List.length_cons]; omega) ⟨_, rfl⟩ (fun M hM => hM.2.2.2.2.2.2.1) ⟨by omega, by omega⟩ vm1.1 ?_
  rw [vm1.2.2.1]
  exact m_countDeeds  (Q := fun v σ1 => vW vw_rep L xs (k, pc + 3, lc, v ++ sc) σ1 Q) hQ
theorem m_countCells  (hQ :  Q [.int (jI (((σ.1 12 0).length : Int)))] σ) : vW vw_rep L xs (2, 0, [some (.ref 9)], []) σ Q := by
  refine w1 vi2_0 rfl rfl ?_
  refine w14h vi2_1 rfl ?_
  refine c_size vi2_4 (by first | omega | assumption | exact ⟨by omega, by omega⟩ | exact ⟨by decide, by decide⟩ | exact ⟨by decide, by assumption⟩ | exact ⟨by decide, Nat.lt_succ_of_le (by first | assumption | exact ve_ix_le _)⟩ | exact ve_ix_le _) rfl ?_
  refine w42 vi2_7 vm2.2.2.2 ?_
  first | exact hQ | exact h1 (by assumption) | exact h0 (by assumption) | exact h1 (by omega) | exact h0 (by omega)
theorem c_countCells (hc : vt_code k pc = (27, 2, b, c))  (hs : Nat.ble (vj_cat sc) 8 = true) (hQ :  vW vw_rep L xs (k, pc + 3, lc, .int (jI (((σ.1 12 0).length : Int))) :: sc) σ Q) : vW vw_rep L xs (k, pc, lc, .ref 9 :: sc) σ Q := by
  refine w27 (n := 1) (vs := [.ref 9]) hc vm2.2.1 rfl (by rw [vm2.2.2.1]; rfl) hs (by simp only [List.length_cons]; omega) ⟨_, rfl⟩ (fun M hM => hM.2.2.2.2.2.2.1) ⟨by omega, by omega⟩ vm2.1 ?_
  rw [vm2.2.2.1]
  exact m_countCells  (Q := fun v σ1 => vW vw_rep L xs (k, pc + 3, lc, v ++ sc) σ1 Q) hQ
theorem m_deedAt {z : Int} (z0 : -2147483648 ≤ z) (z1 : z < 2147483648) (hQ :  Q [.ref (vw_dr (ve_ix z))] σ) : vW vw_rep L xs (3, 0, [some (.ref 9), some (.int (jI (z))), none], []) σ Q := by
  refine w0 vi3_0 rfl rfl ?_
  refine w7 vi3_1 (vwz_2 ⟨by omega, by omega⟩) (fun h1 => ?_) (fun h1 => ?_)
  ·
    refine w1 vi3_13 rfl rfl ?_
    refine w14h vi3_14 rfl ?_
    refine w44 vi3_17 vm3.2.2.2 (by first | exact ⟨by omega, by omega⟩ | exact vw_tb_lt (vw_deed (by first | omega | assumption | exact ve_ix_le _)) (by omega) | exact vw_tb_lt (vw_copy (by first | assumption | omega)) (by omega) | exact vw_tb_lt (vw_view (by first | assumption | omega)) (by omega) | exact vw_row_ref (by first | assumption | exact ⟨by decide, by decide⟩ | exact ⟨by decide, by assumption⟩)) ?_
    rw [ve_ix_no (by omega)] at hQ
    exact hQ
  ·
    refine w0 vi3_4 rfl rfl ?_
    refine w1 vi3_5 rfl rfl ?_
    refine w14h vi3_6 rfl ?_
    refine w26all vi3_9 ?_
    refine w8 vi3_10 (vwc_2 ⟨by omega, by omega⟩ ⟨by omega, by omega⟩) (fun h10 => ?_) (fun h10 => ?_)
    ·
      refine w1 vi3_18 rfl rfl ?_
      refine w14h vi3_19 rfl ?_
      refine w0 vi3_22 rfl rfl ?_
      refine w20all vi3_23 (by omega) (by omega) ?_
      refine w4 vi3_24 rfl rfl ?_
      refine w1 vi3_25 rfl rfl ?_
      refine w61 vi3_26 ?_
      refine w1 vi3_36 rfl rfl ?_
      refine w44 vi3_37 vm3.2.2.2 (by first | exact ⟨by omega, by omega⟩ | exact vw_tb_lt (vw_deed (by first | omega | assumption | exact ve_ix_le _)) (by omega) | exact vw_tb_lt (vw_copy (by first | assumption | omega)) (by omega) | exact vw_tb_lt (vw_view (by first | assumption | omega)) (by omega) | exact vw_row_ref (by first | assumption | exact ⟨by decide, by decide⟩ | exact ⟨by decide, by assumption⟩)) ?_
      rw [ve_ix_in (by omega) (by omega)] at hQ
      exact hQ
    ·
      refine w1 vi3_13 rfl rfl ?_
      refine w14h vi3_14 rfl ?_
      refine w44 vi3_17 vm3.2.2.2 (by first | exact ⟨by omega, by omega⟩ | exact vw_tb_lt (vw_deed (by first | omega | assumption | exact ve_ix_le _)) (by omega) | exact vw_tb_lt (vw_copy (by first | assumption | omega)) (by omega) | exact vw_tb_lt (vw_view (by first | assumption | omega)) (by omega) | exact vw_row_ref (by first | assumption | exact ⟨by decide, by decide⟩ | exact ⟨by decide, by assumption⟩)) ?_
      rw [ve_ix_no (by omega)] at hQ
      exact hQ
theorem c_deedAt (hc : vt_code k pc = (27, 3, b, c)) {z : Int} (z0 : -2147483648 ≤ z) (z1 : z < 2147483648) (hs : Nat.ble (vj_cat sc) 8 = true) (hQ :  vW vw_rep L xs (k, pc + 3, lc, .ref (vw_dr (ve_ix z)) :: sc) σ Q) : vW vw_rep L xs (k, pc, lc, .int (jI (z)) :: .ref 9 :: sc) σ Q := by
  refine w27 (n := 2) (vs := [.int (jI (z)), .ref 9]) hc vm3.2.1 rfl (by rw [vm3.2.2.1]; rfl) hs (by simp only [List.length_cons]; omega) ⟨_, rfl⟩ (fun M hM => hM.2.2.2.2.2.2.1) ⟨by omega, by omega⟩ vm3.1 ?_
  rw [vm3.2.2.1]
  exact m_deedAt z0 z1 (Q := fun v σ1 => vW vw_rep L xs (k, pc + 3, lc, v ++ sc) σ1 Q) hQ
theorem m_letterOf {z : Int} (z0 : -2147483648 ≤ z) (z1 : z < 2147483648) (hQ : -2147483648 ≤ vl_at (σ.1 12 0) z → vl_at (σ.1 12 0) z < 2147483648 → Q [.int (jI (vl_at (σ.1 12 0) z))] σ) : vW vw_rep L xs (5, 0, [some (.ref 9), some (.int (jI (z)))], []) σ Q := by
  refine w1 vi5_0 rfl rfl ?_
  refine w14h vi5_1 rfl ?_
  refine w0 vi5_4 rfl rfl ?_
  refine c_at2 vi5_5 (by first | omega | assumption | exact ⟨by omega, by omega⟩ | exact ⟨by decide, by decide⟩ | exact ⟨by decide, by assumption⟩ | exact ⟨by decide, Nat.lt_succ_of_le (by first | assumption | exact ve_ix_le _)⟩ | exact ve_ix_le _) (by first | omega | assumption | exact ⟨by omega, by omega⟩ | exact ⟨by decide, by decide⟩ | exact ⟨by decide, by assumption⟩ | exact ⟨by decide, Nat.lt_succ_of_le (by first | assumption | exact ve_ix_le _)⟩ | exact ve_ix_le _) (by first | omega | assumption | exact ⟨by omega, by omega⟩ | exact ⟨by decide, by decide⟩ | exact ⟨by decide, by assumption⟩ | exact ⟨by decide, Nat.lt_succ_of_le (by first | assumption | exact ve_ix_le _)⟩ | exact ve_ix_le _) rfl (fun _ _ => ?_)
  refine w42 vi5_8 vm5.2.2.2 ?_
  exact hQ (by assumption) (by assumption)
theorem c_letterOf (hc : vt_code k pc = (27, 5, b, c)) {z : Int} (z0 : -2147483648 ≤ z) (z1 : z < 2147483648) (hs : Nat.ble (vj_cat sc) 8 = true) (hQ : -2147483648 ≤ vl_at (σ.1 12 0) z → vl_at (σ.1 12 0) z < 2147483648 → vW vw_rep L xs (k, pc + 3, lc, .int (jI (vl_at (σ.1 12 0) z)) :: sc) σ Q) : vW vw_rep L xs (k, pc, lc, .int (jI (z)) :: .ref 9 :: sc) σ Q := by
  refine w27 (n := 2) (vs := [.int (jI (z)), .ref 9]) hc vm5.2.1 rfl (by rw [vm5.2.2.1]; rfl) hs (by simp only [List.length_cons]; omega) ⟨_, rfl⟩ (fun M hM => hM.2.2.2.2.2.2.1) ⟨by omega, by omega⟩ vm5.1 ?_
  rw [vm5.2.2.1]
  exact m_letterOf z0 z1 (Q := fun v σ1 => vW vw_rep L xs (k, pc + 3, lc, v ++ sc) σ1 Q) hQ
theorem m_typeOf {z : Int} (z0 : -2147483648 ≤ z) (z1 : z < 2147483648) (hQ :  Q [.ref (vw_dr (ve_ix (vl_at (σ.1 13 0) z)))] σ) : vW vw_rep L xs (6, 0, [some (.ref 9), some (.int (jI (z)))], []) σ Q := by
  refine w1 vi6_0 rfl rfl ?_
  refine w1 vi6_1 rfl rfl ?_
  refine w14h vi6_2 rfl ?_
  refine w0 vi6_5 rfl rfl ?_
  refine c_at2 vi6_6 (by first | omega | assumption | exact ⟨by omega, by omega⟩ | exact ⟨by decide, by decide⟩ | exact ⟨by decide, by assumption⟩ | exact ⟨by decide, Nat.lt_succ_of_le (by first | assumption | exact ve_ix_le _)⟩ | exact ve_ix_le _) (by first | omega | assumption | exact ⟨by omega, by omega⟩ | exact ⟨by decide, by decide⟩ | exact ⟨by decide, by assumption⟩ | exact ⟨by decide, Nat.lt_succ_of_le (by first | assumption | exact ve_ix_le _)⟩ | exact ve_ix_le _) (by first | omega | assumption | exact ⟨by omega, by omega⟩ | exact ⟨by decide, by decide⟩ | exact ⟨by decide, by assumption⟩ | exact ⟨by decide, Nat.lt_succ_of_le (by first | assumption | exact ve_ix_le _)⟩ | exact ve_ix_le _) rfl (fun _ _ => ?_)
  refine c_deedAt vi6_9 (by first | omega | assumption | exact ⟨by omega, by omega⟩ | exact ⟨by decide, by decide⟩ | exact ⟨by decide, by assumption⟩ | exact ⟨by decide, Nat.lt_succ_of_le (by first | assumption | exact ve_ix_le _)⟩ | exact ve_ix_le _) (by first | omega | assumption | exact ⟨by omega, by omega⟩ | exact ⟨by decide, by decide⟩ | exact ⟨by decide, by assumption⟩ | exact ⟨by decide, Nat.lt_succ_of_le (by first | assumption | exact ve_ix_le _)⟩ | exact ve_ix_le _) rfl ?_
  refine w44 vi6_12 vm6.2.2.2 (by first | exact ⟨by omega, by omega⟩ | exact vw_tb_lt (vw_deed (by first | omega | assumption | exact ve_ix_le _)) (by omega) | exact vw_tb_lt (vw_copy (by first | assumption | omega)) (by omega) | exact vw_tb_lt (vw_view (by first | assumption | omega)) (by omega) | exact vw_row_ref (by first | assumption | exact ⟨by decide, by decide⟩ | exact ⟨by decide, by assumption⟩)) ?_
  first | exact hQ | exact h1 (by assumption) | exact h0 (by assumption) | exact h1 (by omega) | exact h0 (by omega)
theorem c_typeOf (hc : vt_code k pc = (27, 6, b, c)) {z : Int} (z0 : -2147483648 ≤ z) (z1 : z < 2147483648) (hs : Nat.ble (vj_cat sc) 8 = true) (hQ :  vW vw_rep L xs (k, pc + 3, lc, .ref (vw_dr (ve_ix (vl_at (σ.1 13 0) z))) :: sc) σ Q) : vW vw_rep L xs (k, pc, lc, .int (jI (z)) :: .ref 9 :: sc) σ Q := by
  refine w27 (n := 2) (vs := [.int (jI (z)), .ref 9]) hc vm6.2.1 rfl (by rw [vm6.2.2.1]; rfl) hs (by simp only [List.length_cons]; omega) ⟨_, rfl⟩ (fun M hM => hM.2.2.2.2.2.2.1) ⟨by omega, by omega⟩ vm6.1 ?_
  rw [vm6.2.2.1]
  exact m_typeOf z0 z1 (Q := fun v σ1 => vW vw_rep L xs (k, pc + 3, lc, v ++ sc) σ1 Q) hQ
theorem m_open {z : Nat} (hz : z < 5) (h0 : 0 ≤ σ.2 1 0) (h1 : σ.2 1 0 < 120) (hQ :  Q [.ref (vw_dr (σ.2 1 0).toNat)] (σ.1, vw_sv (vw_sv σ.2 4 (σ.2 1 0).toNat (z : Int)) 1 0 (σ.2 1 0 + 1))) : vW vw_rep L xs (4, 0, [some (.ref 9), some (.ref (z + 1)), none], []) σ Q := by
  refine w1 vi4_0 rfl rfl ?_
  refine w1 vi4_1 rfl rfl ?_
  refine w14h vi4_2 rfl ?_
  refine vW_n 1 (0) (fun _ _ => ?_)
  refine c_deedAt vi4_5 (by first | omega | assumption | exact ⟨by omega, by omega⟩ | exact ⟨by decide, by decide⟩ | exact ⟨by decide, by assumption⟩ | exact ⟨by decide, Nat.lt_succ_of_le (by first | assumption | exact ve_ix_le _)⟩ | exact ve_ix_le _) (by first | omega | assumption | exact ⟨by omega, by omega⟩ | exact ⟨by decide, by decide⟩ | exact ⟨by decide, by assumption⟩ | exact ⟨by decide, Nat.lt_succ_of_le (by first | assumption | exact ve_ix_le _)⟩ | exact ve_ix_le _) rfl ?_
  rw [ve_ix_in h0 h1]
  refine w4 vi4_8 rfl rfl ?_
  refine w1 vi4_9 rfl rfl ?_
  refine w1 vi4_10 rfl rfl ?_
  refine w15what vi4_11 (by omega) hz ?_
  try dsimp only
  refine w1 vi4_14 rfl rfl ?_
  refine w38 vi4_15 rfl ?_
  refine w14h vi4_16 rfl ?_
  try dsimp only
  rw [vw_sv_ne _ _ (by omega)]
  refine w2 (1) vi4_19 (by decide) ?_
  refine w9 vi4_20 ?_
  refine w15count vi4_21 ⟨by omega, by omega⟩ ?_
  try dsimp only
  refine w1 vi4_24 rfl rfl ?_
  refine w44 vi4_25 vm4.2.2.2 (by first | exact ⟨by omega, by omega⟩ | exact vw_tb_lt (vw_deed (by first | omega | assumption | exact ve_ix_le _)) (by omega) | exact vw_tb_lt (vw_copy (by first | assumption | omega)) (by omega) | exact vw_tb_lt (vw_view (by first | assumption | omega)) (by omega) | exact vw_row_ref (by first | assumption | exact ⟨by decide, by decide⟩ | exact ⟨by decide, by assumption⟩)) ?_
  first | exact hQ | exact h1 (by assumption) | exact h0 (by assumption) | exact h1 (by omega) | exact h0 (by omega)
theorem c_open (hc : vt_code k pc = (27, 4, b, c)) {z : Nat} (hz : z < 5) (h0 : 0 ≤ σ.2 1 0) (h1 : σ.2 1 0 < 120) (hs : Nat.ble (vj_cat sc) 8 = true) (hQ :  vW vw_rep L xs (k, pc + 3, lc, .ref (vw_dr (σ.2 1 0).toNat) :: sc) (σ.1, vw_sv (vw_sv σ.2 4 (σ.2 1 0).toNat (z : Int)) 1 0 (σ.2 1 0 + 1)) Q) : vW vw_rep L xs (k, pc, lc, .ref (z + 1) :: .ref 9 :: sc) σ Q := by
  refine w27 (n := 2) (vs := [.ref (z + 1), .ref 9]) hc vm4.2.1 rfl (by rw [vm4.2.2.1]; rfl) hs (by simp only [List.length_cons]; omega) ⟨_, rfl⟩ (fun M hM => hM.2.2.2.2.2.2.1) ⟨by omega, by omega⟩ vm4.1 ?_
  rw [vm4.2.2.1]
  exact m_open hz h0 h1 (Q := fun v σ1 => vW vw_rep L xs (k, pc + 3, lc, v ++ sc) σ1 Q) hQ
theorem vl_add_lt {c : Nat} {l : List Int} (y : Int) (h : l.length < c) : vl_add c l y = l ++ [y] := if_pos h
theorem vl_ins_lt {c : Nat} {l : List Int} {p : Nat} (y : Int) (h : l.length < c) (hp : p ≤ l.length) : vl_ins c l (p : Int) y = l.take p ++ y :: l.drop p := by
  unfold vl_ins
  rw [if_pos ⟨h, by omega, by omega⟩, Int.toNat_natCast]
theorem m_addCell_loop {d n : Nat} {z u : Int} (hd : d < 120) (hl : n < 720) (h14 : (σ.1 14 0).length = n)
    (hQ : ∀ p : Nat, p ≤ n → Q [.int (jI (n : Int))] (vw_sr σ.1 14 0 ((σ.1 14 0).take p ++ (n : Int) :: (σ.1 14 0).drop p), σ.2)) : ∀ (e p : Nat), p + e = n → vW vw_rep L xs (7, 49, [some (.ref 9), some (.ref (vw_dr d)), some (.int (jI (z))), some (.int (jI (u))), some (.int (jI ((n : Int)))), some (.int (jI ((p : Int))))], []) σ Q := by
  intro e
  induction e with
  | zero =>
    intro p hp
    refine w0 vi7_49 rfl rfl ?_
    refine w1 vi7_51 rfl rfl ?_
    refine w14h vi7_52 rfl ?_
    refine c_size vi7_55 (by first | omega | assumption | exact ⟨by omega, by omega⟩ | exact ⟨by decide, by decide⟩ | exact ⟨by decide, by assumption⟩ | exact ⟨by decide, Nat.lt_succ_of_le (by first | assumption | exact ve_ix_le _)⟩ | exact ve_ix_le _) rfl ?_
    refine w8 vi7_58 (vwc_3 ⟨by omega, by omega⟩ ⟨by omega, by omega⟩) (fun h58 => ?_) (fun h58 => by exfalso; omega)
    refine w1 vi7_90 rfl rfl ?_
    refine w14h vi7_91 rfl ?_
    refine w0 vi7_94 rfl rfl ?_
    refine w0 vi7_96 rfl rfl ?_
    refine c_insert vi7_98 (by first | omega | assumption | exact ⟨by omega, by omega⟩ | exact ⟨by decide, by decide⟩ | exact ⟨by decide, by assumption⟩ | exact ⟨by decide, Nat.lt_succ_of_le (by first | assumption | exact ve_ix_le _)⟩ | exact ve_ix_le _) ⟨by omega, by omega⟩ ⟨by omega, by omega⟩ rfl ?_
    try dsimp only
    rw [vl_ins_lt _ (show (σ.1 14 0).length < vw_cap 14 by rw [h14]; exact hl) (by omega)]
    refine w0 vi7_101 rfl rfl ?_
    refine w42 vi7_103 vm7.2.2.2 ?_
    exact hQ p (by omega)
  | succ e ih =>
    intro p hp
    refine w0 vi7_49 rfl rfl ?_
    refine w1 vi7_51 rfl rfl ?_
    refine w14h vi7_52 rfl ?_
    refine c_size vi7_55 (by first | omega | assumption | exact ⟨by omega, by omega⟩ | exact ⟨by decide, by decide⟩ | exact ⟨by decide, by assumption⟩ | exact ⟨by decide, Nat.lt_succ_of_le (by first | assumption | exact ve_ix_le _)⟩ | exact ve_ix_le _) rfl ?_
    refine w8 vi7_58 (vwc_3 ⟨by omega, by omega⟩ ⟨by omega, by omega⟩) (fun h58 => by exfalso; omega) (fun h58 => ?_)
    refine w1 vi7_61 rfl rfl ?_
    refine w1 vi7_62 rfl rfl ?_
    refine w14h vi7_63 rfl ?_
    refine w0 vi7_66 rfl rfl ?_
    refine c_at2 vi7_68 (by first | omega | assumption | exact ⟨by omega, by omega⟩ | exact ⟨by decide, by decide⟩ | exact ⟨by decide, by assumption⟩ | exact ⟨by decide, Nat.lt_succ_of_le (by first | assumption | exact ve_ix_le _)⟩ | exact ve_ix_le _) (by first | omega | assumption | exact ⟨by omega, by omega⟩ | exact ⟨by decide, by decide⟩ | exact ⟨by decide, by assumption⟩ | exact ⟨by decide, Nat.lt_succ_of_le (by first | assumption | exact ve_ix_le _)⟩ | exact ve_ix_le _) (by first | omega | assumption | exact ⟨by omega, by omega⟩ | exact ⟨by decide, by decide⟩ | exact ⟨by decide, by assumption⟩ | exact ⟨by decide, Nat.lt_succ_of_le (by first | assumption | exact ve_ix_le _)⟩ | exact ve_ix_le _) rfl (fun _ _ => ?_)
    refine c_typeOf vi7_71 (by first | omega | assumption | exact ⟨by omega, by omega⟩ | exact ⟨by decide, by decide⟩ | exact ⟨by decide, by assumption⟩ | exact ⟨by decide, Nat.lt_succ_of_le (by first | assumption | exact ve_ix_le _)⟩ | exact ve_ix_le _) (by first | omega | assumption | exact ⟨by omega, by omega⟩ | exact ⟨by decide, by decide⟩ | exact ⟨by decide, by assumption⟩ | exact ⟨by decide, Nat.lt_succ_of_le (by first | assumption | exact ve_ix_le _)⟩ | exact ve_ix_le _) rfl ?_
    refine c_rank vi7_74 (by first | omega | assumption | exact ⟨by omega, by omega⟩ | exact ⟨by decide, by decide⟩ | exact ⟨by decide, by assumption⟩ | exact ⟨by decide, Nat.lt_succ_of_le (by first | assumption | exact ve_ix_le _)⟩ | exact ve_ix_le _) rfl ?_
    refine w1 vi7_77 rfl rfl ?_
    refine c_rank vi7_78 (by first | omega | assumption | exact ⟨by omega, by omega⟩ | exact ⟨by decide, by decide⟩ | exact ⟨by decide, by assumption⟩ | exact ⟨by decide, Nat.lt_succ_of_le (by first | assumption | exact ve_ix_le _)⟩ | exact ve_ix_le _) rfl ?_
    refine w8 vi7_81 (Iff.rfl) (fun h81 => ?_) (fun h81 => ?_)
    ·
      refine w1 vi7_90 rfl rfl ?_
      refine w14h vi7_91 rfl ?_
      refine w0 vi7_94 rfl rfl ?_
      refine w0 vi7_96 rfl rfl ?_
      refine c_insert vi7_98 (by first | omega | assumption | exact ⟨by omega, by omega⟩ | exact ⟨by decide, by decide⟩ | exact ⟨by decide, by assumption⟩ | exact ⟨by decide, Nat.lt_succ_of_le (by first | assumption | exact ve_ix_le _)⟩ | exact ve_ix_le _) ⟨by omega, by omega⟩ ⟨by omega, by omega⟩ rfl ?_
      try dsimp only
      rw [vl_ins_lt _ (show (σ.1 14 0).length < vw_cap 14 by rw [h14]; exact hl) (by omega)]
      refine w0 vi7_101 rfl rfl ?_
      refine w42 vi7_103 vm7.2.2.2 ?_
      exact hQ p (by omega)
    ·
      refine w6 (1) vi7_84 rfl (by decide) rfl ?_
      refine w5 vi7_87 ?_
      exact ih (p + 1) (by omega)
theorem m_addCell {d : Nat} {y z : Int} (hd : d < 120) (hl : (σ.1 12 0).length < 720) (hl13 : (σ.1 13 0).length = (σ.1 12 0).length) (hl14 : (σ.1 14 0).length = (σ.1 12 0).length) (y0 : -2147483648 ≤ y) (y1 : y < 2147483648) (z0 : -2147483648 ≤ z) (z1 : z < 2147483648) (hQ : ∀ p : Nat, p ≤ (σ.1 12 0).length → Q [.int (jI (((σ.1 12 0).length : Int)))] (vw_sr (vw_sr (vw_sr σ.1 12 0 (σ.1 12 0 ++ [y])) 13 0 (σ.1 13 0 ++ [(d : Int)])) 14 0 ((σ.1 14 0).take p ++ ((σ.1 12 0).length : Int) :: (σ.1 14 0).drop p), σ.2)) : vW vw_rep L xs (7, 0, [some (.ref 9), some (.ref (vw_dr d)), some (.int (jI (y))), some (.int (jI (z))), none, none], []) σ Q := by
  refine w1 vi7_0 rfl rfl ?_
  refine w14h vi7_1 rfl ?_
  refine c_size vi7_4 (by first | omega | assumption | exact ⟨by omega, by omega⟩ | exact ⟨by decide, by decide⟩ | exact ⟨by decide, by assumption⟩ | exact ⟨by decide, Nat.lt_succ_of_le (by first | assumption | exact ve_ix_le _)⟩ | exact ve_ix_le _) rfl ?_
  refine w3 vi7_7 rfl rfl ?_
  refine w1 vi7_9 rfl rfl ?_
  refine w14h vi7_10 rfl ?_
  refine w0 vi7_13 rfl rfl ?_
  refine c_add vi7_14 (by first | omega | assumption | exact ⟨by omega, by omega⟩ | exact ⟨by decide, by decide⟩ | exact ⟨by decide, by assumption⟩ | exact ⟨by decide, Nat.lt_succ_of_le (by first | assumption | exact ve_ix_le _)⟩ | exact ve_ix_le _) ⟨by omega, by omega⟩ rfl ?_
  try dsimp only
  rw [vl_add_lt _ (show (σ.1 12 0).length < vw_cap 12 from hl)]
  refine w1 vi7_17 rfl rfl ?_
  refine w14h vi7_18 rfl ?_
  refine w1 vi7_21 rfl rfl ?_
  refine w14d vi7_22 (by first | omega | assumption | exact ve_ix_le _) rfl ?_
  rw [if_neg (show ¬ d = 120 by omega)]
  refine c_add vi7_25 (by first | omega | assumption | exact ⟨by omega, by omega⟩ | exact ⟨by decide, by decide⟩ | exact ⟨by decide, by assumption⟩ | exact ⟨by decide, Nat.lt_succ_of_le (by first | assumption | exact ve_ix_le _)⟩ | exact ve_ix_le _) ⟨by omega, by omega⟩ rfl ?_
  try dsimp only
  rw [vw_sr_ne _ _ (by decide), vl_add_lt _ (show (σ.1 13 0).length < vw_cap 13 by rw [hl13]; exact hl)]
  refine w0 vi7_28 rfl rfl ?_
  refine w2 (-1) vi7_29 (by decide) ?_
  refine w8 vi7_30 (vwc_1 ⟨by omega, by omega⟩ ⟨by omega, by omega⟩) (fun h30 => ?_) (fun h30 => ?_)
  ·
    refine w1 vi7_37 rfl rfl ?_
    refine w14h vi7_38 rfl ?_
    refine w0 vi7_41 rfl rfl ?_
    refine c_placeOf2 vi7_42 (by first | omega | assumption | exact ⟨by omega, by omega⟩ | exact ⟨by decide, by decide⟩ | exact ⟨by decide, by assumption⟩ | exact ⟨by decide, Nat.lt_succ_of_le (by first | assumption | exact ve_ix_le _)⟩ | exact ve_ix_le _) (by first | omega | assumption | exact ⟨by omega, by omega⟩ | exact ⟨by decide, by decide⟩ | exact ⟨by decide, by assumption⟩ | exact ⟨by decide, Nat.lt_succ_of_le (by first | assumption | exact ve_ix_le _)⟩ | exact ve_ix_le _) (by first | omega | assumption | exact ⟨by omega, by omega⟩ | exact ⟨by decide, by decide⟩ | exact ⟨by decide, by assumption⟩ | exact ⟨by decide, Nat.lt_succ_of_le (by first | assumption | exact ve_ix_le _)⟩ | exact ve_ix_le _) rfl (fun _ _ => ?_)
    refine w2 (1) vi7_45 (by decide) ?_
    refine w9 vi7_46 ?_
    refine w3 vi7_47 rfl rfl ?_
    have h14 : (vw_sr (vw_sr σ.1 12 0 (σ.1 12 0 ++ [y])) 13 0 (σ.1 13 0 ++ [(d : Int)])) 14 0 = σ.1 14 0 := by rw [vw_sr_ne _ _ (by decide), vw_sr_ne _ _ (by decide)]
    have hQ2 : ∀ p : Nat, p ≤ (σ.1 12 0).length → Q [.int (jI ((σ.1 12 0).length : Int))] (vw_sr (vw_sr (vw_sr σ.1 12 0 (σ.1 12 0 ++ [y])) 13 0 (σ.1 13 0 ++ [(d : Int)])) 14 0 (((vw_sr (vw_sr σ.1 12 0 (σ.1 12 0 ++ [y])) 13 0 (σ.1 13 0 ++ [(d : Int)])) 14 0).take p ++ ((σ.1 12 0).length : Int) :: ((vw_sr (vw_sr σ.1 12 0 (σ.1 12 0 ++ [y])) 13 0 (σ.1 13 0 ++ [(d : Int)])) 14 0).drop p), σ.2) := by
      rw [h14]; exact hQ
    dsimp only
    rw [h14]
    rcases vl_pl_cases (σ.1 14 0) z with hp | hp
    · rw [hp.1]
      exact m_addCell_loop (σ := (vw_sr (vw_sr σ.1 12 0 (σ.1 12 0 ++ [y])) 13 0 (σ.1 13 0 ++ [(d : Int)]), σ.2)) hd hl (by dsimp only; rw [h14]; exact hl14) hQ2 (σ.1 12 0).length 0 (by omega)
    · have e : vl_pl (σ.1 14 0) z + 1 = (((vl_pl (σ.1 14 0) z).toNat + 1 : Nat) : Int) := by omega
      rw [e]
      exact m_addCell_loop (σ := (vw_sr (vw_sr σ.1 12 0 (σ.1 12 0 ++ [y])) 13 0 (σ.1 13 0 ++ [(d : Int)]), σ.2)) hd hl (by dsimp only; rw [h14]; exact hl14) hQ2 ((σ.1 12 0).length - (vl_pl (σ.1 14 0) z).toNat - 1) ((vl_pl (σ.1 14 0) z).toNat + 1) (by omega)
  ·
    refine w2 (0) vi7_33 (by decide) ?_
    refine w5 vi7_34 ?_
    refine w3 vi7_47 rfl rfl ?_
    have h14 : (vw_sr (vw_sr σ.1 12 0 (σ.1 12 0 ++ [y])) 13 0 (σ.1 13 0 ++ [(d : Int)])) 14 0 = σ.1 14 0 := by rw [vw_sr_ne _ _ (by decide), vw_sr_ne _ _ (by decide)]
    have hQ2 : ∀ p : Nat, p ≤ (σ.1 12 0).length → Q [.int (jI ((σ.1 12 0).length : Int))] (vw_sr (vw_sr (vw_sr σ.1 12 0 (σ.1 12 0 ++ [y])) 13 0 (σ.1 13 0 ++ [(d : Int)])) 14 0 (((vw_sr (vw_sr σ.1 12 0 (σ.1 12 0 ++ [y])) 13 0 (σ.1 13 0 ++ [(d : Int)])) 14 0).take p ++ ((σ.1 12 0).length : Int) :: ((vw_sr (vw_sr σ.1 12 0 (σ.1 12 0 ++ [y])) 13 0 (σ.1 13 0 ++ [(d : Int)])) 14 0).drop p), σ.2) := by
      rw [h14]; exact hQ
    exact m_addCell_loop (σ := (vw_sr (vw_sr σ.1 12 0 (σ.1 12 0 ++ [y])) 13 0 (σ.1 13 0 ++ [(d : Int)]), σ.2)) hd hl (by dsimp only; rw [h14]; exact hl14) hQ2 (σ.1 12 0).length 0 (by omega)
theorem c_addCell (hc : vt_code k pc = (27, 7, b, c)) {d : Nat} {y z : Int} (hd : d < 120) (hl : (σ.1 12 0).length < 720) (hl13 : (σ.1 13 0).length = (σ.1 12 0).length) (hl14 : (σ.1 14 0).length = (σ.1 12 0).length) (y0 : -2147483648 ≤ y) (y1 : y < 2147483648) (z0 : -2147483648 ≤ z) (z1 : z < 2147483648) (hs : Nat.ble (vj_cat sc) 8 = true) (hQ : ∀ p : Nat, p ≤ (σ.1 12 0).length → vW vw_rep L xs (k, pc + 3, lc, .int (jI (((σ.1 12 0).length : Int))) :: sc) (vw_sr (vw_sr (vw_sr σ.1 12 0 (σ.1 12 0 ++ [y])) 13 0 (σ.1 13 0 ++ [(d : Int)])) 14 0 ((σ.1 14 0).take p ++ ((σ.1 12 0).length : Int) :: (σ.1 14 0).drop p), σ.2) Q) : vW vw_rep L xs (k, pc, lc, .int (jI (z)) :: .int (jI (y)) :: .ref (vw_dr d) :: .ref 9 :: sc) σ Q := by
  refine w27 (n := 4) (vs := [.int (jI (z)), .int (jI (y)), .ref (vw_dr d), .ref 9]) hc vm7.2.1 rfl (by rw [vm7.2.2.1]; rfl) hs (by simp only [List.length_cons]; omega) ⟨_, rfl⟩ (fun M hM => hM.2.2.2.2.2.2.1) ⟨by omega, by omega⟩ vm7.1 ?_
  rw [vm7.2.2.1]
  exact m_addCell hd hl hl13 hl14 y0 y1 z0 z1 (Q := fun v σ1 => vW vw_rep L xs (k, pc + 3, lc, v ++ sc) σ1 Q) hQ
end VW6
