/-! ===== what the calls share ===== -/
section VW13
/-- rows that no call leaves anything in -/
def vw_sc (k : Nat) : Prop := k = 10 ∨ k = 11 ∨ (15 ≤ k ∧ k ≤ 21)
def vw_same (σ σ' : vw_S) : Prop := σ'.2 = σ.2 ∧ ∀ k i, ¬ vw_sc k → σ'.1 k i = σ.1 k i
theorem vw_same.refl (σ : vw_S) : vw_same σ σ := ⟨rfl, fun _ _ _ => rfl⟩
theorem vw_same.trans {σ σ1 σ2 : vw_S} (h : vw_same σ σ1) (g : vw_same σ1 σ2) : vw_same σ σ2 := ⟨g.1.trans h.1, fun k i q => (g.2 k i q).trans (h.2 k i q)⟩
theorem vw_same.symm {σ σ1 : vw_S} (h : vw_same σ σ1) : vw_same σ1 σ := ⟨h.1.symm, fun k i q => (h.2 k i q).symm⟩
theorem vw_same.row {σ σ1 : vw_S} (h : vw_same σ σ1) {k : Nat} (q : ¬ vw_sc k) : σ1.1 k = σ.1 k := funext fun i => h.2 k i q
theorem vq_rd.same {σ σ1 : vw_S} {v n : Nat} {l : List Int} {tb : Int} (h : vq_rd σ v l n tb σ1) : vw_same σ σ1 := ⟨h.1, fun k i q => h.2.1 k i (fun g => q (Or.inr (Or.inr ⟨g.1, g.2.1⟩)))⟩
theorem vq_vw_same {σ σ1 : vw_S} (h : vw_same σ σ1) (l : List Int) (n : Nat) (tb : Int) : vq_vw σ1 l n tb = vq_vw σ l n tb := by
  unfold vq_vw
  rw [h.1, h.row (k := 5) (by unfold vw_sc; omega), h.row (k := 12) (by unfold vw_sc; omega), h.row (k := 13) (by unfold vw_sc; omega), h.row (k := 14) (by unfold vw_sc; omega)]
theorem vk_lat_same {σ σ1 : vw_S} (h : vw_same σ σ1) (i : Nat) (a : Int) : vk_lat σ1.2 (σ1.1 0 i) a (σ1.1 0 i).length = vk_lat σ.2 (σ.1 0 i) a (σ.1 0 i).length := by
  rw [h.1, h.2 0 i (by unfold vw_sc; omega)]
variable {L : Nat} {xs : Nat → Int32} {σ σ2 : vw_S} {Q : List Value → vw_S → Prop} {k pc a b c kk i : Nat} {lc : List (Option Value)} {sc : List Value} {fr : vj_F} {l l2 : List Int} {V : Nat → Nat → Int} {z y : Int}
theorem vW_thR (hv : σ.2 = V) (d : Nat) (g : (V 2 d = 0 ∨ V 2 d = 1) → vW vw_rep L xs fr σ Q) : vW vw_rep L xs fr σ Q := by subst hv; exact vW_num (fun h => g (h.2.2.1 d))
theorem m_copyThatCame {w : Nat} (hw : w < 6) (hc0 : (w : Int) < σ.2 0 0) (hQ :  Q [.ref (vw_cr w)] σ) : vW vw_rep L xs (92, 0, [some (.ref 8), some (.int (jI ((w : Int)))), none], []) σ Q := by
  refine w0 vi92_0 rfl rfl ?_
  refine w7 vi92_1 (vwz_2 ⟨by omega, by omega⟩) (fun hh1 => by exfalso; omega) (fun hh1 => ?_)
  refine w0 vi92_4 rfl rfl ?_
  refine w1 vi92_5 rfl rfl ?_
  refine w14m (v := .int (jI ((σ.2 0 0)))) vi92_6  rfl ?_
  refine vW_nR (V := σ.2) rfl 0 (0) (fun _ _ => ?_)
  refine w8 vi92_9 (vwc_3 ⟨by omega, by omega⟩ ⟨by omega, by omega⟩) (fun h9 => by exfalso; omega) (fun h9 => ?_)
  refine w0 vi92_12 rfl rfl ?_
  refine w1 vi92_13 rfl rfl ?_
  refine w14m (v := .ref 622) vi92_14  rfl ?_
  refine w26cop vi92_17 ?_
  refine w8 vi92_18 (vwc_2 ⟨by omega, by omega⟩ ⟨by omega, by omega⟩) (fun h18 => ?_) (fun h18 => by exfalso; omega)
  refine w1 vi92_32 rfl rfl ?_
  refine w14m (v := .ref 622) vi92_33  rfl ?_
  refine w0 vi92_36 rfl rfl ?_
  refine w20cop vi92_37 (by omega) (by omega) ?_
  rw [Int.toNat_natCast]
  refine w4 vi92_38 rfl rfl ?_
  refine w1 vi92_39 rfl rfl ?_
  refine w61 vi92_40 ?_
  refine w1 vi92_54 rfl rfl ?_
  refine w44 vi92_55 vm92.2.2.2 (by first | exact ⟨by omega, by omega⟩ | exact vw_tb_lt (vw_deed (by first | omega | assumption | exact ve_ix_le _)) (by omega) | exact vw_tb_lt (vw_copy (by first | assumption | omega)) (by omega) | exact vw_tb_lt (vw_view (by first | assumption | omega)) (by omega) | exact vw_row_ref (by first | assumption | exact ⟨by decide, by decide⟩ | exact ⟨by decide, by assumption⟩)) ?_
  first | exact hQ | exact h1 (by assumption) | exact h0 (by assumption) | exact h1 (by omega) | exact h0 (by omega)
theorem c_copyThatCame (hc : vt_code k pc = (27, 92, b, c)) {w : Nat} (hw : w < 6) (hc0 : (w : Int) < σ.2 0 0) (hs : Nat.ble (vj_cat sc) 8 = true) (hQ :  vW vw_rep L xs (k, pc + 3, lc, .ref (vw_cr w) :: sc) σ Q) : vW vw_rep L xs (k, pc, lc, .int (jI ((w : Int))) :: .ref 8 :: sc) σ Q := by
  refine w27 (n := 2) (vs := [.int (jI ((w : Int))), .ref 8]) hc vm92.2.1 rfl (by rw [vm92.2.2.1]; rfl) hs (by simp only [List.length_cons]; omega) ⟨_, rfl⟩ (fun M hM => hM.2.2.2.2.2.1) ⟨by omega, by omega⟩ vm92.1 ?_
  rw [vm92.2.2.1]
  exact m_copyThatCame hw hc0 (Q := fun v σ1 => vW vw_rep L xs (k, pc + 3, lc, v ++ sc) σ1 Q) hQ
theorem m_presentCopy {w : Nat} (hw : w < 6) (hc0 : (w : Int) < σ.2 0 0) (hp : σ.2 2 w = 1) (hQ :  Q [.ref (vw_cr w)] σ) : vW vw_rep L xs (91, 0, [some (.ref 8), some (.int (jI ((w : Int)))), none], []) σ Q := by
  refine w1 vi91_0 rfl rfl ?_
  refine w0 vi91_1 rfl rfl ?_
  refine c_copyThatCame vi91_2 (by first | omega | exact ve_ix_le _ | exact vk_lat_le _ _ _ _ | assumption) (by first | omega | exact ve_ix_le _ | exact vk_lat_le _ _ _ _ | assumption) rfl ?_
  refine w4 vi91_5 rfl rfl ?_
  refine w1 vi91_6 rfl rfl ?_
  refine w14c (v := .int (jI ((σ.2 2 w)))) vi91_7 (by first | omega | exact ve_ix_le _ | exact vk_lat_le _ _ _ _ | assumption) rfl ?_
  refine vW_nR (V := σ.2) rfl 2 (w) (fun _ _ => ?_)
  refine vW_thR (V := σ.2) rfl (w) (fun hth => ?_)
  refine w7 vi91_10 (vwz_1 ⟨by omega, by omega⟩) (fun h10 => ?_) (fun h10 => by exfalso; omega)
  refine w1 vi91_24 rfl rfl ?_
  refine w44 vi91_25 vm91.2.2.2 (by first | exact ⟨by omega, by omega⟩ | exact vw_tb_lt (vw_deed (by first | omega | assumption | exact ve_ix_le _)) (by omega) | exact vw_tb_lt (vw_copy (by first | assumption | omega)) (by omega) | exact vw_tb_lt (vw_view (by first | assumption | omega)) (by omega) | exact vw_row_ref (by first | assumption | exact ⟨by decide, by decide⟩ | exact ⟨by decide, by assumption⟩)) ?_
  first | exact hQ | exact h1 (by assumption) | exact h0 (by assumption) | exact h1 (by omega) | exact h0 (by omega)
theorem c_presentCopy (hc : vt_code k pc = (27, 91, b, c)) {w : Nat} (hw : w < 6) (hc0 : (w : Int) < σ.2 0 0) (hp : σ.2 2 w = 1) (hs : Nat.ble (vj_cat sc) 8 = true) (hQ :  vW vw_rep L xs (k, pc + 3, lc, .ref (vw_cr w) :: sc) σ Q) : vW vw_rep L xs (k, pc, lc, .int (jI ((w : Int))) :: .ref 8 :: sc) σ Q := by
  refine w27 (n := 2) (vs := [.int (jI ((w : Int))), .ref 8]) hc vm91.2.1 rfl (by rw [vm91.2.2.1]; rfl) hs (by simp only [List.length_cons]; omega) ⟨_, rfl⟩ (fun M hM => hM.2.2.2.2.2.1) ⟨by omega, by omega⟩ vm91.1 ?_
  rw [vm91.2.2.1]
  exact m_presentCopy hw hc0 hp (Q := fun v σ1 => vW vw_rep L xs (k, pc + 3, lc, v ++ sc) σ1 Q) hQ
theorem m_isPresent {w : Nat} (hw : w < 6) (h1 : σ.2 2 w = 1 → Q [.int (jI (1))] σ) (h0 : ¬ σ.2 2 w = 1 → Q [.int (jI (0))] σ) : vW vw_rep L xs (64, 0, [some (.ref 8), some (.int (jI ((w : Int)))), none], []) σ Q := by
  refine w0 vi64_0 rfl rfl ?_
  refine w7 vi64_1 (vwz_2 ⟨by omega, by omega⟩) (fun hh1 => by exfalso; omega) (fun hh1 => ?_)
  refine w0 vi64_4 rfl rfl ?_
  refine w1 vi64_5 rfl rfl ?_
  refine w14m (v := .ref 622) vi64_6  rfl ?_
  refine w26cop vi64_9 ?_
  refine w8 vi64_10 (vwc_2 ⟨by omega, by omega⟩ ⟨by omega, by omega⟩) (fun h10 => ?_) (fun h10 => by exfalso; omega)
  refine w1 vi64_15 rfl rfl ?_
  refine w14m (v := .ref 622) vi64_16  rfl ?_
  refine w0 vi64_19 rfl rfl ?_
  refine w20cop vi64_20 (by omega) (by omega) ?_
  rw [Int.toNat_natCast]
  refine w4 vi64_21 rfl rfl ?_
  refine w1 vi64_22 rfl rfl ?_
  refine w60 vi64_23 ?_
  refine w1 vi64_26 rfl rfl ?_
  refine w14c (v := .int (jI ((σ.2 2 w)))) vi64_27 (by first | omega | exact ve_ix_le _ | exact vk_lat_le _ _ _ _ | assumption) rfl ?_
  refine vW_nR (V := σ.2) rfl 2 (w) (fun _ _ => ?_)
  refine vW_thR (V := σ.2) rfl (w) (fun hth => ?_)
  refine w7 vi64_30 (vwz_0 ⟨by omega, by omega⟩) (fun h30 => ?_) (fun h30 => ?_)
  ·
    refine w2 (0) vi64_37 (by decide) ?_
    refine w42b vi64_38 vm64.2.2.2 (by first | exact Or.inl rfl | exact Or.inr rfl | omega) ?_
    exact h0 (by omega)
  ·
    refine w2 (1) vi64_33 (by decide) ?_
    refine w5 vi64_34 ?_
    refine w42b vi64_38 vm64.2.2.2 (by first | exact Or.inl rfl | exact Or.inr rfl | omega) ?_
    exact h1 (by omega)
theorem c_isPresent (hc : vt_code k pc = (27, 64, b, c)) {w : Nat} (hw : w < 6) (hs : Nat.ble (vj_cat sc) 8 = true) (h1 : σ.2 2 w = 1 → vW vw_rep L xs (k, pc + 3, lc, .int (jI (1)) :: sc) σ Q) (h0 : ¬ σ.2 2 w = 1 → vW vw_rep L xs (k, pc + 3, lc, .int (jI (0)) :: sc) σ Q) : vW vw_rep L xs (k, pc, lc, .int (jI ((w : Int))) :: .ref 8 :: sc) σ Q := by
  refine w27 (n := 2) (vs := [.int (jI ((w : Int))), .ref 8]) hc vm64.2.1 rfl (by rw [vm64.2.2.1]; rfl) hs (by simp only [List.length_cons]; omega) ⟨_, rfl⟩ (fun M hM => hM.2.2.2.2.2.1) ⟨by omega, by omega⟩ vm64.1 ?_
  rw [vm64.2.2.1]
  exact m_isPresent hw (Q := fun v σ1 => vW vw_rep L xs (k, pc + 3, lc, v ++ sc) σ1 Q) h1 h0
theorem m_channelOf {w o : Nat} (hw : w < 6) (ho : o < 6) (hQ :  Q [.ref (vw_rr 7 (w * 6 + o))] σ) : vW vw_rep L xs (106, 0, [some (.ref 8), some (.int (jI ((w : Int)))), some (.int (jI ((o : Int)))), none, none], []) σ Q := by
  refine w0 vi106_0 rfl rfl ?_
  refine w2 (6) vi106_1 (by decide) ?_
  refine w11 vi106_3 ?_
  refine w0 vi106_4 rfl rfl ?_
  refine w9 vi106_5 ?_
  refine w3 vi106_6 rfl rfl ?_
  refine w0 vi106_7 rfl rfl ?_
  refine w7 vi106_8 (vwz_2 ⟨by omega, by omega⟩) (fun h8 => by exfalso; omega) (fun h8 => ?_)
  refine w0 vi106_11 rfl rfl ?_
  refine w1 vi106_12 rfl rfl ?_
  refine w14m (v := .ref 623) vi106_13  rfl ?_
  refine w26ch vi106_16 ?_
  refine w8 vi106_17 (vwc_2 ⟨by omega, by omega⟩ ⟨by omega, by omega⟩) (fun h17 => ?_) (fun h17 => by exfalso; omega)
  refine w1 vi106_25 rfl rfl ?_
  refine w14m (v := .ref 623) vi106_26  rfl ?_
  refine w0 vi106_29 rfl rfl ?_
  refine w20ch vi106_30 (by omega) (by omega) ?_
  rw [show ((w : Int) * 6 + (o : Int)).toNat = w * 6 + o by omega]
  refine w4 vi106_31 rfl rfl ?_
  refine w1 vi106_33 rfl rfl ?_
  refine w61 vi106_35 ?_
  refine w1 vi106_45 rfl rfl ?_
  refine w44 vi106_47 vm106.2.2.2 (by first | exact ⟨by omega, by omega⟩ | exact vw_tb_lt (vw_deed (by first | omega | assumption | exact ve_ix_le _)) (by omega) | exact vw_tb_lt (vw_copy (by first | assumption | omega)) (by omega) | exact vw_tb_lt (vw_view (by first | assumption | omega)) (by omega) | exact vw_row_ref ⟨by decide, (show w * 6 + o < 36 by omega)⟩) ?_
  first | exact hQ | exact h1 (by assumption) | exact h0 (by assumption) | exact h1 (by omega) | exact h0 (by omega)
theorem c_channelOf (hc : vt_code k pc = (27, 106, b, c)) {w o : Nat} (hw : w < 6) (ho : o < 6) (hs : Nat.ble (vj_cat sc) 8 = true) (hQ :  vW vw_rep L xs (k, pc + 3, lc, .ref (vw_rr 7 (w * 6 + o)) :: sc) σ Q) : vW vw_rep L xs (k, pc, lc, .int (jI ((o : Int))) :: .int (jI ((w : Int))) :: .ref 8 :: sc) σ Q := by
  refine w27 (n := 3) (vs := [.int (jI ((o : Int))), .int (jI ((w : Int))), .ref 8]) hc vm106.2.1 rfl (by rw [vm106.2.2.1]; rfl) hs (by simp only [List.length_cons]; omega) ⟨_, rfl⟩ (fun M hM => hM.2.2.2.2.2.1) ⟨by omega, by omega⟩ vm106.1 ?_
  rw [vm106.2.2.1]
  exact m_channelOf hw ho (Q := fun v σ1 => vW vw_rep L xs (k, pc + 3, lc, v ++ sc) σ1 Q) hQ
theorem m_pairPlace {w o : Nat} (hw : w < 6) (ho : o < 6) (hQ :  Q [.int (jI (min (w : Int) (o : Int) * 6 + max (w : Int) (o : Int)))] σ) : vW vw_rep L xs (107, 0, [some (.int (jI ((w : Int)))), some (.int (jI ((o : Int))))], []) σ Q := by
  refine w0 vi107_0 rfl rfl ?_
  refine w0 vi107_1 rfl rfl ?_
  refine w32 vi107_2 ⟨by omega, by omega⟩ ⟨by omega, by omega⟩ rfl ?_
  refine w2 (6) vi107_5 (by decide) ?_
  refine w11 vi107_7 ?_
  refine w0 vi107_8 rfl rfl ?_
  refine w0 vi107_9 rfl rfl ?_
  refine w31 vi107_10 ⟨by omega, by omega⟩ ⟨by omega, by omega⟩ rfl ?_
  refine w9 vi107_13 ?_
  refine w42 vi107_14 vm107.2.2.2 ?_
  first | exact hQ | exact h1 (by assumption) | exact h0 (by assumption) | exact h1 (by omega) | exact h0 (by omega)
theorem c_pairPlace (hc : vt_code k pc = (29, 107, b, c)) {w o : Nat} (hw : w < 6) (ho : o < 6) (hs : Nat.ble (vj_cat sc) 8 = true) (hQ :  vW vw_rep L xs (k, pc + 3, lc, .int (jI (min (w : Int) (o : Int) * 6 + max (w : Int) (o : Int))) :: sc) σ Q) : vW vw_rep L xs (k, pc, lc, .int (jI ((o : Int))) :: .int (jI ((w : Int))) :: sc) σ Q := by
  refine w29 (n := 2) (vs := [.int (jI ((o : Int))), .int (jI ((w : Int)))]) hc vm107.2.1 rfl (by rw [vm107.2.2.1]; rfl) hs (by simp only [List.length_cons]; omega) ?_
  rw [vm107.2.2.1]
  exact m_pairPlace hw ho (Q := fun v σ1 => vW vw_rep L xs (k, pc + 3, lc, v ++ sc) σ1 Q) hQ
theorem m_isCutPair {w o : Nat} (hw : w < 6) (ho : o < 6) (h1 : vl_at (σ.1 9 0) (min (w : Int) (o : Int) * 6 + max (w : Int) (o : Int)) = 1 → Q [.int (jI (1))] σ) (h0 : ¬ vl_at (σ.1 9 0) (min (w : Int) (o : Int) * 6 + max (w : Int) (o : Int)) = 1 → Q [.int (jI (0))] σ) : vW vw_rep L xs (108, 0, [some (.ref 8), some (.int (jI ((w : Int)))), some (.int (jI ((o : Int))))], []) σ Q := by
  refine w1 vi108_0 rfl rfl ?_
  refine w14m (v := .ref (vw_rr 9 0)) vi108_1  rfl ?_
  refine w0 vi108_4 rfl rfl ?_
  refine w0 vi108_5 rfl rfl ?_
  refine c_pairPlace vi108_6 (by first | omega | exact ve_ix_le _ | exact vk_lat_le _ _ _ _ | assumption) (by first | omega | exact ve_ix_le _ | exact vk_lat_le _ _ _ _ | assumption) rfl ?_
  refine r_at (l := (σ.1 9 0)) vi108_9 ⟨by decide, (show 0 < 1 by omega)⟩ (by first | rfl | (dsimp only; repeat (first | rw [vw_sr_eq] | rw [vw_sr_ne _ _ (by omega)]))) (by first | omega | exact ve_ix_le _ | exact vk_lat_le _ _ _ _ | assumption) (by first | omega | exact ve_ix_le _ | exact vk_lat_le _ _ _ _ | assumption) rfl (fun _ _ => ?_)
  refine w2 (1) vi108_12 (by decide) ?_
  refine w8 vi108_13 (vwc_1 ⟨by omega, by omega⟩ ⟨by omega, by omega⟩) (fun h13 => ?_) (fun h13 => ?_)
  ·
    refine w2 (0) vi108_20 (by decide) ?_
    refine w42b vi108_21 vm108.2.2.2 (by first | exact Or.inl rfl | exact Or.inr rfl | omega) ?_
    first | exact hQ | exact h1 (by assumption) | exact h0 (by assumption) | exact h1 (by omega) | exact h0 (by omega)
  ·
    refine w2 (1) vi108_16 (by decide) ?_
    refine w5 vi108_17 ?_
    refine w42b vi108_21 vm108.2.2.2 (by first | exact Or.inl rfl | exact Or.inr rfl | omega) ?_
    first | exact hQ | exact h1 (by assumption) | exact h0 (by assumption) | exact h1 (by omega) | exact h0 (by omega)
theorem c_isCutPair (hc : vt_code k pc = (27, 108, b, c)) {w o : Nat} (hw : w < 6) (ho : o < 6) (hs : Nat.ble (vj_cat sc) 8 = true) (h1 : vl_at (σ.1 9 0) (min (w : Int) (o : Int) * 6 + max (w : Int) (o : Int)) = 1 → vW vw_rep L xs (k, pc + 3, lc, .int (jI (1)) :: sc) σ Q) (h0 : ¬ vl_at (σ.1 9 0) (min (w : Int) (o : Int) * 6 + max (w : Int) (o : Int)) = 1 → vW vw_rep L xs (k, pc + 3, lc, .int (jI (0)) :: sc) σ Q) : vW vw_rep L xs (k, pc, lc, .int (jI ((o : Int))) :: .int (jI ((w : Int))) :: .ref 8 :: sc) σ Q := by
  refine w27 (n := 3) (vs := [.int (jI ((o : Int))), .int (jI ((w : Int))), .ref 8]) hc vm108.2.1 rfl (by rw [vm108.2.2.1]; rfl) hs (by simp only [List.length_cons]; omega) ⟨_, rfl⟩ (fun M hM => hM.2.2.2.2.2.1) ⟨by omega, by omega⟩ vm108.1 ?_
  rw [vm108.2.2.1]
  exact m_isCutPair hw ho (Q := fun v σ1 => vW vw_rep L xs (k, pc + 3, lc, v ++ sc) σ1 Q) h1 h0
theorem m_demandTwo {w o : Nat} (hw : w < 6) (ho : o < 6) (hne : ¬ w = o) (hQ :  Q [] σ) : vW vw_rep L xs (93, 0, [some (.int (jI ((w : Int)))), some (.int (jI ((o : Int))))], []) σ Q := by
  refine w0 vi93_0 rfl rfl ?_
  refine w0 vi93_1 rfl rfl ?_
  refine w8 vi93_2 (vwc_1 ⟨by omega, by omega⟩ ⟨by omega, by omega⟩) (fun hh2 => ?_) (fun hh2 => by exfalso; omega)
  refine w43 vi93_16 vm93.2.2.2 ?_
  first | exact hQ | exact h1 (by assumption) | exact h0 (by assumption) | exact h1 (by omega) | exact h0 (by omega)
theorem c_demandTwo (hc : vt_code k pc = (29, 93, b, c)) {w o : Nat} (hw : w < 6) (ho : o < 6) (hne : ¬ w = o) (hs : Nat.ble (vj_cat sc) 8 = true) (hQ :  vW vw_rep L xs (k, pc + 3, lc, sc) σ Q) : vW vw_rep L xs (k, pc, lc, .int (jI ((o : Int))) :: .int (jI ((w : Int))) :: sc) σ Q := by
  refine w29 (n := 2) (vs := [.int (jI ((o : Int))), .int (jI ((w : Int)))]) hc vm93.2.1 rfl (by rw [vm93.2.2.1]; rfl) hs (by simp only [List.length_cons]; omega) ?_
  rw [vm93.2.2.1]
  exact m_demandTwo hw ho hne (Q := fun v σ1 => vW vw_rep L xs (k, pc + 3, lc, v ++ sc) σ1 Q) hQ
theorem m_demandPlace {kk i : Nat} (hk : vw_ok kk i) {z : Int} (z0 : 0 ≤ z) (z1 : z < (σ.1 kk i).length) (hQ :  Q [] σ) : vW vw_rep L xs (94, 0, [some (.ref (vw_rr kk i)), some (.int (jI (z)))], []) σ Q := by
  have hcap := vw_cap_le kk
  refine vW_len hk (fun hl => ?_)
  refine w0 vi94_0 rfl rfl ?_
  refine w7 vi94_1 (vwz_2 ⟨by omega, by omega⟩) (fun hh1 => by exfalso; omega) (fun hh1 => ?_)
  refine w0 vi94_4 rfl rfl ?_
  refine w1 vi94_5 rfl rfl ?_
  refine r_size (l := (σ.1 kk i)) vi94_6 hk (by first | rfl | (dsimp only; repeat (first | rw [vw_sr_eq] | rw [vw_sr_ne _ _ (by omega)]))) rfl ?_
  refine w8 vi94_9 (vwc_2 ⟨by omega, by omega⟩ ⟨by omega, by omega⟩) (fun h9 => ?_) (fun h9 => by exfalso; omega)
  refine w43 vi94_23 vm94.2.2.2 ?_
  first | exact hQ | exact h1 (by assumption) | exact h0 (by assumption) | exact h1 (by omega) | exact h0 (by omega)
theorem c_demandPlace (hc : vt_code k pc = (29, 94, b, c)) {kk i : Nat} (hk : vw_ok kk i) {z : Int} (z0 : 0 ≤ z) (z1 : z < (σ.1 kk i).length) (hs : Nat.ble (vj_cat sc) 8 = true) (hQ :  vW vw_rep L xs (k, pc + 3, lc, sc) σ Q) : vW vw_rep L xs (k, pc, lc, .int (jI (z)) :: .ref (vw_rr kk i) :: sc) σ Q := by
  refine w29 (n := 2) (vs := [.int (jI (z)), .ref (vw_rr kk i)]) hc vm94.2.1 rfl (by rw [vm94.2.2.1]; rfl) hs (by simp only [List.length_cons]; omega) ?_
  rw [vm94.2.2.1]
  exact m_demandPlace hk z0 z1 (Q := fun v σ1 => vW vw_rep L xs (k, pc + 3, lc, v ++ sc) σ1 Q) hQ
theorem m_demandJoined {w o : Nat} (hw : w < 6) (ho : o < 6) (hcut : ¬ vl_at (σ.1 9 0) (min (w : Int) (o : Int) * 6 + max (w : Int) (o : Int)) = 1) (hQ :  Q [] σ) : vW vw_rep L xs (95, 0, [some (.ref 8), some (.int (jI ((w : Int)))), some (.int (jI ((o : Int))))], []) σ Q := by
  refine w1 vi95_0 rfl rfl ?_
  refine w0 vi95_1 rfl rfl ?_
  refine w0 vi95_2 rfl rfl ?_
  refine c_isCutPair vi95_3 hw ho rfl (fun hb => absurd hb hcut) (fun hb => ?_)
  refine w7 vi95_6 (vwz_0 ⟨by omega, by omega⟩) (fun h6 => ?_) (fun h6 => by exfalso; omega)
  refine w43 vi95_20 vm95.2.2.2 ?_
  first | exact hQ | exact h1 (by assumption) | exact h0 (by assumption) | exact h1 (by omega) | exact h0 (by omega)
theorem c_demandJoined (hc : vt_code k pc = (27, 95, b, c)) {w o : Nat} (hw : w < 6) (ho : o < 6) (hcut : ¬ vl_at (σ.1 9 0) (min (w : Int) (o : Int) * 6 + max (w : Int) (o : Int)) = 1) (hs : Nat.ble (vj_cat sc) 8 = true) (hQ :  vW vw_rep L xs (k, pc + 3, lc, sc) σ Q) : vW vw_rep L xs (k, pc, lc, .int (jI ((o : Int))) :: .int (jI ((w : Int))) :: .ref 8 :: sc) σ Q := by
  refine w27 (n := 3) (vs := [.int (jI ((o : Int))), .int (jI ((w : Int))), .ref 8]) hc vm95.2.1 rfl (by rw [vm95.2.2.1]; rfl) hs (by simp only [List.length_cons]; omega) ⟨_, rfl⟩ (fun M hM => hM.2.2.2.2.2.1) ⟨by omega, by omega⟩ vm95.1 ?_
  rw [vm95.2.2.1]
  exact m_demandJoined hw ho hcut (Q := fun v σ1 => vW vw_rep L xs (k, pc + 3, lc, v ++ sc) σ1 Q) hQ
theorem m_demandRoom (n0 : 0 ≤ σ.2 1 0) (n1 : σ.2 1 0 < 120) (hQ :  Q [] σ) : vW vw_rep L xs (96, 0, [some (.ref 8)], []) σ Q := by
  refine w1 vi96_0 rfl rfl ?_
  refine w14m (v := .ref 9) vi96_1  rfl ?_
  refine c_countDeedsR (z := (σ.2 1 0)) vi96_4 rfl rfl ?_
  refine w2 (120) vi96_7 (by decide) ?_
  refine w8 vi96_9 (vwc_2 ⟨by omega, by omega⟩ ⟨by omega, by omega⟩) (fun h9 => ?_) (fun h9 => by exfalso; omega)
  refine w43 vi96_23 vm96.2.2.2 ?_
  first | exact hQ | exact h1 (by assumption) | exact h0 (by assumption) | exact h1 (by omega) | exact h0 (by omega)
theorem c_demandRoom (hc : vt_code k pc = (27, 96, b, c)) (n0 : 0 ≤ σ.2 1 0) (n1 : σ.2 1 0 < 120) (hs : Nat.ble (vj_cat sc) 8 = true) (hQ :  vW vw_rep L xs (k, pc + 3, lc, sc) σ Q) : vW vw_rep L xs (k, pc, lc, .ref 8 :: sc) σ Q := by
  refine w27 (n := 1) (vs := [.ref 8]) hc vm96.2.1 rfl (by rw [vm96.2.2.1]; rfl) hs (by simp only [List.length_cons]; omega) ⟨_, rfl⟩ (fun M hM => hM.2.2.2.2.2.1) ⟨by omega, by omega⟩ vm96.1 ?_
  rw [vm96.2.2.1]
  exact m_demandRoom n0 n1 (Q := fun v σ1 => vW vw_rep L xs (k, pc + 3, lc, v ++ sc) σ1 Q) hQ
theorem m_demandCaret {v : Nat} (hv : v < 2) {z : Int} (z0 : 0 ≤ z) (z1 : z ≤ (σ.1 16 v).length) (hQ :  Q [] σ) : vW vw_rep L xs (97, 0, [some (.ref (vw_vr v)), some (.int (jI (z)))], []) σ Q := by
  refine vW_len (kk := 16) (i := v) ⟨by decide, hv⟩ (fun hl => ?_)
  have hl : (σ.1 16 v).length ≤ 720 := hl
  refine w0 vi97_0 rfl rfl ?_
  refine w7 vi97_1 (vwz_2 ⟨by omega, by omega⟩) (fun hh1 => by exfalso; omega) (fun hh1 => ?_)
  refine w0 vi97_4 rfl rfl ?_
  refine w1 vi97_5 rfl rfl ?_
  refine w14v (v := .ref (vw_rr 16 v)) vi97_6 (by first | omega | exact ve_ix_le _ | exact vk_lat_le _ _ _ _ | assumption) rfl ?_
  refine r_size (l := (σ.1 16 v)) vi97_9 ⟨by decide, (show v < 2 by omega)⟩ (by first | rfl | (dsimp only; repeat (first | rw [vw_sr_eq] | rw [vw_sr_ne _ _ (by omega)]))) rfl ?_
  refine w8 vi97_12 (vwc_5 ⟨by omega, by omega⟩ ⟨by omega, by omega⟩) (fun h12 => ?_) (fun h12 => by exfalso; omega)
  refine w43 vi97_26 vm97.2.2.2 ?_
  first | exact hQ | exact h1 (by assumption) | exact h0 (by assumption) | exact h1 (by omega) | exact h0 (by omega)
theorem c_demandCaret (hc : vt_code k pc = (29, 97, b, c)) {v : Nat} (hv : v < 2) {z : Int} (z0 : 0 ≤ z) (z1 : z ≤ (σ.1 16 v).length) (hs : Nat.ble (vj_cat sc) 8 = true) (hQ :  vW vw_rep L xs (k, pc + 3, lc, sc) σ Q) : vW vw_rep L xs (k, pc, lc, .int (jI (z)) :: .ref (vw_vr v) :: sc) σ Q := by
  refine w29 (n := 2) (vs := [.int (jI (z)), .ref (vw_vr v)]) hc vm97.2.1 rfl (by rw [vm97.2.2.1]; rfl) hs (by simp only [List.length_cons]; omega) ?_
  rw [vm97.2.2.1]
  exact m_demandCaret hv z0 z1 (Q := fun v σ1 => vW vw_rep L xs (k, pc + 3, lc, v ++ sc) σ1 Q) hQ
theorem m_demandLetters {z y : Int} (z0 : 0 ≤ z) (z1 : z < 27) (y0 : 1 ≤ y) (y1 : y ≤ 6) (hQ :  Q [] σ) : vW vw_rep L xs (98, 0, [some (.int (jI (z))), some (.int (jI (y)))], []) σ Q := by
  refine w0 vi98_0 rfl rfl ?_
  refine w7 vi98_1 (vwz_2 ⟨by omega, by omega⟩) (fun hh1 => by exfalso; omega) (fun hh1 => ?_)
  refine w0 vi98_4 rfl rfl ?_
  refine w2 (27) vi98_5 (by decide) ?_
  refine w8 vi98_7 (vwc_3 ⟨by omega, by omega⟩ ⟨by omega, by omega⟩) (fun h7 => by exfalso; omega) (fun h7 => ?_)
  refine w0 vi98_10 rfl rfl ?_
  refine w2 (1) vi98_11 (by decide) ?_
  refine w8 vi98_12 (vwc_2 ⟨by omega, by omega⟩ ⟨by omega, by omega⟩) (fun h12 => by exfalso; omega) (fun h12 => ?_)
  refine w0 vi98_15 rfl rfl ?_
  refine w2 (6) vi98_16 (by decide) ?_
  refine w8 vi98_18 (vwc_5 ⟨by omega, by omega⟩ ⟨by omega, by omega⟩) (fun h18 => ?_) (fun h18 => by exfalso; omega)
  refine w43 vi98_32 vm98.2.2.2 ?_
  first | exact hQ | exact h1 (by assumption) | exact h0 (by assumption) | exact h1 (by omega) | exact h0 (by omega)
theorem c_demandLetters (hc : vt_code k pc = (29, 98, b, c)) {z y : Int} (z0 : 0 ≤ z) (z1 : z < 27) (y0 : 1 ≤ y) (y1 : y ≤ 6) (hs : Nat.ble (vj_cat sc) 8 = true) (hQ :  vW vw_rep L xs (k, pc + 3, lc, sc) σ Q) : vW vw_rep L xs (k, pc, lc, .int (jI (y)) :: .int (jI (z)) :: sc) σ Q := by
  refine w29 (n := 2) (vs := [.int (jI (y)), .int (jI (z))]) hc vm98.2.1 rfl (by rw [vm98.2.2.1]; rfl) hs (by simp only [List.length_cons]; omega) ?_
  rw [vm98.2.2.1]
  exact m_demandLetters z0 z1 y0 y1 (Q := fun v σ1 => vW vw_rep L xs (k, pc + 3, lc, v ++ sc) σ1 Q) hQ
theorem m_demandCovered {v : Nat} (hv : v < 2) {z y : Int} (z0 : 0 ≤ z) (y0 : 1 ≤ y) (y1 : y ≤ 12) (z1 : z ≤ (σ.1 16 v).length - y) (hQ :  Q [] σ) : vW vw_rep L xs (99, 0, [some (.ref (vw_vr v)), some (.int (jI (z))), some (.int (jI (y)))], []) σ Q := by
  refine vW_len (kk := 16) (i := v) ⟨by decide, hv⟩ (fun hl => ?_)
  have hl : (σ.1 16 v).length ≤ 720 := hl
  refine w0 vi99_0 rfl rfl ?_
  refine w2 (1) vi99_1 (by decide) ?_
  refine w8 vi99_2 (vwc_2 ⟨by omega, by omega⟩ ⟨by omega, by omega⟩) (fun hh2 => by exfalso; omega) (fun hh2 => ?_)
  refine w0 vi99_5 rfl rfl ?_
  refine w2 (12) vi99_6 (by decide) ?_
  refine w8 vi99_8 (vwc_5 ⟨by omega, by omega⟩ ⟨by omega, by omega⟩) (fun h8 => ?_) (fun h8 => by exfalso; omega)
  refine w0 vi99_22 rfl rfl ?_
  refine w7 vi99_23 (vwz_2 ⟨by omega, by omega⟩) (fun h23 => by exfalso; omega) (fun h23 => ?_)
  refine w0 vi99_26 rfl rfl ?_
  refine w1 vi99_27 rfl rfl ?_
  refine w14v (v := .ref (vw_rr 16 v)) vi99_28 (by first | omega | exact ve_ix_le _ | exact vk_lat_le _ _ _ _ | assumption) rfl ?_
  refine r_size (l := (σ.1 16 v)) vi99_31 ⟨by decide, (show v < 2 by omega)⟩ (by first | rfl | (dsimp only; repeat (first | rw [vw_sr_eq] | rw [vw_sr_ne _ _ (by omega)]))) rfl ?_
  refine w0 vi99_34 rfl rfl ?_
  refine w10 vi99_35 ?_
  refine w8 vi99_36 (vwc_5 ⟨by omega, by omega⟩ ⟨by omega, by omega⟩) (fun h36 => ?_) (fun h36 => by exfalso; omega)
  refine w43 vi99_50 vm99.2.2.2 ?_
  first | exact hQ | exact h1 (by assumption) | exact h0 (by assumption) | exact h1 (by omega) | exact h0 (by omega)
theorem c_demandCovered (hc : vt_code k pc = (29, 99, b, c)) {v : Nat} (hv : v < 2) {z y : Int} (z0 : 0 ≤ z) (y0 : 1 ≤ y) (y1 : y ≤ 12) (z1 : z ≤ (σ.1 16 v).length - y) (hs : Nat.ble (vj_cat sc) 8 = true) (hQ :  vW vw_rep L xs (k, pc + 3, lc, sc) σ Q) : vW vw_rep L xs (k, pc, lc, .int (jI (y)) :: .int (jI (z)) :: .ref (vw_vr v) :: sc) σ Q := by
  refine w29 (n := 3) (vs := [.int (jI (y)), .int (jI (z)), .ref (vw_vr v)]) hc vm99.2.1 rfl (by rw [vm99.2.2.1]; rfl) hs (by simp only [List.length_cons]; omega) ?_
  rw [vm99.2.2.1]
  exact m_demandCovered hv z0 y0 y1 z1 (Q := fun v σ1 => vW vw_rep L xs (k, pc + 3, lc, v ++ sc) σ1 Q) hQ
theorem m_textCell {v : Nat} (hv : v < 2) {z : Int} (z0 : 0 ≤ z) (z1 : z < (σ.1 16 v).length) (hQ : -2147483648 ≤ vl_at (σ.1 16 v) z → vl_at (σ.1 16 v) z < 2147483648 → Q [.int (jI (vl_at (σ.1 16 v) z))] σ) : vW vw_rep L xs (100, 0, [some (.ref (vw_vr v)), some (.int (jI (z)))], []) σ Q := by
  refine vW_len (kk := 16) (i := v) ⟨by decide, hv⟩ (fun hl => ?_)
  have hl : (σ.1 16 v).length ≤ 720 := hl
  refine w0 vi100_0 rfl rfl ?_
  refine w7 vi100_1 (vwz_2 ⟨by omega, by omega⟩) (fun hh1 => by exfalso; omega) (fun hh1 => ?_)
  refine w0 vi100_4 rfl rfl ?_
  refine w1 vi100_5 rfl rfl ?_
  refine w14v (v := .ref (vw_rr 16 v)) vi100_6 (by first | omega | exact ve_ix_le _ | exact vk_lat_le _ _ _ _ | assumption) rfl ?_
  refine r_size (l := (σ.1 16 v)) vi100_9 ⟨by decide, (show v < 2 by omega)⟩ (by first | rfl | (dsimp only; repeat (first | rw [vw_sr_eq] | rw [vw_sr_ne _ _ (by omega)]))) rfl ?_
  refine w8 vi100_12 (vwc_2 ⟨by omega, by omega⟩ ⟨by omega, by omega⟩) (fun h12 => ?_) (fun h12 => by exfalso; omega)
  refine w1 vi100_26 rfl rfl ?_
  refine w14v (v := .ref (vw_rr 16 v)) vi100_27 (by first | omega | exact ve_ix_le _ | exact vk_lat_le _ _ _ _ | assumption) rfl ?_
  refine w0 vi100_30 rfl rfl ?_
  refine r_at (l := (σ.1 16 v)) vi100_31 ⟨by decide, (show v < 2 by omega)⟩ (by first | rfl | (dsimp only; repeat (first | rw [vw_sr_eq] | rw [vw_sr_ne _ _ (by omega)]))) (by first | omega | exact ve_ix_le _ | exact vk_lat_le _ _ _ _ | assumption) (by first | omega | exact ve_ix_le _ | exact vk_lat_le _ _ _ _ | assumption) rfl (fun _ _ => ?_)
  refine w42 vi100_34 vm100.2.2.2 ?_
  exact hQ (by omega) (by omega)
theorem c_textCell (hc : vt_code k pc = (29, 100, b, c)) {v : Nat} (hv : v < 2) {z : Int} (z0 : 0 ≤ z) (z1 : z < (σ.1 16 v).length) (hs : Nat.ble (vj_cat sc) 8 = true) (hQ : -2147483648 ≤ vl_at (σ.1 16 v) z → vl_at (σ.1 16 v) z < 2147483648 → vW vw_rep L xs (k, pc + 3, lc, .int (jI (vl_at (σ.1 16 v) z)) :: sc) σ Q) : vW vw_rep L xs (k, pc, lc, .int (jI (z)) :: .ref (vw_vr v) :: sc) σ Q := by
  refine w29 (n := 2) (vs := [.int (jI (z)), .ref (vw_vr v)]) hc vm100.2.1 rfl (by rw [vm100.2.2.1]; rfl) hs (by simp only [List.length_cons]; omega) ?_
  rw [vm100.2.2.1]
  exact m_textCell hv z0 z1 (Q := fun v σ1 => vW vw_rep L xs (k, pc + 3, lc, v ++ sc) σ1 Q) hQ
theorem m_see {i : Nat} (hi : i < 6) (n0 : 0 ≤ σ.2 1 0) (n1 : σ.2 1 0 ≤ 120) (hQ : ∀ σ', vq_rd σ 0 (σ.1 0 i) (σ.1 0 i).length (-1) σ' → Q [.ref (vw_vr 0)] σ') : vW vw_rep L xs (110, 0, [some (.ref 8), some (.ref (vw_cr i))], []) σ Q := by
  refine vW_len (kk := 0) (i := i) ⟨by decide, hi⟩ (fun hn => ?_)
  have hn : (σ.1 0 i).length ≤ 120 := hn
  refine w1 vi110_0 rfl rfl ?_
  refine w14m (v := .ref (vw_vr 0)) vi110_1  rfl ?_
  refine w1 vi110_4 rfl rfl ?_
  refine w14m (v := .ref 9) vi110_5  rfl ?_
  refine w1 vi110_8 rfl rfl ?_
  refine w14c (v := .ref (vw_rr 0 i)) vi110_9 (by first | omega | exact ve_ix_le _ | exact vk_lat_le _ _ _ _ | assumption) rfl ?_
  refine w1 vi110_12 rfl rfl ?_
  refine w14c (v := .ref (vw_rr 0 i)) vi110_13 (by first | omega | exact ve_ix_le _ | exact vk_lat_le _ _ _ _ | assumption) rfl ?_
  refine r_size (l := (σ.1 0 i)) vi110_16 ⟨by decide, (show i < 6 by omega)⟩ (by first | rfl | (dsimp only; repeat (first | rw [vw_sr_eq] | rw [vw_sr_ne _ _ (by omega)]))) rfl ?_
  refine w2 (-1) vi110_19 (by decide) ?_
  refine c_read (kk := 0) (ii := i) (n := (σ.1 0 i).length) (tb := -1) vi110_20 (show 0 < 2 by decide) n0 n1 ⟨by decide, (show i < 6 by omega)⟩ (by decide) hn (by omega) (by omega) rfl (fun σ1 g1 => ?_)
  refine w1 vi110_23 rfl rfl ?_
  refine w14m (v := .ref (vw_vr 0)) vi110_24  rfl ?_
  refine w44 vi110_27 vm110.2.2.2 (by first | exact ⟨by omega, by omega⟩ | exact vw_tb_lt (vw_deed (by first | omega | assumption | exact ve_ix_le _)) (by omega) | exact vw_tb_lt (vw_copy (by first | assumption | omega)) (by omega) | exact vw_tb_lt (vw_view (by first | assumption | omega)) (by omega) | exact vw_row_ref (by first | assumption | exact ⟨by decide, by decide⟩ | exact ⟨by decide, by assumption⟩)) ?_
  exact hQ σ1 g1
theorem c_see (hc : vt_code k pc = (27, 110, b, c)) {i : Nat} (hi : i < 6) (n0 : 0 ≤ σ.2 1 0) (n1 : σ.2 1 0 ≤ 120) (hs : Nat.ble (vj_cat sc) 8 = true) (hQ : ∀ σ', vq_rd σ 0 (σ.1 0 i) (σ.1 0 i).length (-1) σ' → vW vw_rep L xs (k, pc + 3, lc, .ref (vw_vr 0) :: sc) σ' Q) : vW vw_rep L xs (k, pc, lc, .ref (vw_cr i) :: .ref 8 :: sc) σ Q := by
  refine w27 (n := 2) (vs := [.ref (vw_cr i), .ref 8]) hc vm110.2.1 rfl (by rw [vm110.2.2.1]; rfl) hs (by simp only [List.length_cons]; omega) ⟨_, rfl⟩ (fun M hM => hM.2.2.2.2.2.1) ⟨by omega, by omega⟩ vm110.1 ?_
  rw [vm110.2.2.1]
  exact m_see hi n0 n1 (Q := fun v σ1 => vW vw_rep L xs (k, pc + 3, lc, v ++ sc) σ1 Q) hQ
theorem m_seeAsWell {i : Nat} (hi : i < 6) (n0 : 0 ≤ σ.2 1 0) (n1 : σ.2 1 0 ≤ 120) (hQ : ∀ σ', vq_rd σ 1 (σ.1 0 i) (σ.1 0 i).length (-1) σ' → Q [.ref (vw_vr 1)] σ') : vW vw_rep L xs (111, 0, [some (.ref 8), some (.ref (vw_cr i))], []) σ Q := by
  refine vW_len (kk := 0) (i := i) ⟨by decide, hi⟩ (fun hn => ?_)
  have hn : (σ.1 0 i).length ≤ 120 := hn
  refine w1 vi111_0 rfl rfl ?_
  refine w14m (v := .ref (vw_vr 1)) vi111_1  rfl ?_
  refine w1 vi111_4 rfl rfl ?_
  refine w14m (v := .ref 9) vi111_5  rfl ?_
  refine w1 vi111_8 rfl rfl ?_
  refine w14c (v := .ref (vw_rr 0 i)) vi111_9 (by first | omega | exact ve_ix_le _ | exact vk_lat_le _ _ _ _ | assumption) rfl ?_
  refine w1 vi111_12 rfl rfl ?_
  refine w14c (v := .ref (vw_rr 0 i)) vi111_13 (by first | omega | exact ve_ix_le _ | exact vk_lat_le _ _ _ _ | assumption) rfl ?_
  refine r_size (l := (σ.1 0 i)) vi111_16 ⟨by decide, (show i < 6 by omega)⟩ (by first | rfl | (dsimp only; repeat (first | rw [vw_sr_eq] | rw [vw_sr_ne _ _ (by omega)]))) rfl ?_
  refine w2 (-1) vi111_19 (by decide) ?_
  refine c_read (kk := 0) (ii := i) (n := (σ.1 0 i).length) (tb := -1) vi111_20 (show 1 < 2 by decide) n0 n1 ⟨by decide, (show i < 6 by omega)⟩ (by decide) hn (by omega) (by omega) rfl (fun σ1 g1 => ?_)
  refine w1 vi111_23 rfl rfl ?_
  refine w14m (v := .ref (vw_vr 1)) vi111_24  rfl ?_
  refine w44 vi111_27 vm111.2.2.2 (by first | exact ⟨by omega, by omega⟩ | exact vw_tb_lt (vw_deed (by first | omega | assumption | exact ve_ix_le _)) (by omega) | exact vw_tb_lt (vw_copy (by first | assumption | omega)) (by omega) | exact vw_tb_lt (vw_view (by first | assumption | omega)) (by omega) | exact vw_row_ref (by first | assumption | exact ⟨by decide, by decide⟩ | exact ⟨by decide, by assumption⟩)) ?_
  exact hQ σ1 g1
theorem c_seeAsWell (hc : vt_code k pc = (27, 111, b, c)) {i : Nat} (hi : i < 6) (n0 : 0 ≤ σ.2 1 0) (n1 : σ.2 1 0 ≤ 120) (hs : Nat.ble (vj_cat sc) 8 = true) (hQ : ∀ σ', vq_rd σ 1 (σ.1 0 i) (σ.1 0 i).length (-1) σ' → vW vw_rep L xs (k, pc + 3, lc, .ref (vw_vr 1) :: sc) σ' Q) : vW vw_rep L xs (k, pc, lc, .ref (vw_cr i) :: .ref 8 :: sc) σ Q := by
  refine w27 (n := 2) (vs := [.ref (vw_cr i), .ref 8]) hc vm111.2.1 rfl (by rw [vm111.2.2.1]; rfl) hs (by simp only [List.length_cons]; omega) ⟨_, rfl⟩ (fun M hM => hM.2.2.2.2.2.1) ⟨by omega, by omega⟩ vm111.1 ?_
  rw [vm111.2.2.1]
  exact m_seeAsWell hi n0 n1 (Q := fun v σ1 => vW vw_rep L xs (k, pc + 3, lc, v ++ sc) σ1 Q) hQ
theorem m_seeVersion {i : Nat} (hi : i < 6) (n0 : 0 ≤ σ.2 1 0) (n1 : σ.2 1 0 ≤ 120) {n : Nat} (hn1 : n ≤ (σ.1 0 i).length) (hQ : ∀ σ', vq_rd σ 0 (σ.1 0 i) n (-1) σ' → Q [.ref (vw_vr 0)] σ') : vW vw_rep L xs (112, 0, [some (.ref 8), some (.ref (vw_cr i)), some (.int (jI ((n : Int))))], []) σ Q := by
  refine vW_len (kk := 0) (i := i) ⟨by decide, hi⟩ (fun hl => ?_)
  have hl : (σ.1 0 i).length ≤ 120 := hl
  have hn : n ≤ 120 := by omega
  refine w0 vi112_0 rfl rfl ?_
  refine w7 vi112_1 (vwz_2 ⟨by omega, by omega⟩) (fun hh1 => by exfalso; omega) (fun hh1 => ?_)
  refine w0 vi112_4 rfl rfl ?_
  refine w1 vi112_5 rfl rfl ?_
  refine w14c (v := .ref (vw_rr 0 i)) vi112_6 (by first | omega | exact ve_ix_le _ | exact vk_lat_le _ _ _ _ | assumption) rfl ?_
  refine r_size (l := (σ.1 0 i)) vi112_9 ⟨by decide, (show i < 6 by omega)⟩ (by first | rfl | (dsimp only; repeat (first | rw [vw_sr_eq] | rw [vw_sr_ne _ _ (by omega)]))) rfl ?_
  refine w8 vi112_12 (vwc_5 ⟨by omega, by omega⟩ ⟨by omega, by omega⟩) (fun h12 => ?_) (fun h12 => by exfalso; omega)
  refine w1 vi112_26 rfl rfl ?_
  refine w14m (v := .ref (vw_vr 0)) vi112_27  rfl ?_
  refine w1 vi112_30 rfl rfl ?_
  refine w14m (v := .ref 9) vi112_31  rfl ?_
  refine w1 vi112_34 rfl rfl ?_
  refine w14c (v := .ref (vw_rr 0 i)) vi112_35 (by first | omega | exact ve_ix_le _ | exact vk_lat_le _ _ _ _ | assumption) rfl ?_
  refine w0 vi112_38 rfl rfl ?_
  refine w2 (-1) vi112_39 (by decide) ?_
  refine c_read (kk := 0) (ii := i) (n := n) (tb := -1) vi112_40 (show 0 < 2 by decide) n0 n1 ⟨by decide, (show i < 6 by omega)⟩ (by decide) hn (by omega) (by omega) rfl (fun σ1 g1 => ?_)
  refine w1 vi112_43 rfl rfl ?_
  refine w14m (v := .ref (vw_vr 0)) vi112_44  rfl ?_
  refine w44 vi112_47 vm112.2.2.2 (by first | exact ⟨by omega, by omega⟩ | exact vw_tb_lt (vw_deed (by first | omega | assumption | exact ve_ix_le _)) (by omega) | exact vw_tb_lt (vw_copy (by first | assumption | omega)) (by omega) | exact vw_tb_lt (vw_view (by first | assumption | omega)) (by omega) | exact vw_row_ref (by first | assumption | exact ⟨by decide, by decide⟩ | exact ⟨by decide, by assumption⟩)) ?_
  exact hQ σ1 g1
theorem c_seeVersion (hc : vt_code k pc = (27, 112, b, c)) {i : Nat} (hi : i < 6) (n0 : 0 ≤ σ.2 1 0) (n1 : σ.2 1 0 ≤ 120) {n : Nat} (hn1 : n ≤ (σ.1 0 i).length) (hs : Nat.ble (vj_cat sc) 8 = true) (hQ : ∀ σ', vq_rd σ 0 (σ.1 0 i) n (-1) σ' → vW vw_rep L xs (k, pc + 3, lc, .ref (vw_vr 0) :: sc) σ' Q) : vW vw_rep L xs (k, pc, lc, .int (jI ((n : Int))) :: .ref (vw_cr i) :: .ref 8 :: sc) σ Q := by
  refine w27 (n := 3) (vs := [.int (jI ((n : Int))), .ref (vw_cr i), .ref 8]) hc vm112.2.1 rfl (by rw [vm112.2.2.1]; rfl) hs (by simp only [List.length_cons]; omega) ⟨_, rfl⟩ (fun M hM => hM.2.2.2.2.2.1) ⟨by omega, by omega⟩ vm112.1 ?_
  rw [vm112.2.2.1]
  exact m_seeVersion hi n0 n1 hn1 (Q := fun v σ1 => vW vw_rep L xs (k, pc + 3, lc, v ++ sc) σ1 Q) hQ
def vp_cnt (V : Nat → Nat → Int) (n : Nat) : Int := vf (fun i s => if V 2 i = 1 then s + 1 else s) n 0
theorem vp_cnt_in (V : Nat → Nat → Int) (n : Nat) : 0 ≤ vp_cnt V n ∧ vp_cnt V n ≤ n := by
  induction n with
  | zero => exact ⟨Int.le_refl _, Int.le_refl _⟩
  | succ n ih =>
    show 0 ≤ (if V 2 n = 1 then vp_cnt V n + 1 else vp_cnt V n) ∧ (if V 2 n = 1 then vp_cnt V n + 1 else vp_cnt V n) ≤ ((n + 1 : Nat) : Int)
    split <;> omega
theorem m_cp_loop (hQ : Q [.int (jI (vp_cnt σ.2 6))] σ) : ∀ (e j : Nat) (u : Option Value), j + e = 6 → vW vw_rep L xs (109, 13, [some (.ref 8), some (.int (jI (vp_cnt σ.2 j))), some (.ref 622), some (.int (jI (6))), some (.int (jI ((j : Int)))), u], []) σ Q := by
  intro e
  induction e with
  | zero =>
    intro j u hj
    refine w0 vi109_13 rfl rfl ?_
    refine w0 vi109_15 rfl rfl ?_
    refine w8 vi109_16 (vwc_3 ⟨by omega, by omega⟩ ⟨by omega, by omega⟩) (fun h16 => ?_) (fun h16 => by exfalso; omega)
    refine w0 vi109_47 rfl rfl ?_
    refine w42 vi109_48 vm109.2.2.2 ?_
    rw [show j = 6 by omega]
    exact hQ
  | succ e ih =>
    intro j u hj
    refine w0 vi109_13 rfl rfl ?_
    refine w0 vi109_15 rfl rfl ?_
    refine w8 vi109_16 (vwc_3 ⟨by omega, by omega⟩ ⟨by omega, by omega⟩) (fun h16 => by exfalso; omega) (fun h16 => ?_)
    refine w1 vi109_19 rfl rfl ?_
    refine w0 vi109_20 rfl rfl ?_
    refine w20cop vi109_22 (by omega) (by omega) ?_
    rw [Int.toNat_natCast]
    refine w4 vi109_23 rfl rfl ?_
    refine w1 vi109_25 rfl rfl ?_
    refine w60 vi109_27 ?_
    refine w1 vi109_30 rfl rfl ?_
    refine w14c (v := .int (jI ((σ.2 2 j)))) vi109_32 (by first | omega | exact ve_ix_le _ | exact vk_lat_le _ _ _ _ | assumption) rfl ?_
    refine vW_nR (V := σ.2) rfl 2 (j) (fun _ _ => ?_)
    refine vW_thR (V := σ.2) rfl (j) (fun hth => ?_)
    refine w7 vi109_35 (vwz_0 ⟨by omega, by omega⟩) (fun h35 => ?_) (fun h35 => ?_)
    ·
      refine w6 (1) vi109_41 rfl (by decide) rfl ?_
      refine w5 vi109_44 ?_
      have q := ih (j + 1) (some (.ref (vw_cr j))) (by omega)
      have e1 : vp_cnt σ.2 (j + 1) = if σ.2 2 j = 1 then vp_cnt σ.2 j + 1 else vp_cnt σ.2 j := rfl
      rw [e1] at q
      first
        | (rw [if_pos (by omega)] at q; exact q)
        | (rw [if_neg (by omega)] at q; exact q)
    ·
      refine w6 (1) vi109_38 rfl (by decide) rfl ?_
      refine w6 (1) vi109_41 rfl (by decide) rfl ?_
      refine w5 vi109_44 ?_
      have q := ih (j + 1) (some (.ref (vw_cr j))) (by omega)
      have e1 : vp_cnt σ.2 (j + 1) = if σ.2 2 j = 1 then vp_cnt σ.2 j + 1 else vp_cnt σ.2 j := rfl
      rw [e1] at q
      first
        | (rw [if_pos (by omega)] at q; exact q)
        | (rw [if_neg (by omega)] at q; exact q)
theorem m_countPresent  (hQ :  Q [.int (jI (vp_cnt σ.2 6))] σ) : vW vw_rep L xs (109, 0, [some (.ref 8), none, none, none, none, none], []) σ Q := by
  refine w2 (0) vi109_0 (by decide) ?_
  refine w3 vi109_1 rfl rfl ?_
  refine w1 vi109_2 rfl rfl ?_
  refine w14m (v := .ref 622) vi109_3  rfl ?_
  refine w4 vi109_6 rfl rfl ?_
  refine w1 vi109_7 rfl rfl ?_
  refine w26cop vi109_8 ?_
  refine w3 vi109_9 rfl rfl ?_
  refine w2 (0) vi109_10 (by decide) ?_
  refine w3 vi109_11 rfl rfl ?_
  exact m_cp_loop hQ 6 0 _ rfl
theorem c_countPresent (hc : vt_code k pc = (27, 109, b, c))  (hs : Nat.ble (vj_cat sc) 8 = true) (hQ :  vW vw_rep L xs (k, pc + 3, lc, .int (jI (vp_cnt σ.2 6)) :: sc) σ Q) : vW vw_rep L xs (k, pc, lc, .ref 8 :: sc) σ Q := by
  refine w27 (n := 1) (vs := [.ref 8]) hc vm109.2.1 rfl (by rw [vm109.2.2.1]; rfl) hs (by simp only [List.length_cons]; omega) ⟨_, rfl⟩ (fun M hM => hM.2.2.2.2.2.1) ⟨by omega, by omega⟩ vm109.1 ?_
  rw [vm109.2.2.1]
  exact m_countPresent  (Q := fun v σ1 => vW vw_rep L xs (k, pc + 3, lc, v ++ sc) σ1 Q) hQ
theorem r_addNew {k2 i2 : Nat} (hc : vt_code k pc = (27, 35, b, c)) (hk : vw_ok kk i) (hk2 : vw_ok k2 i2) (hne : ¬ (k2 = kk ∧ i2 = i)) (hr : σ.1 kk i = l) (hr2 : σ.1 k2 i2 = l2) (he : (vw_sr σ.1 kk i (vl_new (vw_cap kk) l l2), σ.2) = σ2) (hs : Nat.ble (vj_cat sc) 8 = true) (t : vW vw_rep L xs (k, pc + 3, lc, sc) σ2 Q) : vW vw_rep L xs (k, pc, lc, .ref (vw_rr k2 i2) :: .ref (vw_rr kk i) :: sc) σ Q := by
  subst hr; subst hr2; subst he; exact c_addNew hc hk hk2 hne hs t
def vq_un (R0 : Nat → List Int) (V : Nat → Nat → Int) (n : Nat) : List Int := vf (fun i u => if V 2 i = 1 then vl_new 120 u (R0 i) else u) n []
/-- how long the text of all deeds would be -/
def vy_all (σ : vw_S) : Int := ((vq_vw σ (vq_un (σ.1 0) σ.2 6) (vq_un (σ.1 0) σ.2 6).length (-1) 16).length : Int)
theorem m_la_loop (n0 : 0 ≤ σ.2 1 0) (n1 : σ.2 1 0 ≤ 120) (hQ : ∀ σ', vw_same σ σ' → (∀ k', 15 ≤ k' → k' ≤ 21 → σ'.1 k' 0 = σ.1 k' 0) → Q [.int (jI (vy_all σ))] σ') : ∀ (e j : Nat) (u : Option Value), j + e = 6 → vW vw_rep L xs (113, 17, [some (.ref 8), some (.ref 622), some (.int (jI (6))), some (.int (jI ((j : Int)))), u], []) ((vw_sr σ.1 10 0 (vq_un (σ.1 0) σ.2 j)), σ.2) Q := by
  intro e
  induction e with
  | zero =>
    intro j u hj
    refine w0 vi113_17 rfl rfl ?_
    refine w0 vi113_18 rfl rfl ?_
    refine w8 vi113_19 (vwc_3 ⟨by omega, by omega⟩ ⟨by omega, by omega⟩) (fun h19 => ?_) (fun h19 => by exfalso; omega)
    refine w1 vi113_58 rfl rfl ?_
    refine w14m (v := .ref (vw_vr 1)) vi113_59  rfl ?_
    refine w1 vi113_62 rfl rfl ?_
    refine w14m (v := .ref 9) vi113_63  rfl ?_
    refine w1 vi113_66 rfl rfl ?_
    refine w14m (v := .ref (vw_rr 10 0)) vi113_67  rfl ?_
    refine w1 vi113_70 rfl rfl ?_
    refine w14m (v := .ref (vw_rr 10 0)) vi113_71  rfl ?_
    refine r_size (l := (vq_un (σ.1 0) σ.2 j)) vi113_74 ⟨by decide, (show 0 < 1 by omega)⟩ (by first | rfl | (dsimp only; repeat (first | rw [vw_sr_eq] | rw [vw_sr_ne _ _ (by omega)]))) rfl ?_
    refine w2 (-1) vi113_77 (by decide) ?_
    rw [show j = 6 by omega]
    refine vW_lenR (l := (vq_un (σ.1 0) σ.2 6)) (kk := 10) (i := 0) ⟨by decide, by decide⟩ (by first | rfl | (dsimp only; repeat (first | rw [vw_sr_eq] | rw [vw_sr_ne _ _ (by omega)]))) (fun hn => ?_)
    have hn : (vq_un (σ.1 0) σ.2 6).length ≤ 120 := hn
    have g0 : vw_same σ ((vw_sr σ.1 10 0 (vq_un (σ.1 0) σ.2 6)), σ.2) := ⟨rfl, fun k' i' q' => by dsimp only; rw [vw_sr_ne _ _ (by unfold vw_sc at q'; omega)]⟩
    refine c_read (σ := ((vw_sr σ.1 10 0 (vq_un (σ.1 0) σ.2 6)), σ.2)) (kk := 10) (ii := 0) (n := (vq_un (σ.1 0) σ.2 6).length) (tb := -1) vi113_78 (show 1 < 2 by decide) n0 n1 ⟨by decide, by decide⟩ (by decide) hn (by omega) (by omega) rfl (fun σ1 g1 => ?_)
    have g2 : σ1.1 16 1 = vq_vw σ (vq_un (σ.1 0) σ.2 6) (vq_un (σ.1 0) σ.2 6).length (-1) 16 := by
      have q2 := g1.2.2 16 (by decide) (by decide)
      rw [vq_vw_same g0] at q2
      dsimp only at q2
      rw [vw_sr_eq] at q2
      exact q2
    have g3 : vw_same σ σ1 := g0.trans g1.same
    have g4 : ∀ k', 15 ≤ k' → k' ≤ 21 → σ1.1 k' 0 = σ.1 k' 0 := fun k' q0 q1 => by
      rw [g1.2.1 k' 0 (by omega)]
      dsimp only
      rw [vw_sr_ne _ _ (by omega)]
    refine w1 vi113_81 rfl rfl ?_
    refine w14m (v := .ref (vw_vr 1)) vi113_82  rfl ?_
    refine w14v (v := .ref (vw_rr 16 1)) vi113_85 (by first | omega | exact ve_ix_le _ | exact vk_lat_le _ _ _ _ | assumption) rfl ?_
    refine r_size (l := (σ1.1 16 1)) vi113_88 ⟨by decide, (show 1 < 2 by omega)⟩ (by first | rfl | (dsimp only; repeat (first | rw [vw_sr_eq] | rw [vw_sr_ne _ _ (by omega)]))) rfl ?_
    refine w42 vi113_91 vm113.2.2.2 ?_
    rw [g2]
    exact hQ σ1 g3 g4
  | succ e ih =>
    intro j u hj
    refine w0 vi113_17 rfl rfl ?_
    refine w0 vi113_18 rfl rfl ?_
    refine w8 vi113_19 (vwc_3 ⟨by omega, by omega⟩ ⟨by omega, by omega⟩) (fun h19 => by exfalso; omega) (fun h19 => ?_)
    refine w1 vi113_22 rfl rfl ?_
    refine w0 vi113_23 rfl rfl ?_
    refine w20cop vi113_24 (by omega) (by omega) ?_
    rw [Int.toNat_natCast]
    refine w4 vi113_25 rfl rfl ?_
    refine w1 vi113_27 rfl rfl ?_
    refine w60 vi113_29 ?_
    refine w1 vi113_32 rfl rfl ?_
    refine w14c (v := .int (jI ((σ.2 2 j)))) vi113_34 (by first | omega | exact ve_ix_le _ | exact vk_lat_le _ _ _ _ | assumption) rfl ?_
    refine vW_nR (V := σ.2) rfl 2 (j) (fun _ _ => ?_)
    refine vW_thR (V := σ.2) rfl (j) (fun hth => ?_)
    refine w7 vi113_37 (vwz_0 ⟨by omega, by omega⟩) (fun h37 => ?_) (fun h37 => ?_)
    ·
      refine w6 (1) vi113_52 rfl (by decide) rfl ?_
      refine w5 vi113_55 ?_
      have q := ih (j + 1) (some (.ref (vw_cr j))) (by omega)
      have e1 : vq_un (σ.1 0) σ.2 (j + 1) = if σ.2 2 j = 1 then vl_new 120 (vq_un (σ.1 0) σ.2 j) (σ.1 0 j) else vq_un (σ.1 0) σ.2 j := rfl
      rw [e1] at q
      first
        | (rw [if_pos (by omega)] at q; exact q)
        | (rw [if_neg (by omega)] at q; exact q)
    ·
      refine w1 vi113_40 rfl rfl ?_
      refine w14m (v := .ref (vw_rr 10 0)) vi113_41  rfl ?_
      refine w1 vi113_44 rfl rfl ?_
      refine w14c (v := .ref (vw_rr 0 j)) vi113_46 (by first | omega | exact ve_ix_le _ | exact vk_lat_le _ _ _ _ | assumption) rfl ?_
      refine r_addNew (l := (vq_un (σ.1 0) σ.2 j)) (l2 := σ.1 0 j) (σ2 := ((vw_sr σ.1 10 0 (vl_new 120 (vq_un (σ.1 0) σ.2 j) (σ.1 0 j))), σ.2)) vi113_49 ⟨by decide, by decide⟩ ⟨by decide, (show j < 6 by omega)⟩ (by omega) (by first | rfl | (dsimp only; repeat (first | rw [vw_sr_eq] | rw [vw_sr_ne _ _ (by omega)]))) (by first | rfl | (dsimp only; repeat (first | rw [vw_sr_eq] | rw [vw_sr_ne _ _ (by omega)]))) (by dsimp only; rw [vw_sr_sr]; try rfl) rfl ?_
      refine w6 (1) vi113_52 rfl (by decide) rfl ?_
      refine w5 vi113_55 ?_
      have q := ih (j + 1) (some (.ref (vw_cr j))) (by omega)
      have e1 : vq_un (σ.1 0) σ.2 (j + 1) = if σ.2 2 j = 1 then vl_new 120 (vq_un (σ.1 0) σ.2 j) (σ.1 0 j) else vq_un (σ.1 0) σ.2 j := rfl
      rw [e1] at q
      first
        | (rw [if_pos (by omega)] at q; exact q)
        | (rw [if_neg (by omega)] at q; exact q)
theorem m_countAll (n0 : 0 ≤ σ.2 1 0) (n1 : σ.2 1 0 ≤ 120) (hQ : ∀ σ', vw_same σ σ' → (∀ k', 15 ≤ k' → k' ≤ 21 → σ'.1 k' 0 = σ.1 k' 0) → Q [.int (jI (vy_all σ))] σ') : vW vw_rep L xs (113, 0, [some (.ref 8), none, none, none, none], []) σ Q := by
  refine w1 vi113_0 rfl rfl ?_
  refine w14m (v := .ref (vw_rr 10 0)) vi113_1  rfl ?_
  refine r_clear (l := (σ.1 10 0)) (σ2 := ((vw_sr σ.1 10 0 (([] : List Int))), σ.2)) vi113_4 ⟨by decide, (show 0 < 1 by omega)⟩ (by first | rfl | (dsimp only; repeat (first | rw [vw_sr_eq] | rw [vw_sr_ne _ _ (by omega)]))) rfl rfl ?_
  refine w1 vi113_7 rfl rfl ?_
  refine w14m (v := .ref 622) vi113_8  rfl ?_
  refine w4 vi113_11 rfl rfl ?_
  refine w1 vi113_12 rfl rfl ?_
  refine w26cop vi113_13 ?_
  refine w3 vi113_14 rfl rfl ?_
  refine w2 (0) vi113_15 (by decide) ?_
  refine w3 vi113_16 rfl rfl ?_
  exact m_la_loop n0 n1 hQ 6 0 _ rfl
theorem c_countAll (hc : vt_code k pc = (27, 113, b, c)) (n0 : 0 ≤ σ.2 1 0) (n1 : σ.2 1 0 ≤ 120) (hs : Nat.ble (vj_cat sc) 8 = true) (hQ : ∀ σ', vw_same σ σ' → (∀ k', 15 ≤ k' → k' ≤ 21 → σ'.1 k' 0 = σ.1 k' 0) → vW vw_rep L xs (k, pc + 3, lc, .int (jI (vy_all σ)) :: sc) σ' Q) : vW vw_rep L xs (k, pc, lc, .ref 8 :: sc) σ Q := by
  refine w27 (n := 1) (vs := [.ref 8]) hc vm113.2.1 rfl (by rw [vm113.2.2.1]; rfl) hs (by simp only [List.length_cons]; omega) ⟨_, rfl⟩ (fun M hM => hM.2.2.2.2.2.1) ⟨by omega, by omega⟩ vm113.1 ?_
  rw [vm113.2.2.1]
  exact m_countAll n0 n1 (Q := fun v σ1 => vW vw_rep L xs (k, pc + 3, lc, v ++ sc) σ1 Q) hQ
end VW13
