/-! ===== flaws; how far two texts are apart ===== -/
section VW21
variable {L : Nat} {xs : Nat → Int32} {σ σ2 : vw_S} {Q : List Value → vw_S → Prop} {k pc a b c kk i : Nat} {lc : List (Option Value)} {sc : List Value} {fr : vj_F} {l l2 r12 r13 sh cs tx tx2 d2 he od : List Int} {V : Nat → Nat → Int} {z y : Int}
theorem m_cf_loop (hC : vC (σ.2 1 0) (σ.1 12 0) (σ.1 13 0) (σ.1 14 0)) (hQ : Q [.int (jI 0)] σ) : ∀ (e j : Nat), j + e = (σ.1 12 0).length → vW vw_rep L xs (8, 4, [some (.ref 9), some (.int (jI (0))), some (.int (jI ((j : Int))))], []) σ Q := by
  intro e
  induction e with
  | zero =>
    intro j hj
    have hlen := hC.2.1
    refine vW_len (kk := 12) (i := 0) ⟨by decide, by decide⟩ (fun hl => ?_)
    have hl : (σ.1 12 0).length ≤ 720 := hl
    have hpl := vl_pl_cases (σ.1 14 0) (j : Int)
    have hin := hC.2.2.2.2.2.2 (j : Int) (by omega)
    refine w0 vi8_4 rfl rfl ?_
    refine w1 vi8_5 rfl rfl ?_
    refine c_countCellsR (l := (σ.1 12 0)) vi8_6 (by first | rfl | (dsimp only; repeat (first | rw [vw_sr_eq] | rw [vw_sr_ne _ _ (by omega)]))) rfl ?_
    refine w8 vi8_9 (vwc_3 ⟨by omega, by omega⟩ ⟨by omega, by omega⟩) (fun h9 => ?_) (fun h9 => by exfalso; omega)
    refine w1 vi8_33 rfl rfl ?_
    refine w14h (v := .ref (vw_rr 14 0)) vi8_34  rfl ?_
    refine r_size (l := (σ.1 14 0)) vi8_37 ⟨by decide, (show 0 < 1 by omega)⟩ (by first | rfl | (dsimp only; repeat (first | rw [vw_sr_eq] | rw [vw_sr_ne _ _ (by omega)]))) rfl ?_
    refine w1 vi8_40 rfl rfl ?_
    refine c_countCellsR (l := (σ.1 12 0)) vi8_41 (by first | rfl | (dsimp only; repeat (first | rw [vw_sr_eq] | rw [vw_sr_ne _ _ (by omega)]))) rfl ?_
    refine w8 vi8_44 (vwc_1 ⟨by omega, by omega⟩ ⟨by omega, by omega⟩) (fun h44 => by exfalso; omega) (fun h44 => ?_)
    refine w0 vi8_47 rfl rfl ?_
    refine w5 vi8_48 ?_
    refine w42 vi8_54 vm8.2.2.2 ?_
    exact hQ
  | succ e ih =>
    intro j hj
    refine vW_len (kk := 12) (i := 0) ⟨by decide, by decide⟩ (fun hl => ?_)
    have hl : (σ.1 12 0).length ≤ 720 := hl
    have hpl := vl_pl_cases (σ.1 14 0) (j : Int)
    have hin := hC.2.2.2.2.2.2 (j : Int) (by omega)
    refine w0 vi8_4 rfl rfl ?_
    refine w1 vi8_5 rfl rfl ?_
    refine c_countCellsR (l := (σ.1 12 0)) vi8_6 (by first | rfl | (dsimp only; repeat (first | rw [vw_sr_eq] | rw [vw_sr_ne _ _ (by omega)]))) rfl ?_
    refine w8 vi8_9 (vwc_3 ⟨by omega, by omega⟩ ⟨by omega, by omega⟩) (fun h9 => by exfalso; omega) (fun h9 => ?_)
    refine w1 vi8_12 rfl rfl ?_
    refine w14h (v := .ref (vw_rr 14 0)) vi8_13  rfl ?_
    refine w0 vi8_16 rfl rfl ?_
    refine r_placeOf (l := (σ.1 14 0)) vi8_17 ⟨by decide, (show 0 < 1 by omega)⟩ (by first | rfl | (dsimp only; repeat (first | rw [vw_sr_eq] | rw [vw_sr_ne _ _ (by omega)]))) (by first | omega | exact ve_ix_le _ | exact vk_lat_le _ _ _ _ | assumption) (by first | omega | exact ve_ix_le _ | exact vk_lat_le _ _ _ _ | assumption) rfl (fun _ _ => ?_)
    refine w2 (-1) vi8_20 (by decide) ?_
    refine w8 vi8_21 (vwc_1 ⟨by omega, by omega⟩ ⟨by omega, by omega⟩) (fun h21 => ?_) (fun h21 => ?_)
    ·
      refine w6 (1) vi8_27 rfl (by decide) rfl ?_
      refine w5 vi8_30 ?_
      exact ih (j + 1) (by omega)
    ·
      refine w6 (1) vi8_24 rfl (by decide) rfl ?_
      refine w6 (1) vi8_27 rfl (by decide) rfl ?_
      refine w5 vi8_30 ?_
      exfalso
      rcases hpl with g | g
      · exact g.2 (hin (by omega))
      · omega
theorem m_chronFlaws (hC : vC (σ.2 1 0) (σ.1 12 0) (σ.1 13 0) (σ.1 14 0)) (hQ :  Q [.int (jI (0))] σ) : vW vw_rep L xs (8, 0, [some (.ref 9), none, none], []) σ Q := by
  refine w2 (0) vi8_0 (by decide) ?_
  refine w3 vi8_1 rfl rfl ?_
  refine w2 (0) vi8_2 (by decide) ?_
  refine w3 vi8_3 rfl rfl ?_
  exact m_cf_loop hC hQ _ 0 (Nat.zero_add _)
theorem c_chronFlaws (hc : vt_code k pc = (27, 8, b, c)) (hC : vC (σ.2 1 0) (σ.1 12 0) (σ.1 13 0) (σ.1 14 0)) (hs : Nat.ble (vj_cat sc) 8 = true) (hQ :  vW vw_rep L xs (k, pc + 3, lc, .int (jI (0)) :: sc) σ Q) : vW vw_rep L xs (k, pc, lc, .ref 9 :: sc) σ Q := by
  refine w27 (n := 1) (vs := [.ref 9]) hc vm8.2.1 rfl (by rw [vm8.2.2.1]; rfl) hs (by simp only [List.length_cons]; omega) ⟨_, rfl⟩ (fun M hM => hM.2.2.2.2.2.2.1) ⟨by omega, by omega⟩ vm8.1 ?_
  rw [vm8.2.2.1]
  exact m_chronFlaws hC (Q := fun v σ1 => vW vw_rep L xs (k, pc + 3, lc, v ++ sc) σ1 Q) hQ
theorem m_kf2_loop {i : Nat} (hi : i < 6) (hK : vKs σ) (hR : vRds σ i) (hD : (σ.1 3 i).length + (σ.1 4 i).length ≤ 8) (hQ : Q [.int (jI 0)] σ) : ∀ (e j : Nat) (u : Option Value), j + e = (σ.1 2 i).length → vW vw_rep L xs (22, 69, [some (.ref (vw_cr i)), some (.ref 9), some (.int (jI (0))), some (.int (jI (vk_sum (σ.1 1 i) 6))), some (.int (jI ((j : Int)))), u], []) σ Q := by
  intro e
  induction e with
  | zero =>
    intro j u hj
    refine vW_len (kk := 2) (i := i) ⟨by decide, hi⟩ (fun hl => ?_)
    have hl : (σ.1 2 i).length ≤ 120 := hl
    refine w0 vi22_69 rfl rfl ?_
    refine w1 vi22_71 rfl rfl ?_
    refine w14c (v := .ref (vw_rr 2 i)) vi22_72 (by first | omega | exact ve_ix_le _ | exact vk_lat_le _ _ _ _ | assumption) rfl ?_
    refine r_size (l := (σ.1 2 i)) vi22_75 ⟨by decide, (show i < 6 by omega)⟩ (by first | rfl | (dsimp only; repeat (first | rw [vw_sr_eq] | rw [vw_sr_ne _ _ (by omega)]))) rfl ?_
    refine w8 vi22_78 (vwc_3 ⟨by omega, by omega⟩ ⟨by omega, by omega⟩) (fun h78 => ?_) (fun h78 => by exfalso; omega)
    refine w0 vi22_123 rfl rfl ?_
    refine w42 vi22_124 vm22.2.2.2 ?_
    exact hQ
  | succ e ih =>
    intro j u hj
    refine vW_len (kk := 2) (i := i) ⟨by decide, hi⟩ (fun hl => ?_)
    have hl : (σ.1 2 i).length ≤ 120 := hl
    refine w0 vi22_69 rfl rfl ?_
    refine w1 vi22_71 rfl rfl ?_
    refine w14c (v := .ref (vw_rr 2 i)) vi22_72 (by first | omega | exact ve_ix_le _ | exact vk_lat_le _ _ _ _ | assumption) rfl ?_
    refine r_size (l := (σ.1 2 i)) vi22_75 ⟨by decide, (show i < 6 by omega)⟩ (by first | rfl | (dsimp only; repeat (first | rw [vw_sr_eq] | rw [vw_sr_ne _ _ (by omega)]))) rfl ?_
    refine w8 vi22_78 (vwc_3 ⟨by omega, by omega⟩ ⟨by omega, by omega⟩) (fun h78 => by exfalso; omega) (fun h78 => ?_)
    refine w1 vi22_81 rfl rfl ?_
    refine w1 vi22_82 rfl rfl ?_
    refine w14c (v := .ref (vw_rr 2 i)) vi22_83 (by first | omega | exact ve_ix_le _ | exact vk_lat_le _ _ _ _ | assumption) rfl ?_
    refine w0 vi22_86 rfl rfl ?_
    refine r_at (l := (σ.1 2 i)) vi22_88 ⟨by decide, (show i < 6 by omega)⟩ (by first | rfl | (dsimp only; repeat (first | rw [vw_sr_eq] | rw [vw_sr_ne _ _ (by omega)]))) (by first | omega | exact ve_ix_le _ | exact vk_lat_le _ _ _ _ | assumption) (by first | omega | exact ve_ix_le _ | exact vk_lat_le _ _ _ _ | assumption) rfl (fun _ _ => ?_)
    have hx := vl_at_mem (l := σ.1 2 i) (z := (j : Int)) (by omega) (by omega)
    obtain ⟨x0, x1⟩ := (hK.2.2.2.2.2.2.2 i hi).2 _ hx
    have x2 := hR _ hx
    have hn0 := hK.1
    refine c_deedAt vi22_91 (by omega) (by omega) rfl ?_
    rw [ve_ix_in (by omega) (by omega)]
    refine w4 vi22_94 rfl rfl ?_
    refine w1 vi22_96 rfl rfl ?_
    refine w1 vi22_97 rfl rfl ?_
    refine c_knows vi22_99 hi (by omega) rfl (fun hb => absurd hb x1) (fun hb => ?_)
    refine w7 vi22_102 (vwz_1 ⟨by omega, by omega⟩) (fun h102 => by exfalso; omega) (fun h102 => ?_)
    refine w1 vi22_105 rfl rfl ?_
    refine w1 vi22_106 rfl rfl ?_
    refine c_ahead vi22_108 hi (by omega) rfl (fun hb => absurd hb x2) (fun hb => ?_)
    refine w7 vi22_111 (vwz_0 ⟨by omega, by omega⟩) (fun h111 => ?_) (fun h111 => by exfalso; omega)
    refine w6 (1) vi22_117 rfl (by decide) rfl ?_
    refine w5 vi22_120 ?_
    exact ih (j + 1) _ (by omega)
theorem m_kf1_loop {i : Nat} (hi : i < 6) (hK : vKs σ) (hR : vRds σ i) (hD : (σ.1 3 i).length + (σ.1 4 i).length ≤ 8) (hQ : Q [.int (jI 0)] σ) : ∀ (e j : Nat), j + e = 6 → vW vw_rep L xs (22, 7, [some (.ref (vw_cr i)), some (.ref 9), some (.int (jI (0))), some (.int (jI (vk_sum (σ.1 1 i) j))), some (.int (jI ((j : Int)))), none], []) σ Q := by
  have hb := vK_he hK i hi
  have hsum := vk_sum_in hb 6 (Nat.le_refl _)
  have hlen := (hK.2.2.2.2.2.1 i hi).2.2.2.1
  intro e
  induction e with
  | zero =>
    intro j hj
    have ej : j = 6 := by omega
    subst ej
    refine vW_len (kk := 0) (i := i) ⟨by decide, hi⟩ (fun hl => ?_)
    have hl : (σ.1 0 i).length ≤ 120 := hl
    refine w0 vi22_7 rfl rfl ?_
    refine w2 (6) vi22_9 (by decide) ?_
    refine w8 vi22_11 (vwc_3 ⟨by omega, by omega⟩ ⟨by omega, by omega⟩) (fun h11 => ?_) (fun h11 => by exfalso; omega)
    refine w0 vi22_32 rfl rfl ?_
    refine w1 vi22_33 rfl rfl ?_
    refine w14c (v := .ref (vw_rr 0 i)) vi22_34 (by first | omega | exact ve_ix_le _ | exact vk_lat_le _ _ _ _ | assumption) rfl ?_
    refine r_size (l := (σ.1 0 i)) vi22_37 ⟨by decide, (show i < 6 by omega)⟩ (by first | rfl | (dsimp only; repeat (first | rw [vw_sr_eq] | rw [vw_sr_ne _ _ (by omega)]))) rfl ?_
    refine w8 vi22_40 (vwc_1 ⟨by omega, by omega⟩ ⟨by omega, by omega⟩) (fun h40 => by exfalso; omega) (fun h40 => ?_)
    refine w1 vi22_43 rfl rfl ?_
    refine w14c (v := .ref (vw_rr 3 i)) vi22_44 (by first | omega | exact ve_ix_le _ | exact vk_lat_le _ _ _ _ | assumption) rfl ?_
    refine r_size (l := (σ.1 3 i)) vi22_47 ⟨by decide, (show i < 6 by omega)⟩ (by first | rfl | (dsimp only; repeat (first | rw [vw_sr_eq] | rw [vw_sr_ne _ _ (by omega)]))) rfl ?_
    refine w1 vi22_50 rfl rfl ?_
    refine w14c (v := .ref (vw_rr 4 i)) vi22_51 (by first | omega | exact ve_ix_le _ | exact vk_lat_le _ _ _ _ | assumption) rfl ?_
    refine r_size (l := (σ.1 4 i)) vi22_54 ⟨by decide, (show i < 6 by omega)⟩ (by first | rfl | (dsimp only; repeat (first | rw [vw_sr_eq] | rw [vw_sr_ne _ _ (by omega)]))) rfl ?_
    refine w9 vi22_57 ?_
    refine w2 (8) vi22_58 (by decide) ?_
    refine w8 vi22_60 (vwc_5 ⟨by omega, by omega⟩ ⟨by omega, by omega⟩) (fun h60 => ?_) (fun h60 => by exfalso; omega)
    refine w2 (0) vi22_66 (by decide) ?_
    refine w3 vi22_67 rfl rfl ?_
    exact m_kf2_loop hi hK hR hD hQ _ 0 _ (Nat.zero_add _)
  | succ e ih =>
    intro j hj
    refine w0 vi22_7 rfl rfl ?_
    refine w2 (6) vi22_9 (by decide) ?_
    refine w8 vi22_11 (vwc_3 ⟨by omega, by omega⟩ ⟨by omega, by omega⟩) (fun h11 => by exfalso; omega) (fun h11 => ?_)
    refine w0 vi22_14 rfl rfl ?_
    refine w1 vi22_15 rfl rfl ?_
    refine w14c (v := .ref (vw_rr 1 i)) vi22_16 (by first | omega | exact ve_ix_le _ | exact vk_lat_le _ _ _ _ | assumption) rfl ?_
    refine w0 vi22_19 rfl rfl ?_
    refine r_at (l := (σ.1 1 i)) vi22_21 ⟨by decide, (show i < 6 by omega)⟩ (by first | rfl | (dsimp only; repeat (first | rw [vw_sr_eq] | rw [vw_sr_ne _ _ (by omega)]))) (by first | omega | exact ve_ix_le _ | exact vk_lat_le _ _ _ _ | assumption) (by first | omega | exact ve_ix_le _ | exact vk_lat_le _ _ _ _ | assumption) rfl (fun _ _ => ?_)
    refine w9 vi22_24 ?_
    refine w3 vi22_25 rfl rfl ?_
    refine w6 (1) vi22_26 rfl (by decide) rfl ?_
    refine w5 vi22_29 ?_
    exact ih (j + 1) (by omega)
theorem m_copyFlaws {i : Nat} (hi : i < 6) (hK : vKs σ) (hR : vRds σ i) (hD : (σ.1 3 i).length + (σ.1 4 i).length ≤ 8) (hQ :  Q [.int (jI (0))] σ) : vW vw_rep L xs (22, 0, [some (.ref (vw_cr i)), some (.ref 9), none, none, none, none], []) σ Q := by
  refine w2 (0) vi22_0 (by decide) ?_
  refine w3 vi22_1 rfl rfl ?_
  refine w2 (0) vi22_2 (by decide) ?_
  refine w3 vi22_3 rfl rfl ?_
  refine w2 (0) vi22_4 (by decide) ?_
  refine w3 vi22_5 rfl rfl ?_
  exact m_kf1_loop hi hK hR hD hQ 6 0 rfl
theorem c_copyFlaws (hc : vt_code k pc = (27, 22, b, c)) {i : Nat} (hi : i < 6) (hK : vKs σ) (hR : vRds σ i) (hD : (σ.1 3 i).length + (σ.1 4 i).length ≤ 8) (hs : Nat.ble (vj_cat sc) 8 = true) (hQ :  vW vw_rep L xs (k, pc + 3, lc, .int (jI (0)) :: sc) σ Q) : vW vw_rep L xs (k, pc, lc, .ref 9 :: .ref (vw_cr i) :: sc) σ Q := by
  refine w27 (n := 2) (vs := [.ref 9, .ref (vw_cr i)]) hc vm22.2.1 rfl (by rw [vm22.2.2.1]; rfl) hs (by simp only [List.length_cons]; omega) ⟨_, rfl⟩ (fun M hM => hM.2.2.2.1 _ hi) (vw_tb_lt (vw_copy hi) (by omega)) vm22.1 ?_
  rw [vm22.2.2.1]
  exact m_copyFlaws hi hK hR hD (Q := fun v σ1 => vW vw_rep L xs (k, pc + 3, lc, v ++ sc) σ1 Q) hQ
theorem m_fl_loop (hI : vI σ) (hQ : Q [.int (jI 0)] σ) : ∀ (e j : Nat) (u : Option Value), j + e = 6 → vW vw_rep L xs (89, 19, [some (.ref 8), some (.int (jI (0))), some (.ref 622), some (.int (jI (6))), some (.int (jI ((j : Int)))), u], []) σ Q := by
  intro e
  induction e with
  | zero =>
    intro j u hj
    refine w0 vi89_19 rfl rfl ?_
    refine w0 vi89_21 rfl rfl ?_
    refine w8 vi89_22 (vwc_3 ⟨by omega, by omega⟩ ⟨by omega, by omega⟩) (fun h22 => ?_) (fun h22 => by exfalso; omega)
    refine w0 vi89_62 rfl rfl ?_
    refine w42 vi89_63 vm89.2.2.2 ?_
    exact hQ
  | succ e ih =>
    intro j u hj
    refine w0 vi89_19 rfl rfl ?_
    refine w0 vi89_21 rfl rfl ?_
    refine w8 vi89_22 (vwc_3 ⟨by omega, by omega⟩ ⟨by omega, by omega⟩) (fun h22 => by exfalso; omega) (fun h22 => ?_)
    refine w1 vi89_25 rfl rfl ?_
    refine w0 vi89_26 rfl rfl ?_
    refine w20cop vi89_28 (by omega) (by omega) ?_
    rw [Int.toNat_natCast]
    refine w4 vi89_29 rfl rfl ?_
    refine w1 vi89_31 rfl rfl ?_
    refine w60 vi89_33 ?_
    refine w1 vi89_36 rfl rfl ?_
    refine w14c (v := .int (jI ((σ.2 2 j)))) vi89_38 (by first | omega | exact ve_ix_le _ | exact vk_lat_le _ _ _ _ | assumption) rfl ?_
    refine vW_nR (V := σ.2) rfl 2 (j) (fun _ _ => ?_)
    refine vW_thR (V := σ.2) rfl (j) (fun hth => ?_)
    refine w7 vi89_41 (vwz_0 ⟨by omega, by omega⟩) (fun h41 => ?_) (fun h41 => ?_)
    ·
      refine w6 (1) vi89_56 rfl (by decide) rfl ?_
      refine w5 vi89_59 ?_
      exact ih (j + 1) _ (by omega)
    ·
      refine w0 vi89_44 rfl rfl ?_
      refine w1 vi89_45 rfl rfl ?_
      refine w1 vi89_47 rfl rfl ?_
      refine w14m (v := .ref 9) vi89_48  rfl ?_
      refine c_copyFlaws vi89_51 (by omega) hI.1.1 (hI.1.2.1 j (by omega)) (hI.2.2 j (by omega)) rfl ?_
      refine w9 vi89_54 ?_
      refine w3 vi89_55 rfl rfl ?_
      refine w6 (1) vi89_56 rfl (by decide) rfl ?_
      refine w5 vi89_59 ?_
      exact ih (j + 1) _ (by omega)
theorem m_flaws (hI : vI σ) (hQ :  Q [.int (jI (0))] σ) : vW vw_rep L xs (89, 0, [some (.ref 8), none, none, none, none, none], []) σ Q := by
  refine w1 vi89_0 rfl rfl ?_
  refine w14m (v := .ref 9) vi89_1  rfl ?_
  refine c_chronFlaws vi89_4 hI.2.1 rfl ?_
  refine w3 vi89_7 rfl rfl ?_
  refine w1 vi89_8 rfl rfl ?_
  refine w14m (v := .ref 622) vi89_9  rfl ?_
  refine w4 vi89_12 rfl rfl ?_
  refine w1 vi89_13 rfl rfl ?_
  refine w26cop vi89_14 ?_
  refine w3 vi89_15 rfl rfl ?_
  refine w2 (0) vi89_16 (by decide) ?_
  refine w3 vi89_17 rfl rfl ?_
  exact m_fl_loop hI hQ 6 0 _ rfl
theorem c_flaws (hc : vt_code k pc = (27, 89, b, c)) (hI : vI σ) (hs : Nat.ble (vj_cat sc) 8 = true) (hQ :  vW vw_rep L xs (k, pc + 3, lc, .int (jI (0)) :: sc) σ Q) : vW vw_rep L xs (k, pc, lc, .ref 8 :: sc) σ Q := by
  refine w27 (n := 1) (vs := [.ref 8]) hc vm89.2.1 rfl (by rw [vm89.2.2.1]; rfl) hs (by simp only [List.length_cons]; omega) ⟨_, rfl⟩ (fun M hM => hM.2.2.2.2.2.1) ⟨by omega, by omega⟩ vm89.1 ?_
  rw [vm89.2.2.1]
  exact m_flaws hI (Q := fun v σ1 => vW vw_rep L xs (k, pc + 3, lc, v ++ sc) σ1 Q) hQ
def vs_C (n : Nat) (r m : Int) (dg : Int) (S : List Int) : Prop := S.length = n + 1 ∧ (∀ x : Int, 0 ≤ x → x ≤ n → 0 ≤ vl_at S x ∧ vl_at S x ≤ (if x < m then 720 + r else 719 + r)) ∧ (0 ≤ dg ∧ dg ≤ 719 + r) ∧ (m < r → vl_at S (r - 1) = 0) ∧ (m = r → dg = 0) ∧ (r < m → vl_at S r = 0)
theorem vs_C_step {n : Nat} {r m dg x : Int} {S : List Int} (h : vs_C n r m dg S) (m1 : 1 ≤ m) (mn : m ≤ n) (r1 : 1 ≤ r) (rn : r ≤ n) (hx : x = dg ∨ x = dg + 1) (hxr : m = r → x = dg) : vs_C n r (m + 1) (vl_at S m) (vl_put S m (min x (1 + min (vl_at S m) (vl_at S (m - 1))))) := by
  obtain ⟨h1, h2, h3, h4, h5, h6⟩ := h
  have q1 := h2 m (by omega) mn
  have q2 := h2 (m - 1) (by omega) (by omega)
  rw [if_neg (by omega)] at q1
  rw [if_pos (by omega)] at q2
  refine ⟨by rw [vl_put_len]; exact h1, fun x' x0 xn => ?_, by omega, fun g => ?_, fun g => ?_, fun g => ?_⟩
  · rw [vl_at_put (by omega) (by omega)]
    have q3 := h2 x' x0 xn
    by_cases e : x' = m
    · rw [if_pos e, if_pos (by omega)]; omega
    · rw [if_neg e]
      by_cases e2 : x' < m
      · rw [if_pos e2] at q3; rw [if_pos (by omega)]; exact q3
      · rw [if_neg e2] at q3; rw [if_neg (by omega)]; exact q3
  · rw [vl_at_put (by omega) (by omega), if_neg (by omega)]
    exact h4 (by omega)
  · have := h4 (by omega)
    rw [← this]
    congr 1
    omega
  · rw [vl_at_put (by omega) (by omega)]
    by_cases e : r = m
    · rw [if_pos e]
      have := h5 e.symm
      have := hxr e.symm
      omega
    · rw [if_neg e]
      exact h6 (by omega)
theorem m_csC_loop (htx : σ.1 16 1 = σ.1 16 0) (hl : (σ.1 16 0).length ≤ 720) {r : Nat} (r1 : 1 ≤ (r : Int)) (rn : (r : Int) ≤ ((σ.1 16 0).length : Nat)) (hQ : ∀ (S : List Int) (dg : Int) (m : Nat) (u7 u8 u9 : Option Value), (m : Int) = ((σ.1 16 0).length : Nat) + 1 → vs_C (σ.1 16 0).length r m dg S → vW vw_rep L xs (117, 184, [some (.ref 8), some (.ref (vw_rr 16 0)), some (.ref (vw_rr 16 1)), some (.int (jI ((r : Int)))), some (.int (jI (vl_at (σ.1 12 0) (vl_at (σ.1 16 0) ((r : Int) - 1))))), some (.int (jI (dg))), some (.int (jI ((m : Int)))), u7, u8, u9], []) ((vw_sr σ.1 11 0 (S)), σ.2) Q) : ∀ (e m : Nat) (dg : Int) (S : List Int) (u7 u8 u9 : Option Value), m + e = (σ.1 16 0).length + 1 → 1 ≤ (m : Int) → vs_C (σ.1 16 0).length r m dg S → vW vw_rep L xs (117, 79, [some (.ref 8), some (.ref (vw_rr 16 0)), some (.ref (vw_rr 16 1)), some (.int (jI ((r : Int)))), some (.int (jI (vl_at (σ.1 12 0) (vl_at (σ.1 16 0) ((r : Int) - 1))))), some (.int (jI (dg))), some (.int (jI ((m : Int)))), u7, u8, u9], []) ((vw_sr σ.1 11 0 (S)), σ.2) Q := by
  have hl1 : (σ.1 16 1).length = (σ.1 16 0).length := by rw [htx]
  intro e
  induction e with
  | zero =>
    intro m dg S u7 u8 u9 hm m1 hC
    refine w0 vi117_79 rfl rfl ?_
    refine w1 vi117_81 rfl rfl ?_
    refine r_size (l := (σ.1 16 1)) vi117_82 ⟨by decide, (show 1 < 2 by omega)⟩ (by first | rfl | (dsimp only; repeat (first | rw [vw_sr_eq] | rw [vw_sr_ne _ _ (by omega)]))) rfl ?_
    refine w8 vi117_85 (vwc_4 ⟨by omega, by omega⟩ ⟨by omega, by omega⟩) (fun h85 => ?_) (fun h85 => by exfalso; omega)
    exact hQ S dg m u7 u8 u9 (by omega) hC
  | succ e ih =>
    intro m dg S u7 u8 u9 hm m1 hC
    obtain ⟨c1, c2, c3, c4, c5, c6⟩ := hC
    have q1 := c2 m (by omega) (by omega)
    have q2 := c2 ((m : Int) - 1) (by omega) (by omega)
    rw [if_neg (by omega)] at q1
    rw [if_pos (by omega)] at q2
    have hC : vs_C (σ.1 16 0).length r m dg S := ⟨c1, c2, c3, c4, c5, c6⟩
    refine vW_at (kk := 12) (i := 0) ⟨by decide, by decide⟩ (vl_at (σ.1 16 0) ((r : Int) - 1)) (fun q3 q4 => ?_)
    dsimp only at q3 q4
    rw [vw_sr_ne _ _ (by omega)] at q3 q4
    refine w0 vi117_79 rfl rfl ?_
    refine w1 vi117_81 rfl rfl ?_
    refine r_size (l := (σ.1 16 1)) vi117_82 ⟨by decide, (show 1 < 2 by omega)⟩ (by first | rfl | (dsimp only; repeat (first | rw [vw_sr_eq] | rw [vw_sr_ne _ _ (by omega)]))) rfl ?_
    refine w8 vi117_85 (vwc_4 ⟨by omega, by omega⟩ ⟨by omega, by omega⟩) (fun h85 => by exfalso; omega) (fun h85 => ?_)
    refine w1 vi117_88 rfl rfl ?_
    refine w14m (v := .ref 9) vi117_89  rfl ?_
    refine w1 vi117_92 rfl rfl ?_
    refine w0 vi117_93 rfl rfl ?_
    refine w2 (1) vi117_95 (by decide) ?_
    refine w10 vi117_96 ?_
    refine r_at (l := (σ.1 16 1)) vi117_97 ⟨by decide, (show 1 < 2 by omega)⟩ (by first | rfl | (dsimp only; repeat (first | rw [vw_sr_eq] | rw [vw_sr_ne _ _ (by omega)]))) (by first | omega | exact ve_ix_le _ | exact vk_lat_le _ _ _ _ | assumption) (by first | omega | exact ve_ix_le _ | exact vk_lat_le _ _ _ _ | assumption) rfl (fun _ _ => ?_)
    refine c_letterOfR (l := (σ.1 12 0)) vi117_100 (by first | rfl | (dsimp only; repeat (first | rw [vw_sr_eq] | rw [vw_sr_ne _ _ (by omega)]))) (by first | omega | exact ve_ix_le _ | exact vk_lat_le _ _ _ _ | assumption) (by first | omega | exact ve_ix_le _ | exact vk_lat_le _ _ _ _ | assumption) rfl (fun _ _ => ?_)
    refine w0 vi117_103 rfl rfl ?_
    refine w8 vi117_105 (vwc_1 ⟨by omega, by omega⟩ ⟨by omega, by omega⟩) (fun h105 => ?_) (fun h105 => ?_)
    ·
      refine w2 (0) vi117_112 (by decide) ?_
      refine w3 vi117_113 rfl rfl ?_
      refine w0 vi117_115 rfl rfl ?_
      refine w7 vi117_117 (vwz_0 ⟨by omega, by omega⟩) (fun h117 => ?_) (fun h117 => by exfalso; omega)
      refine w0 vi117_125 rfl rfl ?_
      refine w2 (1) vi117_127 (by decide) ?_
      refine w9 vi117_128 ?_
      refine w3 vi117_129 rfl rfl ?_
      refine w1 vi117_131 rfl rfl ?_
      refine w14m (v := .ref (vw_rr 11 0)) vi117_132  rfl ?_
      refine w0 vi117_135 rfl rfl ?_
      refine r_at (l := (S)) vi117_137 ⟨by decide, (show 0 < 1 by omega)⟩ (by first | rfl | (dsimp only; repeat (first | rw [vw_sr_eq] | rw [vw_sr_ne _ _ (by omega)]))) (by first | omega | exact ve_ix_le _ | exact vk_lat_le _ _ _ _ | assumption) (by first | omega | exact ve_ix_le _ | exact vk_lat_le _ _ _ _ | assumption) rfl (fun _ _ => ?_)
      refine w3 vi117_140 rfl rfl ?_
      refine w2 (1) vi117_142 (by decide) ?_
      refine w0 vi117_143 rfl rfl ?_
      refine w1 vi117_145 rfl rfl ?_
      refine w14m (v := .ref (vw_rr 11 0)) vi117_146  rfl ?_
      refine w0 vi117_149 rfl rfl ?_
      refine w2 (1) vi117_151 (by decide) ?_
      refine w10 vi117_152 ?_
      refine r_at (l := (S)) vi117_153 ⟨by decide, (show 0 < 1 by omega)⟩ (by first | rfl | (dsimp only; repeat (first | rw [vw_sr_eq] | rw [vw_sr_ne _ _ (by omega)]))) (by first | omega | exact ve_ix_le _ | exact vk_lat_le _ _ _ _ | assumption) (by first | omega | exact ve_ix_le _ | exact vk_lat_le _ _ _ _ | assumption) rfl (fun _ _ => ?_)
      refine w32 vi117_156 ⟨by omega, by omega⟩ ⟨by omega, by omega⟩ rfl ?_
      refine w9 vi117_159 ?_
      refine w3 vi117_160 rfl rfl ?_
      refine w1 vi117_162 rfl rfl ?_
      refine w14m (v := .ref (vw_rr 11 0)) vi117_163  rfl ?_
      refine w0 vi117_166 rfl rfl ?_
      refine w0 vi117_168 rfl rfl ?_
      refine w0 vi117_170 rfl rfl ?_
      refine w32 vi117_172 ⟨by omega, by omega⟩ ⟨by omega, by omega⟩ rfl ?_
      refine r_put (l := (S)) (σ2 := ((vw_sr σ.1 11 0 (vl_put (S) ((m : Int)) (min (dg + 1) (1 + (min (vl_at (S) ((m : Int))) (vl_at (S) ((m : Int) - 1))))))), σ.2)) vi117_175 ⟨by decide, (show 0 < 1 by omega)⟩ (by first | rfl | (dsimp only; repeat (first | rw [vw_sr_eq] | rw [vw_sr_ne _ _ (by omega)]))) (by first | omega | exact ve_ix_le _ | exact vk_lat_le _ _ _ _ | assumption) (by first | omega | exact ve_ix_le _ | exact vk_lat_le _ _ _ _ | assumption) (by first | omega | exact ve_ix_le _ | exact vk_lat_le _ _ _ _ | assumption) (by first | omega | exact ve_ix_le _ | exact vk_lat_le _ _ _ _ | assumption) (by dsimp only; rw [vw_sr_sr]; try rfl) rfl ?_
      refine w6 (1) vi117_178 rfl (by decide) rfl ?_
      refine w5 vi117_181 ?_
      have hst := vs_C_step (x := dg + 1) hC m1 (by omega) r1 rn (by omega) (fun g => by
        first
          | rfl
          | (exfalso
             apply h105
             rw [show (m : Int) - 1 = (r : Int) - 1 by omega, htx]))
      refine ih (m + 1) (vl_at S (m : Int)) _ _ _ _ (by omega) (by omega) ?_
      exact hst
    ·
      refine w2 (1) vi117_108 (by decide) ?_
      refine w5 vi117_109 ?_
      refine w3 vi117_113 rfl rfl ?_
      refine w0 vi117_115 rfl rfl ?_
      refine w7 vi117_117 (vwz_0 ⟨by omega, by omega⟩) (fun h117 => by exfalso; omega) (fun h117 => ?_)
      refine w0 vi117_120 rfl rfl ?_
      refine w5 vi117_122 ?_
      refine w3 vi117_129 rfl rfl ?_
      refine w1 vi117_131 rfl rfl ?_
      refine w14m (v := .ref (vw_rr 11 0)) vi117_132  rfl ?_
      refine w0 vi117_135 rfl rfl ?_
      refine r_at (l := (S)) vi117_137 ⟨by decide, (show 0 < 1 by omega)⟩ (by first | rfl | (dsimp only; repeat (first | rw [vw_sr_eq] | rw [vw_sr_ne _ _ (by omega)]))) (by first | omega | exact ve_ix_le _ | exact vk_lat_le _ _ _ _ | assumption) (by first | omega | exact ve_ix_le _ | exact vk_lat_le _ _ _ _ | assumption) rfl (fun _ _ => ?_)
      refine w3 vi117_140 rfl rfl ?_
      refine w2 (1) vi117_142 (by decide) ?_
      refine w0 vi117_143 rfl rfl ?_
      refine w1 vi117_145 rfl rfl ?_
      refine w14m (v := .ref (vw_rr 11 0)) vi117_146  rfl ?_
      refine w0 vi117_149 rfl rfl ?_
      refine w2 (1) vi117_151 (by decide) ?_
      refine w10 vi117_152 ?_
      refine r_at (l := (S)) vi117_153 ⟨by decide, (show 0 < 1 by omega)⟩ (by first | rfl | (dsimp only; repeat (first | rw [vw_sr_eq] | rw [vw_sr_ne _ _ (by omega)]))) (by first | omega | exact ve_ix_le _ | exact vk_lat_le _ _ _ _ | assumption) (by first | omega | exact ve_ix_le _ | exact vk_lat_le _ _ _ _ | assumption) rfl (fun _ _ => ?_)
      refine w32 vi117_156 ⟨by omega, by omega⟩ ⟨by omega, by omega⟩ rfl ?_
      refine w9 vi117_159 ?_
      refine w3 vi117_160 rfl rfl ?_
      refine w1 vi117_162 rfl rfl ?_
      refine w14m (v := .ref (vw_rr 11 0)) vi117_163  rfl ?_
      refine w0 vi117_166 rfl rfl ?_
      refine w0 vi117_168 rfl rfl ?_
      refine w0 vi117_170 rfl rfl ?_
      refine w32 vi117_172 ⟨by omega, by omega⟩ ⟨by omega, by omega⟩ rfl ?_
      refine r_put (l := (S)) (σ2 := ((vw_sr σ.1 11 0 (vl_put (S) ((m : Int)) (min dg (1 + (min (vl_at (S) ((m : Int))) (vl_at (S) ((m : Int) - 1))))))), σ.2)) vi117_175 ⟨by decide, (show 0 < 1 by omega)⟩ (by first | rfl | (dsimp only; repeat (first | rw [vw_sr_eq] | rw [vw_sr_ne _ _ (by omega)]))) (by first | omega | exact ve_ix_le _ | exact vk_lat_le _ _ _ _ | assumption) (by first | omega | exact ve_ix_le _ | exact vk_lat_le _ _ _ _ | assumption) (by first | omega | exact ve_ix_le _ | exact vk_lat_le _ _ _ _ | assumption) (by first | omega | exact ve_ix_le _ | exact vk_lat_le _ _ _ _ | assumption) (by dsimp only; rw [vw_sr_sr]; try rfl) rfl ?_
      refine w6 (1) vi117_178 rfl (by decide) rfl ?_
      refine w5 vi117_181 ?_
      have hst := vs_C_step (x := dg) hC m1 (by omega) r1 rn (by omega) (fun g => by
        first
          | rfl
          | (exfalso
             apply h105
             rw [show (m : Int) - 1 = (r : Int) - 1 by omega, htx]))
      refine ih (m + 1) (vl_at S (m : Int)) _ _ _ _ (by omega) (by omega) ?_
      exact hst
theorem m_csB_loop (htx : σ.1 16 1 = σ.1 16 0) (hl : (σ.1 16 0).length ≤ 720) (hQ : ∀ S : List Int, Q [.int (jI 0)] ((vw_sr σ.1 11 0 (S)), σ.2)) : ∀ (e r : Nat) (S : List Int) (u4 u5 u6 u7 u8 u9 : Option Value), r + e = (σ.1 16 0).length + 1 → 1 ≤ (r : Int) → S.length = (σ.1 16 0).length + 1 → (∀ x : Int, 0 ≤ x → x ≤ ((σ.1 16 0).length : Nat) → 0 ≤ vl_at S x ∧ vl_at S x ≤ 719 + r) → vl_at S ((r : Int) - 1) = 0 → vW vw_rep L xs (117, 33, [some (.ref 8), some (.ref (vw_rr 16 0)), some (.ref (vw_rr 16 1)), some (.int (jI ((r : Int)))), u4, u5, u6, u7, u8, u9], []) ((vw_sr σ.1 11 0 (S)), σ.2) Q := by
  have hl1 : (σ.1 16 1).length = (σ.1 16 0).length := by rw [htx]
  intro e
  induction e with
  | zero =>
    intro r S u4 u5 u6 u7 u8 u9 hr r1 hS1 hS2 hS3
    refine w0 vi117_33 rfl rfl ?_
    refine w1 vi117_34 rfl rfl ?_
    refine r_size (l := (σ.1 16 0)) vi117_35 ⟨by decide, (show 0 < 2 by omega)⟩ (by first | rfl | (dsimp only; repeat (first | rw [vw_sr_eq] | rw [vw_sr_ne _ _ (by omega)]))) rfl ?_
    refine w8 vi117_38 (vwc_4 ⟨by omega, by omega⟩ ⟨by omega, by omega⟩) (fun h38 => ?_) (fun h38 => by exfalso; omega)
    refine w1 vi117_190 rfl rfl ?_
    refine w14m (v := .ref (vw_rr 11 0)) vi117_191  rfl ?_
    refine w1 vi117_194 rfl rfl ?_
    refine r_size (l := (σ.1 16 1)) vi117_195 ⟨by decide, (show 1 < 2 by omega)⟩ (by first | rfl | (dsimp only; repeat (first | rw [vw_sr_eq] | rw [vw_sr_ne _ _ (by omega)]))) rfl ?_
    refine r_at (l := (S)) vi117_198 ⟨by decide, (show 0 < 1 by omega)⟩ (by first | rfl | (dsimp only; repeat (first | rw [vw_sr_eq] | rw [vw_sr_ne _ _ (by omega)]))) (by first | omega | exact ve_ix_le _ | exact vk_lat_le _ _ _ _ | assumption) (by first | omega | exact ve_ix_le _ | exact vk_lat_le _ _ _ _ | assumption) rfl (fun _ _ => ?_)
    refine w42 vi117_201 vm117.2.2.2 ?_
    rw [show ((σ.1 16 1).length : Int) = (r : Int) - 1 by omega, hS3]
    exact hQ S
  | succ e ih =>
    intro r S u4 u5 u6 u7 u8 u9 hr r1 hS1 hS2 hS3
    refine w0 vi117_33 rfl rfl ?_
    refine w1 vi117_34 rfl rfl ?_
    refine r_size (l := (σ.1 16 0)) vi117_35 ⟨by decide, (show 0 < 2 by omega)⟩ (by first | rfl | (dsimp only; repeat (first | rw [vw_sr_eq] | rw [vw_sr_ne _ _ (by omega)]))) rfl ?_
    refine w8 vi117_38 (vwc_4 ⟨by omega, by omega⟩ ⟨by omega, by omega⟩) (fun h38 => by exfalso; omega) (fun h38 => ?_)
    refine w1 vi117_41 rfl rfl ?_
    refine w14m (v := .ref 9) vi117_42  rfl ?_
    refine w1 vi117_45 rfl rfl ?_
    refine w0 vi117_46 rfl rfl ?_
    refine w2 (1) vi117_47 (by decide) ?_
    refine w10 vi117_48 ?_
    refine r_at (l := (σ.1 16 0)) vi117_49 ⟨by decide, (show 0 < 2 by omega)⟩ (by first | rfl | (dsimp only; repeat (first | rw [vw_sr_eq] | rw [vw_sr_ne _ _ (by omega)]))) (by first | omega | exact ve_ix_le _ | exact vk_lat_le _ _ _ _ | assumption) (by first | omega | exact ve_ix_le _ | exact vk_lat_le _ _ _ _ | assumption) rfl (fun _ _ => ?_)
    refine c_letterOfR (l := (σ.1 12 0)) vi117_52 (by first | rfl | (dsimp only; repeat (first | rw [vw_sr_eq] | rw [vw_sr_ne _ _ (by omega)]))) (by first | omega | exact ve_ix_le _ | exact vk_lat_le _ _ _ _ | assumption) (by first | omega | exact ve_ix_le _ | exact vk_lat_le _ _ _ _ | assumption) rfl (fun _ _ => ?_)
    refine w3 vi117_55 rfl rfl ?_
    refine w1 vi117_57 rfl rfl ?_
    refine w14m (v := .ref (vw_rr 11 0)) vi117_58  rfl ?_
    refine w2 (0) vi117_61 (by decide) ?_
    refine r_at (l := (S)) vi117_62 ⟨by decide, (show 0 < 1 by omega)⟩ (by first | rfl | (dsimp only; repeat (first | rw [vw_sr_eq] | rw [vw_sr_ne _ _ (by omega)]))) (by first | omega | exact ve_ix_le _ | exact vk_lat_le _ _ _ _ | assumption) (by first | omega | exact ve_ix_le _ | exact vk_lat_le _ _ _ _ | assumption) rfl (fun _ _ => ?_)
    refine w3 vi117_65 rfl rfl ?_
    refine w1 vi117_67 rfl rfl ?_
    refine w14m (v := .ref (vw_rr 11 0)) vi117_68  rfl ?_
    refine w2 (0) vi117_71 (by decide) ?_
    refine w0 vi117_72 rfl rfl ?_
    refine r_put (l := (S)) (σ2 := ((vw_sr σ.1 11 0 (vl_put (S) (0) ((r : Int)))), σ.2)) vi117_73 ⟨by decide, (show 0 < 1 by omega)⟩ (by first | rfl | (dsimp only; repeat (first | rw [vw_sr_eq] | rw [vw_sr_ne _ _ (by omega)]))) (by first | omega | exact ve_ix_le _ | exact vk_lat_le _ _ _ _ | assumption) (by first | omega | exact ve_ix_le _ | exact vk_lat_le _ _ _ _ | assumption) (by first | omega | exact ve_ix_le _ | exact vk_lat_le _ _ _ _ | assumption) (by first | omega | exact ve_ix_le _ | exact vk_lat_le _ _ _ _ | assumption) (by dsimp only; rw [vw_sr_sr]; try rfl) rfl ?_
    refine w2 (1) vi117_76 (by decide) ?_
    refine w3 vi117_77 rfl rfl ?_
    refine m_csC_loop htx hl (r := r) (by omega) (by omega) (fun S' dg' m' u7 u8 u9 hm' hC' => ?_) (σ.1 16 0).length 1 (vl_at S 0) (vl_put S 0 (r : Int)) _ _ _ (by omega) (by decide) ?_
    · refine w6 (1) vi117_184 rfl (by decide) rfl ?_
      refine w5 vi117_187 ?_
      obtain ⟨d1, d2, d3, d4, d5, d6⟩ := hC'
      refine ih (r + 1) S' _ _ _ _ _ _ (by omega) (by omega) d1 (fun x x0 xn => ?_) ?_
      · have := d2 x x0 xn
        rw [if_pos (by omega)] at this
        omega
      · rw [show (((r + 1 : Nat) : Nat) : Int) - 1 = (r : Int) by omega]
        exact d6 (by omega)
    · refine ⟨by rw [vl_put_len]; exact hS1, fun x x0 xn => ?_, ?_, fun g => ?_, fun g => ?_, fun g => absurd g (by omega)⟩
      · rw [vl_at_put (by omega) (by omega)]
        by_cases e : x = 0
        · rw [if_pos e, if_pos (by omega)]; omega
        · rw [if_neg e, if_neg (by omega)]
          have := hS2 x x0 xn
          omega
      · have := hS2 0 (by omega) (by omega)
        omega
      · rw [vl_at_put (by omega) (by omega), if_neg (by omega)]
        exact hS3
      · rw [← hS3]
        congr 1
        omega
theorem m_csA_loop (htx : σ.1 16 1 = σ.1 16 0) (hl : (σ.1 16 0).length ≤ 720) (hQ : ∀ S : List Int, Q [.int (jI 0)] ((vw_sr σ.1 11 0 (S)), σ.2)) : ∀ (e m : Nat) (S : List Int), m + e = (σ.1 16 0).length + 1 → S.length = m → (∀ x : Int, 0 ≤ x → x < m → vl_at S x = x) → vW vw_rep L xs (117, 9, [some (.ref 8), some (.ref (vw_rr 16 0)), some (.ref (vw_rr 16 1)), some (.int (jI ((m : Int)))), none, none, none, none, none, none], []) ((vw_sr σ.1 11 0 (S)), σ.2) Q := by
  have hl1 : (σ.1 16 1).length = (σ.1 16 0).length := by rw [htx]
  intro e
  induction e with
  | zero =>
    intro m S hm hS1 hS2
    refine w0 vi117_9 rfl rfl ?_
    refine w1 vi117_10 rfl rfl ?_
    refine r_size (l := (σ.1 16 1)) vi117_11 ⟨by decide, (show 1 < 2 by omega)⟩ (by first | rfl | (dsimp only; repeat (first | rw [vw_sr_eq] | rw [vw_sr_ne _ _ (by omega)]))) rfl ?_
    refine w8 vi117_14 (vwc_4 ⟨by omega, by omega⟩ ⟨by omega, by omega⟩) (fun h14 => ?_) (fun h14 => by exfalso; omega)
    refine w2 (1) vi117_31 (by decide) ?_
    refine w3 vi117_32 rfl rfl ?_
    refine m_csB_loop htx hl hQ (σ.1 16 0).length 1 S _ _ _ _ _ _ (by omega) (by decide) (by omega) (fun x x0 xn => ?_) (hS2 0 (by omega) (by omega))
    rw [hS2 x x0 (by omega)]
    omega
  | succ e ih =>
    intro m S hm hS1 hS2
    refine w0 vi117_9 rfl rfl ?_
    refine w1 vi117_10 rfl rfl ?_
    refine r_size (l := (σ.1 16 1)) vi117_11 ⟨by decide, (show 1 < 2 by omega)⟩ (by first | rfl | (dsimp only; repeat (first | rw [vw_sr_eq] | rw [vw_sr_ne _ _ (by omega)]))) rfl ?_
    refine w8 vi117_14 (vwc_4 ⟨by omega, by omega⟩ ⟨by omega, by omega⟩) (fun h14 => by exfalso; omega) (fun h14 => ?_)
    refine w1 vi117_17 rfl rfl ?_
    refine w14m (v := .ref (vw_rr 11 0)) vi117_18  rfl ?_
    refine w0 vi117_21 rfl rfl ?_
    refine r_add (l := (S)) (σ2 := ((vw_sr σ.1 11 0 (vl_add (vw_cap 11) (S) ((m : Int)))), σ.2)) vi117_22 ⟨by decide, (show 0 < 1 by omega)⟩ (by first | rfl | (dsimp only; repeat (first | rw [vw_sr_eq] | rw [vw_sr_ne _ _ (by omega)]))) (by first | omega | exact ve_ix_le _ | exact vk_lat_le _ _ _ _ | assumption) (by first | omega | exact ve_ix_le _ | exact vk_lat_le _ _ _ _ | assumption) (by dsimp only; rw [vw_sr_sr]; try rfl) rfl ?_
    refine w6 (1) vi117_25 rfl (by decide) rfl ?_
    refine w5 vi117_28 ?_
    rw [vl_add_lt _ (show S.length < vw_cap 11 by show _ < 721; omega)]
    refine ih (m + 1) (S ++ [(m : Int)]) (by omega) (by rw [List.length_append, hS1]; rfl) (fun x x0 xn => ?_)
    unfold vl_at
    rw [if_pos x0]
    by_cases g : x.toNat < S.length
    · rw [List.getElem?_append_left g]
      have := hS2 x x0 (by omega)
      unfold vl_at at this
      rw [if_pos x0] at this
      exact this
    · rw [List.getElem?_append_right (by omega), show x.toNat - S.length = 0 by omega]
      show (m : Int) = x
      omega
theorem m_countSteps (htx : σ.1 16 1 = σ.1 16 0) (hl : (σ.1 16 0).length ≤ 720) (hQ : ∀ S : List Int, Q [.int (jI (0))] ((vw_sr σ.1 11 0 (S)), σ.2)) : vW vw_rep L xs (117, 0, [some (.ref 8), some (.ref (vw_rr 16 0)), some (.ref (vw_rr 16 1)), none, none, none, none, none, none, none], []) σ Q := by
  refine w1 vi117_0 rfl rfl ?_
  refine w14m (v := .ref (vw_rr 11 0)) vi117_1  rfl ?_
  refine r_clear (l := (σ.1 11 0)) (σ2 := ((vw_sr σ.1 11 0 (([] : List Int))), σ.2)) vi117_4 ⟨by decide, (show 0 < 1 by omega)⟩ (by first | rfl | (dsimp only; repeat (first | rw [vw_sr_eq] | rw [vw_sr_ne _ _ (by omega)]))) rfl rfl ?_
  refine w2 (0) vi117_7 (by decide) ?_
  refine w3 vi117_8 rfl rfl ?_
  exact m_csA_loop htx hl hQ ((σ.1 16 0).length + 1) 0 [] (by omega) rfl (fun x x0 xn => absurd xn (by omega))
theorem c_countSteps (hc : vt_code k pc = (27, 117, b, c)) (htx : σ.1 16 1 = σ.1 16 0) (hl : (σ.1 16 0).length ≤ 720) (hs : Nat.ble (vj_cat sc) 8 = true) (hQ : ∀ S : List Int, vW vw_rep L xs (k, pc + 3, lc, .int (jI (0)) :: sc) ((vw_sr σ.1 11 0 (S)), σ.2) Q) : vW vw_rep L xs (k, pc, lc, .ref (vw_rr 16 1) :: .ref (vw_rr 16 0) :: .ref 8 :: sc) σ Q := by
  refine w27 (n := 3) (vs := [.ref (vw_rr 16 1), .ref (vw_rr 16 0), .ref 8]) hc vm117.2.1 rfl (by rw [vm117.2.2.1]; rfl) hs (by simp only [List.length_cons]; omega) ⟨_, rfl⟩ (fun M hM => hM.2.2.2.2.2.1) ⟨by omega, by omega⟩ vm117.1 ?_
  rw [vm117.2.2.1]
  exact m_countSteps htx hl (Q := fun v σ1 => vW vw_rep L xs (k, pc + 3, lc, v ++ sc) σ1 Q) hQ
theorem m_apart {w : Nat} (hw : w < 6) (hc0 : (w : Int) < σ.2 0 0) (hp : σ.2 2 w = 1) (n0 : 0 ≤ σ.2 1 0) (n1 : σ.2 1 0 ≤ 120) (hQ : ∀ σ', vw_same σ σ' → Q [.int (jI (0))] σ') : vW vw_rep L xs (85, 0, [some (.ref 8), some (.int (jI ((w : Int)))), some (.int (jI ((w : Int)))), none, none], []) σ Q := by
  refine w1 vi85_0 rfl rfl ?_
  refine w0 vi85_1 rfl rfl ?_
  refine c_presentCopy vi85_2 (by first | omega | exact ve_ix_le _ | exact vk_lat_le _ _ _ _ | assumption) (by first | omega | exact ve_ix_le _ | exact vk_lat_le _ _ _ _ | assumption) (by first | omega | exact ve_ix_le _ | exact vk_lat_le _ _ _ _ | assumption) rfl ?_
  refine w4 vi85_5 rfl rfl ?_
  refine w1 vi85_6 rfl rfl ?_
  refine w0 vi85_7 rfl rfl ?_
  refine c_presentCopy vi85_8 (by first | omega | exact ve_ix_le _ | exact vk_lat_le _ _ _ _ | assumption) (by first | omega | exact ve_ix_le _ | exact vk_lat_le _ _ _ _ | assumption) (by first | omega | exact ve_ix_le _ | exact vk_lat_le _ _ _ _ | assumption) rfl ?_
  refine w4 vi85_11 rfl rfl ?_
  refine w1 vi85_13 rfl rfl ?_
  refine w1 vi85_14 rfl rfl ?_
  refine w1 vi85_15 rfl rfl ?_
  refine c_see vi85_16 (by first | omega | exact ve_ix_le _ | exact vk_lat_le _ _ _ _ | assumption) n0 n1 rfl (fun σ1 g1 => ?_)
  obtain ⟨s1, e1⟩ := vx_see (vw_same.refl σ) g1
  refine w14v (v := .ref (vw_rr 16 0)) vi85_19 (by first | omega | exact ve_ix_le _ | exact vk_lat_le _ _ _ _ | assumption) rfl ?_
  refine w1 vi85_22 rfl rfl ?_
  refine w1 vi85_23 rfl rfl ?_
  refine c_seeAsWell vi85_25 (by first | omega | exact ve_ix_le _ | exact vk_lat_le _ _ _ _ | assumption) (by rw [s1.1]; exact n0) (by rw [s1.1]; exact n1) rfl (fun σ2 g2 => ?_)
  obtain ⟨s2, e2⟩ := vx_see s1 g2
  have f20 : ∀ k, 15 ≤ k → k ≤ 21 → σ2.1 k 0 = vx σ w k := fun k q0 q1 => (g2.2.1 k 0 (by omega)).trans (e1 k q0 q1)
  refine w14v (v := .ref (vw_rr 16 1)) vi85_28 (by first | omega | exact ve_ix_le _ | exact vk_lat_le _ _ _ _ | assumption) rfl ?_
  refine vW_len (kk := 16) (i := 0) ⟨by decide, by decide⟩ (fun hl => ?_)
  have hl : (σ2.1 16 0).length ≤ 720 := hl
  refine c_countSteps vi85_31 (by rw [e2 16 (by decide) (by decide), f20 16 (by decide) (by decide)]) hl rfl (fun S => ?_)
  refine w42 vi85_34 vm85.2.2.2 ?_
  exact hQ _ ⟨s2.1, fun k' i' q => by dsimp only; rw [vw_sr_ne _ _ (by unfold vw_sc at q; omega)]; exact s2.2 k' i' q⟩
theorem c_apart (hc : vt_code k pc = (27, 85, b, c)) {w : Nat} (hw : w < 6) (hc0 : (w : Int) < σ.2 0 0) (hp : σ.2 2 w = 1) (n0 : 0 ≤ σ.2 1 0) (n1 : σ.2 1 0 ≤ 120) (hs : Nat.ble (vj_cat sc) 8 = true) (hQ : ∀ σ', vw_same σ σ' → vW vw_rep L xs (k, pc + 3, lc, .int (jI (0)) :: sc) σ' Q) : vW vw_rep L xs (k, pc, lc, .int (jI ((w : Int))) :: .int (jI ((w : Int))) :: .ref 8 :: sc) σ Q := by
  refine w27 (n := 3) (vs := [.int (jI ((w : Int))), .int (jI ((w : Int))), .ref 8]) hc vm85.2.1 rfl (by rw [vm85.2.2.1]; rfl) hs (by simp only [List.length_cons]; omega) ⟨_, rfl⟩ (fun M hM => hM.2.2.2.2.2.1) ⟨by omega, by omega⟩ vm85.1 ?_
  rw [vm85.2.2.1]
  exact m_apart hw hc0 hp n0 n1 (Q := fun v σ1 => vW vw_rep L xs (k, pc + 3, lc, v ++ sc) σ1 Q) hQ
end VW21
