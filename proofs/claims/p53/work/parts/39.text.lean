/-! ===== what a writer sees: the text ===== -/
section VW11
variable {L : Nat} {xs : Nat → Int32} {σ σ2 : vw_S} {Q : List Value → vw_S → Prop} {k pc a b c kk i : Nat} {lc : List (Option Value)} {sc : List Value} {fr : vj_F} {l : List Int} {V : Nat → Nat → Int} {z y : Int}
theorem c_weighMarkR (hc : vt_code k pc = (27, 41, b, c)) {v d : Nat} (hv : v < 2) (hd : d ≤ 120) (z0 : -2147483648 ≤ z) (z1 : z < 2147483648) (hr : σ.1 21 v = l) (hV : σ.2 = V) (he : (vw_sr σ.1 21 v (vq_wm V l d z), σ.2) = σ2) (hs : Nat.ble (vj_cat sc) 8 = true) (t : vW vw_rep L xs (k, pc + 3, lc, sc) σ2 Q) : vW vw_rep L xs (k, pc, lc, .int (jI z) :: .ref (vw_dr d) :: .ref 9 :: .ref (vw_vr v) :: sc) σ Q := by
  subst hr; subst hV; subst he; exact c_weighMark hc hv hd z0 z1 hs t
theorem vW_onR (hv : σ.2 = V) (d : Nat) (g0 : V 11 d = 0 → vW vw_rep L xs fr σ Q) (g1 : V 11 d = 1 → vW vw_rep L xs fr σ Q) : vW vw_rep L xs fr σ Q := by subst hv; exact vW_num (fun h => (h.2.2.2 d).elim g0 g1)
theorem vW_lenR (hk : vw_ok kk i) (hr : σ.1 kk i = l) (g : l.length ≤ vw_cap kk → vW vw_rep L xs fr σ Q) : vW vw_rep L xs fr σ Q := by subst hr; exact vW_len hk g
theorem m_cvi_loop {v j : Nat} (hv : v < 2) {s : List Int × List Int} (hj : j < 120) (hl5 : (σ.1 5 (ve_ix (j : Int))).length ≤ 12) (hef : vl_at (σ.1 18 v) (j : Int) = 1) (hQ : ∀ u4 u5 : Option Value, vW vw_rep L xs (40, 124, [some (.ref (vw_vr v)), some (.ref 9), some (.int (jI ((j : Int)))), some (.ref (vw_dr (ve_ix (j : Int)))), u4, u5], []) ((vw_sr (vw_sr σ.1 19 v ((vf (vq_cv2 σ.2 (σ.1 5 (ve_ix (j : Int))) (ve_ix (j : Int))) (σ.1 5 (ve_ix (j : Int))).length s).1)) 21 v ((vf (vq_cv2 σ.2 (σ.1 5 (ve_ix (j : Int))) (ve_ix (j : Int))) (σ.1 5 (ve_ix (j : Int))).length s).2)), σ.2) Q) : ∀ (e i : Nat) (u5 : Option Value), i + e = (σ.1 5 (ve_ix (j : Int))).length → vW vw_rep L xs (40, 45, [some (.ref (vw_vr v)), some (.ref 9), some (.int (jI ((j : Int)))), some (.ref (vw_dr (ve_ix (j : Int)))), some (.int (jI ((i : Int)))), u5], []) ((vw_sr (vw_sr σ.1 19 v ((vf (vq_cv2 σ.2 (σ.1 5 (ve_ix (j : Int))) (ve_ix (j : Int))) i s).1)) 21 v ((vf (vq_cv2 σ.2 (σ.1 5 (ve_ix (j : Int))) (ve_ix (j : Int))) i s).2)), σ.2) Q := by
  intro e
  induction e with
  | zero =>
    intro i u5 hi
    refine w1 vi40_45 rfl rfl ?_
    refine w14v (v := .ref (vw_rr 18 v)) vi40_46 (by first | omega | exact ve_ix_le _ | exact vk_lat_le _ _ _ _ | assumption) rfl ?_
    refine w0 vi40_49 rfl rfl ?_
    refine r_at (l := (σ.1 18 v)) vi40_50 ⟨by decide, (show v < 2 by omega)⟩ (by first | rfl | (dsimp only; repeat (first | rw [vw_sr_eq] | rw [vw_sr_ne _ _ (by omega)]))) (by first | omega | exact ve_ix_le _ | exact vk_lat_le _ _ _ _ | assumption) (by first | omega | exact ve_ix_le _ | exact vk_lat_le _ _ _ _ | assumption) rfl (fun _ _ => ?_)
    refine w2 (1) vi40_53 (by decide) ?_
    refine w8 vi40_54 (vwc_1 ⟨by omega, by omega⟩ ⟨by omega, by omega⟩) (fun h54 => by exfalso; omega) (fun h54 => ?_)
    refine w0 vi40_57 rfl rfl ?_
    refine w1 vi40_59 rfl rfl ?_
    refine w14d (v := .ref (vw_rr 5 ((ve_ix (j : Int))))) vi40_60 (by first | omega | exact ve_ix_le _ | exact vk_lat_le _ _ _ _ | assumption) rfl ?_
    refine r_size (l := (σ.1 5 ((ve_ix (j : Int))))) vi40_63 ⟨by decide, Nat.lt_succ_of_le (by first | omega | exact ve_ix_le _ | exact vk_lat_le _ _ _ _ | assumption)⟩ (by first | rfl | (dsimp only; repeat (first | rw [vw_sr_eq] | rw [vw_sr_ne _ _ (by omega)]))) rfl ?_
    refine w8 vi40_66 (vwc_3 ⟨by omega, by omega⟩ ⟨by omega, by omega⟩) (fun h66 => ?_) (fun h66 => by exfalso; omega)
    rw [show i = (σ.1 5 (ve_ix (j : Int))).length by omega]
    exact hQ _ _
  | succ e ih =>
    intro i u5 hi
    refine w1 vi40_45 rfl rfl ?_
    refine w14v (v := .ref (vw_rr 18 v)) vi40_46 (by first | omega | exact ve_ix_le _ | exact vk_lat_le _ _ _ _ | assumption) rfl ?_
    refine w0 vi40_49 rfl rfl ?_
    refine r_at (l := (σ.1 18 v)) vi40_50 ⟨by decide, (show v < 2 by omega)⟩ (by first | rfl | (dsimp only; repeat (first | rw [vw_sr_eq] | rw [vw_sr_ne _ _ (by omega)]))) (by first | omega | exact ve_ix_le _ | exact vk_lat_le _ _ _ _ | assumption) (by first | omega | exact ve_ix_le _ | exact vk_lat_le _ _ _ _ | assumption) rfl (fun _ _ => ?_)
    refine w2 (1) vi40_53 (by decide) ?_
    refine w8 vi40_54 (vwc_1 ⟨by omega, by omega⟩ ⟨by omega, by omega⟩) (fun h54 => by exfalso; omega) (fun h54 => ?_)
    refine w0 vi40_57 rfl rfl ?_
    refine w1 vi40_59 rfl rfl ?_
    refine w14d (v := .ref (vw_rr 5 ((ve_ix (j : Int))))) vi40_60 (by first | omega | exact ve_ix_le _ | exact vk_lat_le _ _ _ _ | assumption) rfl ?_
    refine r_size (l := (σ.1 5 ((ve_ix (j : Int))))) vi40_63 ⟨by decide, Nat.lt_succ_of_le (by first | omega | exact ve_ix_le _ | exact vk_lat_le _ _ _ _ | assumption)⟩ (by first | rfl | (dsimp only; repeat (first | rw [vw_sr_eq] | rw [vw_sr_ne _ _ (by omega)]))) rfl ?_
    refine w8 vi40_66 (vwc_3 ⟨by omega, by omega⟩ ⟨by omega, by omega⟩) (fun h66 => by exfalso; omega) (fun h66 => ?_)
    refine w1 vi40_69 rfl rfl ?_
    refine w14d (v := .ref (vw_rr 5 ((ve_ix (j : Int))))) vi40_70 (by first | omega | exact ve_ix_le _ | exact vk_lat_le _ _ _ _ | assumption) rfl ?_
    refine w0 vi40_73 rfl rfl ?_
    refine r_at (l := (σ.1 5 ((ve_ix (j : Int))))) vi40_75 ⟨by decide, Nat.lt_succ_of_le (by first | omega | exact ve_ix_le _ | exact vk_lat_le _ _ _ _ | assumption)⟩ (by first | rfl | (dsimp only; repeat (first | rw [vw_sr_eq] | rw [vw_sr_ne _ _ (by omega)]))) (by first | omega | exact ve_ix_le _ | exact vk_lat_le _ _ _ _ | assumption) (by first | omega | exact ve_ix_le _ | exact vk_lat_le _ _ _ _ | assumption) rfl (fun _ _ => ?_)
    refine w3 vi40_78 rfl rfl ?_
    refine w1 vi40_80 rfl rfl ?_
    refine w14d (v := .ref (((σ.2 4 ((ve_ix (j : Int))))).toNat + 1)) vi40_81 (by first | omega | exact ve_ix_le _ | exact vk_lat_le _ _ _ _ | assumption) rfl ?_
    refine vW_wR (V := σ.2) rfl ((ve_ix (j : Int))) (fun _ _ => ?_)
    refine w58 vi40_84 ?_
    refine w59 vi40_87 (by first | omega | exact ve_ix_le _ | exact vk_lat_le _ _ _ _ | assumption) (by first | omega | exact ve_ix_le _ | exact vk_lat_le _ _ _ _ | assumption) (fun h87 => ?_) (fun h87 => ?_)
    ·
      refine w1 vi40_90 rfl rfl ?_
      refine w14v (v := .ref (vw_rr 19 v)) vi40_91 (by first | omega | exact ve_ix_le _ | exact vk_lat_le _ _ _ _ | assumption) rfl ?_
      refine w0 vi40_94 rfl rfl ?_
      refine w2 (1) vi40_96 (by decide) ?_
      refine r_put (l := ((vf (vq_cv2 σ.2 (σ.1 5 (ve_ix (j : Int))) (ve_ix (j : Int))) i s).1)) (σ2 := ((vw_sr (vw_sr σ.1 19 v (vl_put ((vf (vq_cv2 σ.2 (σ.1 5 (ve_ix (j : Int))) (ve_ix (j : Int))) i s).1) (vl_at (σ.1 5 ((ve_ix (j : Int)))) ((i : Int))) (1))) 21 v ((vf (vq_cv2 σ.2 (σ.1 5 (ve_ix (j : Int))) (ve_ix (j : Int))) i s).2)), σ.2)) vi40_97 ⟨by decide, (show v < 2 by omega)⟩ (by first | rfl | (dsimp only; repeat (first | rw [vw_sr_eq] | rw [vw_sr_ne _ _ (by omega)]))) (by first | omega | exact ve_ix_le _ | exact vk_lat_le _ _ _ _ | assumption) (by first | omega | exact ve_ix_le _ | exact vk_lat_le _ _ _ _ | assumption) (by first | omega | exact ve_ix_le _ | exact vk_lat_le _ _ _ _ | assumption) (by first | omega | exact ve_ix_le _ | exact vk_lat_le _ _ _ _ | assumption) (by dsimp only; rw [vw_sr_cm _ 21 v _ 19 v _ (by omega), vw_sr_sr]; try rfl) rfl ?_
      refine w5 vi40_100 ?_
      refine w6 (1) vi40_118 rfl (by decide) rfl ?_
      refine w5 vi40_121 ?_
      have q := ih (i + 1) (some (.int (jI (vl_at (σ.1 5 (ve_ix (j : Int))) (i : Int))))) (by omega)
      have e1 : vf (vq_cv2 σ.2 (σ.1 5 (ve_ix (j : Int))) (ve_ix (j : Int))) (i + 1) s = vq_cv2 σ.2 (σ.1 5 (ve_ix (j : Int))) (ve_ix (j : Int)) i (vf (vq_cv2 σ.2 (σ.1 5 (ve_ix (j : Int))) (ve_ix (j : Int))) i s) := rfl
      rw [e1] at q
      have e2 : vq_cv2 σ.2 (σ.1 5 (ve_ix (j : Int))) (ve_ix (j : Int)) i (vf (vq_cv2 σ.2 (σ.1 5 (ve_ix (j : Int))) (ve_ix (j : Int))) i s) = ((vl_put ((vf (vq_cv2 σ.2 (σ.1 5 (ve_ix (j : Int))) (ve_ix (j : Int))) i s).1) (vl_at (σ.1 5 ((ve_ix (j : Int)))) ((i : Int))) (1)), ((vf (vq_cv2 σ.2 (σ.1 5 (ve_ix (j : Int))) (ve_ix (j : Int))) i s).2)) := by
        unfold vq_cv2
        repeat (first | rw [if_pos (by omega)] | rw [if_neg (by omega)])
      rw [e2] at q
      exact q
    ·
      refine w1 vi40_103 rfl rfl ?_
      refine w1 vi40_104 rfl rfl ?_
      refine w1 vi40_105 rfl rfl ?_
      refine w0 vi40_106 rfl rfl ?_
      refine w2 (3) vi40_108 (by decide) ?_
      refine w11 vi40_109 ?_
      refine w1 vi40_110 rfl rfl ?_
      refine w14d (v := .int (jI ((σ.2 10 ((ve_ix (j : Int))))))) vi40_111 (by first | omega | exact ve_ix_le _ | exact vk_lat_le _ _ _ _ | assumption) rfl ?_
      refine vW_nR (V := σ.2) rfl 10 ((ve_ix (j : Int))) (fun _ _ => ?_)
      refine w9 vi40_114 ?_
      rw [jI_N (((vl_at (σ.1 5 ((ve_ix (j : Int)))) ((i : Int))) * 3) + ((σ.2 10 ((ve_ix (j : Int))))))]
      have hz := jN_in (((vl_at (σ.1 5 ((ve_ix (j : Int)))) ((i : Int))) * 3) + ((σ.2 10 ((ve_ix (j : Int))))))
      refine c_weighMarkR (l := ((vf (vq_cv2 σ.2 (σ.1 5 (ve_ix (j : Int))) (ve_ix (j : Int))) i s).2)) (V := σ.2) (σ2 := ((vw_sr (vw_sr σ.1 19 v ((vf (vq_cv2 σ.2 (σ.1 5 (ve_ix (j : Int))) (ve_ix (j : Int))) i s).1)) 21 v (vq_wm σ.2 ((vf (vq_cv2 σ.2 (σ.1 5 (ve_ix (j : Int))) (ve_ix (j : Int))) i s).2) (ve_ix (j : Int)) (jN (((vl_at (σ.1 5 ((ve_ix (j : Int)))) ((i : Int))) * 3) + ((σ.2 10 ((ve_ix (j : Int))))))))), σ.2)) vi40_115 hv (ve_ix_le _) hz.1 hz.2 (by first | rfl | (dsimp only; repeat (first | rw [vw_sr_eq] | rw [vw_sr_ne _ _ (by omega)]))) rfl (by dsimp only; rw [vw_sr_sr]; try rfl) rfl ?_
      refine w6 (1) vi40_118 rfl (by decide) rfl ?_
      refine w5 vi40_121 ?_
      have q := ih (i + 1) (some (.int (jI (vl_at (σ.1 5 (ve_ix (j : Int))) (i : Int))))) (by omega)
      have e1 : vf (vq_cv2 σ.2 (σ.1 5 (ve_ix (j : Int))) (ve_ix (j : Int))) (i + 1) s = vq_cv2 σ.2 (σ.1 5 (ve_ix (j : Int))) (ve_ix (j : Int)) i (vf (vq_cv2 σ.2 (σ.1 5 (ve_ix (j : Int))) (ve_ix (j : Int))) i s) := rfl
      rw [e1] at q
      have e2 : vq_cv2 σ.2 (σ.1 5 (ve_ix (j : Int))) (ve_ix (j : Int)) i (vf (vq_cv2 σ.2 (σ.1 5 (ve_ix (j : Int))) (ve_ix (j : Int))) i s) = (((vf (vq_cv2 σ.2 (σ.1 5 (ve_ix (j : Int))) (ve_ix (j : Int))) i s).1), (vq_wm σ.2 ((vf (vq_cv2 σ.2 (σ.1 5 (ve_ix (j : Int))) (ve_ix (j : Int))) i s).2) (ve_ix (j : Int)) (jN (((vl_at (σ.1 5 ((ve_ix (j : Int)))) ((i : Int))) * 3) + ((σ.2 10 ((ve_ix (j : Int))))))))) := by
        unfold vq_cv2
        repeat (first | rw [if_pos (by omega)] | rw [if_neg (by omega)])
      rw [e2] at q
      exact q
theorem m_cv_loop {v : Nat} (hv : v < 2) (n0 : 0 ≤ σ.2 1 0) (n1 : σ.2 1 0 ≤ 120) (hQ : Q [] ((vw_sr (vw_sr σ.1 19 v ((vf (vq_cv1 (σ.1 5) σ.2 (σ.1 18 v)) (σ.2 1 0).toNat (vl_fill 720 ((σ.1 12 0).length : Int) 0, vl_fill 2160 (((σ.1 12 0).length : Int) * 3) (-1))).1)) 21 v ((vf (vq_cv1 (σ.1 5) σ.2 (σ.1 18 v)) (σ.2 1 0).toNat (vl_fill 720 ((σ.1 12 0).length : Int) 0, vl_fill 2160 (((σ.1 12 0).length : Int) * 3) (-1))).2)), σ.2)) : ∀ (e j : Nat) (u3 u4 u5 : Option Value), (j : Int) + e = σ.2 1 0 → vW vw_rep L xs (40, 28, [some (.ref (vw_vr v)), some (.ref 9), some (.int (jI ((j : Int)))), u3, u4, u5], []) ((vw_sr (vw_sr σ.1 19 v ((vf (vq_cv1 (σ.1 5) σ.2 (σ.1 18 v)) j (vl_fill 720 ((σ.1 12 0).length : Int) 0, vl_fill 2160 (((σ.1 12 0).length : Int) * 3) (-1))).1)) 21 v ((vf (vq_cv1 (σ.1 5) σ.2 (σ.1 18 v)) j (vl_fill 720 ((σ.1 12 0).length : Int) 0, vl_fill 2160 (((σ.1 12 0).length : Int) * 3) (-1))).2)), σ.2) Q := by
  intro e
  induction e with
  | zero =>
    intro j u3 u4 u5 hj
    refine w0 vi40_28 rfl rfl ?_
    refine w1 vi40_29 rfl rfl ?_
    refine c_countDeedsR (z := (σ.2 1 0)) vi40_30 rfl rfl ?_
    refine w8 vi40_33 (vwc_3 ⟨by omega, by omega⟩ ⟨by omega, by omega⟩) (fun h33 => ?_) (fun h33 => by exfalso; omega)
    refine w43 vi40_130 vm40.2.2.2 ?_
    rw [show j = (σ.2 1 0).toNat by omega]
    exact hQ
  | succ e ih =>
    intro j u3 u4 u5 hj
    refine w0 vi40_28 rfl rfl ?_
    refine w1 vi40_29 rfl rfl ?_
    refine c_countDeedsR (z := (σ.2 1 0)) vi40_30 rfl rfl ?_
    refine w8 vi40_33 (vwc_3 ⟨by omega, by omega⟩ ⟨by omega, by omega⟩) (fun h33 => by exfalso; omega) (fun h33 => ?_)
    refine w1 vi40_36 rfl rfl ?_
    refine w0 vi40_37 rfl rfl ?_
    refine c_deedAt vi40_38 (by first | omega | exact ve_ix_le _ | exact vk_lat_le _ _ _ _ | assumption) (by first | omega | exact ve_ix_le _ | exact vk_lat_le _ _ _ _ | assumption) rfl ?_
    refine w4 vi40_41 rfl rfl ?_
    refine w2 (0) vi40_42 (by decide) ?_
    refine w3 vi40_43 rfl rfl ?_
    have q := fun u3 u4 u5 => ih (j + 1) u3 u4 u5 (by omega)
    have e1 : (vf (vq_cv1 (σ.1 5) σ.2 (σ.1 18 v)) (j + 1) (vl_fill 720 ((σ.1 12 0).length : Int) 0, vl_fill 2160 (((σ.1 12 0).length : Int) * 3) (-1))) = vq_cv1 (σ.1 5) σ.2 (σ.1 18 v) j (vf (vq_cv1 (σ.1 5) σ.2 (σ.1 18 v)) j (vl_fill 720 ((σ.1 12 0).length : Int) 0, vl_fill 2160 (((σ.1 12 0).length : Int) * 3) (-1))) := rfl
    rw [e1] at q
    unfold vq_cv1 at q
    by_cases hef : vl_at (σ.1 18 v) (j : Int) = 1
    · simp only [if_pos hef] at q
      refine vW_lenR (l := (σ.1 5 (ve_ix (j : Int)))) (kk := 5) (i := ve_ix (j : Int)) ⟨by decide, Nat.lt_succ_of_le (ve_ix_le _)⟩ (by first | rfl | (dsimp only; repeat (first | rw [vw_sr_eq] | rw [vw_sr_ne _ _ (by omega)]))) (fun hl5 => ?_)
      refine m_cvi_loop (s := (vf (vq_cv1 (σ.1 5) σ.2 (σ.1 18 v)) j (vl_fill 720 ((σ.1 12 0).length : Int) 0, vl_fill 2160 (((σ.1 12 0).length : Int) * 3) (-1)))) hv (by omega) hl5 hef (fun u4 u5 => ?_) _ 0 _ (Nat.zero_add _)
      refine w6 (1) vi40_124 rfl (by decide) rfl ?_
      refine w5 vi40_127 ?_
      exact q _ _ _
    · simp only [if_neg hef] at q
      refine w1 vi40_45 rfl rfl ?_
      refine w14v (v := .ref (vw_rr 18 v)) vi40_46 (by first | omega | exact ve_ix_le _ | exact vk_lat_le _ _ _ _ | assumption) rfl ?_
      refine w0 vi40_49 rfl rfl ?_
      refine r_at (l := (σ.1 18 v)) vi40_50 ⟨by decide, (show v < 2 by omega)⟩ (by first | rfl | (dsimp only; repeat (first | rw [vw_sr_eq] | rw [vw_sr_ne _ _ (by omega)]))) (by first | omega | exact ve_ix_le _ | exact vk_lat_le _ _ _ _ | assumption) (by first | omega | exact ve_ix_le _ | exact vk_lat_le _ _ _ _ | assumption) rfl (fun _ _ => ?_)
      refine w2 (1) vi40_53 (by decide) ?_
      refine w8 vi40_54 (vwc_1 ⟨by omega, by omega⟩ ⟨by omega, by omega⟩) (fun h54 => ?_) (fun h54 => by exfalso; omega)
      refine w6 (1) vi40_124 rfl (by decide) rfl ?_
      refine w5 vi40_127 ?_
      exact q _ _ _
theorem m_weighCovered {v : Nat} (hv : v < 2) (n0 : 0 ≤ σ.2 1 0) (n1 : σ.2 1 0 ≤ 120) (hQ :  Q [] ((vw_sr (vw_sr σ.1 19 v ((vq_cv (σ.1 5) σ.2 (σ.1 18 v) (σ.1 12 0).length (σ.2 1 0).toNat).1)) 21 v ((vq_cv (σ.1 5) σ.2 (σ.1 18 v) (σ.1 12 0).length (σ.2 1 0).toNat).2)), σ.2)) : vW vw_rep L xs (40, 0, [some (.ref (vw_vr v)), some (.ref 9), none, none, none, none], []) σ Q := by
  refine vW_len (kk := 12) (i := 0) ⟨by decide, by decide⟩ (fun hl => ?_)
  have hl : (σ.1 12 0).length ≤ 720 := hl
  refine w1 vi40_0 rfl rfl ?_
  refine w14v (v := .ref (vw_rr 19 v)) vi40_1 (by first | omega | exact ve_ix_le _ | exact vk_lat_le _ _ _ _ | assumption) rfl ?_
  refine w1 vi40_4 rfl rfl ?_
  refine c_countCellsR (l := (σ.1 12 0)) vi40_5 (by first | rfl | (dsimp only; repeat (first | rw [vw_sr_eq] | rw [vw_sr_ne _ _ (by omega)]))) rfl ?_
  refine w2 (0) vi40_8 (by decide) ?_
  refine r_fill (l := (σ.1 19 v)) (σ2 := ((vw_sr σ.1 19 v (vl_fill (vw_cap 19) (((σ.1 12 0).length : Int)) (0))), σ.2)) vi40_9 ⟨by decide, (show v < 2 by omega)⟩ (by first | rfl | (dsimp only; repeat (first | rw [vw_sr_eq] | rw [vw_sr_ne _ _ (by omega)]))) (by first | omega | exact ve_ix_le _ | exact vk_lat_le _ _ _ _ | assumption) (by first | omega | exact ve_ix_le _ | exact vk_lat_le _ _ _ _ | assumption) (by first | omega | exact ve_ix_le _ | exact vk_lat_le _ _ _ _ | assumption) (by first | omega | exact ve_ix_le _ | exact vk_lat_le _ _ _ _ | assumption) rfl rfl ?_
  refine w1 vi40_12 rfl rfl ?_
  refine w14v (v := .ref (vw_rr 21 v)) vi40_13 (by first | omega | exact ve_ix_le _ | exact vk_lat_le _ _ _ _ | assumption) rfl ?_
  refine w1 vi40_16 rfl rfl ?_
  refine c_countCellsR (l := (σ.1 12 0)) vi40_17 (by first | rfl | (dsimp only; repeat (first | rw [vw_sr_eq] | rw [vw_sr_ne _ _ (by omega)]))) rfl ?_
  refine w2 (3) vi40_20 (by decide) ?_
  refine w11 vi40_21 ?_
  refine w2 (-1) vi40_22 (by decide) ?_
  refine r_fill (l := (σ.1 21 v)) (σ2 := ((vw_sr (vw_sr σ.1 19 v (vl_fill (vw_cap 19) (((σ.1 12 0).length : Int)) (0))) 21 v (vl_fill (vw_cap 21) ((((σ.1 12 0).length : Int)) * 3) ((-1)))), σ.2)) vi40_23 ⟨by decide, (show v < 2 by omega)⟩ (by first | rfl | (dsimp only; repeat (first | rw [vw_sr_eq] | rw [vw_sr_ne _ _ (by omega)]))) (by first | omega | exact ve_ix_le _ | exact vk_lat_le _ _ _ _ | assumption) (by first | omega | exact ve_ix_le _ | exact vk_lat_le _ _ _ _ | assumption) (by first | omega | exact ve_ix_le _ | exact vk_lat_le _ _ _ _ | assumption) (by first | omega | exact ve_ix_le _ | exact vk_lat_le _ _ _ _ | assumption) rfl rfl ?_
  refine w2 (0) vi40_26 (by decide) ?_
  refine w3 vi40_27 rfl rfl ?_
  exact m_cv_loop hv n0 n1 hQ (σ.2 1 0).toNat 0 _ _ _ (by omega)
theorem c_weighCovered (hc : vt_code k pc = (27, 40, b, c)) {v : Nat} (hv : v < 2) (n0 : 0 ≤ σ.2 1 0) (n1 : σ.2 1 0 ≤ 120) (hs : Nat.ble (vj_cat sc) 8 = true) (hQ :  vW vw_rep L xs (k, pc + 3, lc, sc) ((vw_sr (vw_sr σ.1 19 v ((vq_cv (σ.1 5) σ.2 (σ.1 18 v) (σ.1 12 0).length (σ.2 1 0).toNat).1)) 21 v ((vq_cv (σ.1 5) σ.2 (σ.1 18 v) (σ.1 12 0).length (σ.2 1 0).toNat).2)), σ.2) Q) : vW vw_rep L xs (k, pc, lc, .ref 9 :: .ref (vw_vr v) :: sc) σ Q := by
  refine w27 (n := 2) (vs := [.ref 9, .ref (vw_vr v)]) hc vm40.2.1 rfl (by rw [vm40.2.2.1]; rfl) hs (by simp only [List.length_cons]; omega) ⟨_, rfl⟩ (fun M hM => hM.2.2.2.2.1 _ hv) (vw_tb_lt (vw_view hv) (by omega)) vm40.1 ?_
  rw [vm40.2.2.1]
  exact m_weighCovered hv n0 n1 (Q := fun v σ1 => vW vw_rep L xs (k, pc + 3, lc, v ++ sc) σ1 Q) hQ
theorem m_ga_loop {v : Nat} (hv : v < 2) (hQ : Q [] ((vw_sr (vw_sr (vw_sr σ.1 15 v ((vf (vq_ga1 (σ.1 13 0) (σ.1 14 0) (σ.1 17 v) (σ.1 18 v) (σ.1 19 v)) (σ.1 12 0).length ([], [], vl_fill 720 ((σ.1 12 0).length : Int) 0)).1)) 16 v ((vf (vq_ga1 (σ.1 13 0) (σ.1 14 0) (σ.1 17 v) (σ.1 18 v) (σ.1 19 v)) (σ.1 12 0).length ([], [], vl_fill 720 ((σ.1 12 0).length : Int) 0)).2.1)) 20 v ((vf (vq_ga1 (σ.1 13 0) (σ.1 14 0) (σ.1 17 v) (σ.1 18 v) (σ.1 19 v)) (σ.1 12 0).length ([], [], vl_fill 720 ((σ.1 12 0).length : Int) 0)).2.2)), σ.2)) : ∀ (e j : Nat) (u3 u4 : Option Value), j + e = (σ.1 12 0).length → vW vw_rep L xs (42, 28, [some (.ref (vw_vr v)), some (.ref 9), some (.int (jI ((j : Int)))), u3, u4], []) ((vw_sr (vw_sr (vw_sr σ.1 15 v ((vf (vq_ga1 (σ.1 13 0) (σ.1 14 0) (σ.1 17 v) (σ.1 18 v) (σ.1 19 v)) j ([], [], vl_fill 720 ((σ.1 12 0).length : Int) 0)).1)) 16 v ((vf (vq_ga1 (σ.1 13 0) (σ.1 14 0) (σ.1 17 v) (σ.1 18 v) (σ.1 19 v)) j ([], [], vl_fill 720 ((σ.1 12 0).length : Int) 0)).2.1)) 20 v ((vf (vq_ga1 (σ.1 13 0) (σ.1 14 0) (σ.1 17 v) (σ.1 18 v) (σ.1 19 v)) j ([], [], vl_fill 720 ((σ.1 12 0).length : Int) 0)).2.2)), σ.2) Q := by
  intro e
  induction e with
  | zero =>
    intro j u3 u4 hj
    refine vW_lenR (l := σ.1 12 0) (kk := 12) (i := 0) ⟨by decide, by decide⟩ (by first | rfl | (dsimp only; repeat (first | rw [vw_sr_eq] | rw [vw_sr_ne _ _ (by omega)]))) (fun hl => ?_)
    have hl : (σ.1 12 0).length ≤ 720 := hl
    refine w0 vi42_28 rfl rfl ?_
    refine w1 vi42_29 rfl rfl ?_
    refine c_countCellsR (l := (σ.1 12 0)) vi42_30 (by first | rfl | (dsimp only; repeat (first | rw [vw_sr_eq] | rw [vw_sr_ne _ _ (by omega)]))) rfl ?_
    refine w8 vi42_33 (vwc_3 ⟨by omega, by omega⟩ ⟨by omega, by omega⟩) (fun h33 => ?_) (fun h33 => by exfalso; omega)
    refine w43 vi42_127 vm42.2.2.2 ?_
    rw [show j = (σ.1 12 0).length by omega]
    exact hQ
  | succ e ih =>
    intro j u3 u4 hj
    have hpl := vd_pl_in (ve_ix (vl_at (σ.1 13 0) (vl_at (σ.1 14 0) (j : Int)))) (ve_ix_le _)
    refine vW_lenR (l := σ.1 12 0) (kk := 12) (i := 0) ⟨by decide, by decide⟩ (by first | rfl | (dsimp only; repeat (first | rw [vw_sr_eq] | rw [vw_sr_ne _ _ (by omega)]))) (fun hl => ?_)
    have hl : (σ.1 12 0).length ≤ 720 := hl
    refine w0 vi42_28 rfl rfl ?_
    refine w1 vi42_29 rfl rfl ?_
    refine c_countCellsR (l := (σ.1 12 0)) vi42_30 (by first | rfl | (dsimp only; repeat (first | rw [vw_sr_eq] | rw [vw_sr_ne _ _ (by omega)]))) rfl ?_
    refine w8 vi42_33 (vwc_3 ⟨by omega, by omega⟩ ⟨by omega, by omega⟩) (fun h33 => by exfalso; omega) (fun h33 => ?_)
    refine w1 vi42_36 rfl rfl ?_
    refine w14h (v := .ref (vw_rr 14 0)) vi42_37  rfl ?_
    refine w0 vi42_40 rfl rfl ?_
    refine r_at (l := (σ.1 14 0)) vi42_41 ⟨by decide, (show 0 < 1 by omega)⟩ (by first | rfl | (dsimp only; repeat (first | rw [vw_sr_eq] | rw [vw_sr_ne _ _ (by omega)]))) (by first | omega | exact ve_ix_le _ | exact vk_lat_le _ _ _ _ | assumption) (by first | omega | exact ve_ix_le _ | exact vk_lat_le _ _ _ _ | assumption) rfl (fun _ _ => ?_)
    refine w3 vi42_44 rfl rfl ?_
    refine w1 vi42_45 rfl rfl ?_
    refine w0 vi42_46 rfl rfl ?_
    refine c_typeOfR (l := (σ.1 13 0)) vi42_47 (by first | rfl | (dsimp only; repeat (first | rw [vw_sr_eq] | rw [vw_sr_ne _ _ (by omega)]))) (by first | omega | exact ve_ix_le _ | exact vk_lat_le _ _ _ _ | assumption) (by first | omega | exact ve_ix_le _ | exact vk_lat_le _ _ _ _ | assumption) rfl ?_
    refine w14d (v := .int (jI ((vd_pl (ve_ix (vl_at (σ.1 13 0) (vl_at (σ.1 14 0) ((j : Int))))))))) vi42_50 (by first | omega | exact ve_ix_le _ | exact vk_lat_le _ _ _ _ | assumption) rfl ?_
    refine w3 vi42_53 rfl rfl ?_
    refine w1 vi42_55 rfl rfl ?_
    refine w14v (v := .ref (vw_rr 17 v)) vi42_56 (by first | omega | exact ve_ix_le _ | exact vk_lat_le _ _ _ _ | assumption) rfl ?_
    refine w0 vi42_59 rfl rfl ?_
    refine r_at (l := (σ.1 17 v)) vi42_61 ⟨by decide, (show v < 2 by omega)⟩ (by first | rfl | (dsimp only; repeat (first | rw [vw_sr_eq] | rw [vw_sr_ne _ _ (by omega)]))) (by first | omega | exact ve_ix_le _ | exact vk_lat_le _ _ _ _ | assumption) (by first | omega | exact ve_ix_le _ | exact vk_lat_le _ _ _ _ | assumption) rfl (fun _ _ => ?_)
    refine w2 (1) vi42_64 (by decide) ?_
    refine w8 vi42_65 (vwc_0 ⟨by omega, by omega⟩ ⟨by omega, by omega⟩) (fun h65 => ?_) (fun h65 => ?_)
    ·
      refine w1 vi42_71 rfl rfl ?_
      refine w14v (v := .ref (vw_rr 15 v)) vi42_72 (by first | omega | exact ve_ix_le _ | exact vk_lat_le _ _ _ _ | assumption) rfl ?_
      refine w0 vi42_75 rfl rfl ?_
      refine r_add (l := ((vf (vq_ga1 (σ.1 13 0) (σ.1 14 0) (σ.1 17 v) (σ.1 18 v) (σ.1 19 v)) j ([], [], vl_fill 720 ((σ.1 12 0).length : Int) 0)).1)) (σ2 := ((vw_sr (vw_sr (vw_sr σ.1 15 v (vl_add (vw_cap 15) ((vf (vq_ga1 (σ.1 13 0) (σ.1 14 0) (σ.1 17 v) (σ.1 18 v) (σ.1 19 v)) j ([], [], vl_fill 720 ((σ.1 12 0).length : Int) 0)).1) (vl_at (σ.1 14 0) ((j : Int))))) 16 v ((vf (vq_ga1 (σ.1 13 0) (σ.1 14 0) (σ.1 17 v) (σ.1 18 v) (σ.1 19 v)) j ([], [], vl_fill 720 ((σ.1 12 0).length : Int) 0)).2.1)) 20 v ((vf (vq_ga1 (σ.1 13 0) (σ.1 14 0) (σ.1 17 v) (σ.1 18 v) (σ.1 19 v)) j ([], [], vl_fill 720 ((σ.1 12 0).length : Int) 0)).2.2)), σ.2)) vi42_76 ⟨by decide, (show v < 2 by omega)⟩ (by first | rfl | (dsimp only; repeat (first | rw [vw_sr_eq] | rw [vw_sr_ne _ _ (by omega)]))) (by first | omega | exact ve_ix_le _ | exact vk_lat_le _ _ _ _ | assumption) (by first | omega | exact ve_ix_le _ | exact vk_lat_le _ _ _ _ | assumption) (by dsimp only; rw [vw_sr_cm _ 20 v _ 15 v _ (by omega), vw_sr_cm _ 16 v _ 15 v _ (by omega), vw_sr_sr]; try rfl) rfl ?_
      refine w1 vi42_79 rfl rfl ?_
      refine w14v (v := .ref (vw_rr 18 v)) vi42_80 (by first | omega | exact ve_ix_le _ | exact vk_lat_le _ _ _ _ | assumption) rfl ?_
      refine w0 vi42_83 rfl rfl ?_
      refine r_at (l := (σ.1 18 v)) vi42_85 ⟨by decide, (show v < 2 by omega)⟩ (by first | rfl | (dsimp only; repeat (first | rw [vw_sr_eq] | rw [vw_sr_ne _ _ (by omega)]))) (by first | omega | exact ve_ix_le _ | exact vk_lat_le _ _ _ _ | assumption) (by first | omega | exact ve_ix_le _ | exact vk_lat_le _ _ _ _ | assumption) rfl (fun _ _ => ?_)
      refine w2 (1) vi42_88 (by decide) ?_
      refine w8 vi42_89 (vwc_1 ⟨by omega, by omega⟩ ⟨by omega, by omega⟩) (fun h89 => ?_) (fun h89 => ?_)
      ·
        refine w6 (1) vi42_121 rfl (by decide) rfl ?_
        refine w5 vi42_124 ?_
        have q := ih (j + 1) (some (.int (jI (vl_at (σ.1 14 0) (j : Int))))) (some (.int (jI (vd_pl (ve_ix (vl_at (σ.1 13 0) (vl_at (σ.1 14 0) (j : Int)))))))) (by omega)
        have e1 : (vf (vq_ga1 (σ.1 13 0) (σ.1 14 0) (σ.1 17 v) (σ.1 18 v) (σ.1 19 v)) (j + 1) ([], [], vl_fill 720 ((σ.1 12 0).length : Int) 0)) = vq_ga1 (σ.1 13 0) (σ.1 14 0) (σ.1 17 v) (σ.1 18 v) (σ.1 19 v) j (vf (vq_ga1 (σ.1 13 0) (σ.1 14 0) (σ.1 17 v) (σ.1 18 v) (σ.1 19 v)) j ([], [], vl_fill 720 ((σ.1 12 0).length : Int) 0)) := rfl
        rw [e1] at q
        have e2 : vq_ga1 (σ.1 13 0) (σ.1 14 0) (σ.1 17 v) (σ.1 18 v) (σ.1 19 v) j (vf (vq_ga1 (σ.1 13 0) (σ.1 14 0) (σ.1 17 v) (σ.1 18 v) (σ.1 19 v)) j ([], [], vl_fill 720 ((σ.1 12 0).length : Int) 0)) = ((vl_add 720 ((vf (vq_ga1 (σ.1 13 0) (σ.1 14 0) (σ.1 17 v) (σ.1 18 v) (σ.1 19 v)) j ([], [], vl_fill 720 ((σ.1 12 0).length : Int) 0)).1) (vl_at (σ.1 14 0) ((j : Int)))), ((vf (vq_ga1 (σ.1 13 0) (σ.1 14 0) (σ.1 17 v) (σ.1 18 v) (σ.1 19 v)) j ([], [], vl_fill 720 ((σ.1 12 0).length : Int) 0)).2.1), ((vf (vq_ga1 (σ.1 13 0) (σ.1 14 0) (σ.1 17 v) (σ.1 18 v) (σ.1 19 v)) j ([], [], vl_fill 720 ((σ.1 12 0).length : Int) 0)).2.2)) := by
          unfold vq_ga1
          repeat (first | rw [if_pos (by omega)] | rw [if_neg (by omega)])
        rw [e2] at q
        exact q
      ·
        refine w1 vi42_92 rfl rfl ?_
        refine w14v (v := .ref (vw_rr 19 v)) vi42_93 (by first | omega | exact ve_ix_le _ | exact vk_lat_le _ _ _ _ | assumption) rfl ?_
        refine w0 vi42_96 rfl rfl ?_
        refine r_at (l := (σ.1 19 v)) vi42_97 ⟨by decide, (show v < 2 by omega)⟩ (by first | rfl | (dsimp only; repeat (first | rw [vw_sr_eq] | rw [vw_sr_ne _ _ (by omega)]))) (by first | omega | exact ve_ix_le _ | exact vk_lat_le _ _ _ _ | assumption) (by first | omega | exact ve_ix_le _ | exact vk_lat_le _ _ _ _ | assumption) rfl (fun _ _ => ?_)
        refine w2 (1) vi42_100 (by decide) ?_
        refine w8 vi42_101 (vwc_0 ⟨by omega, by omega⟩ ⟨by omega, by omega⟩) (fun h101 => ?_) (fun h101 => ?_)
        ·
          refine w6 (1) vi42_121 rfl (by decide) rfl ?_
          refine w5 vi42_124 ?_
          have q := ih (j + 1) (some (.int (jI (vl_at (σ.1 14 0) (j : Int))))) (some (.int (jI (vd_pl (ve_ix (vl_at (σ.1 13 0) (vl_at (σ.1 14 0) (j : Int)))))))) (by omega)
          have e1 : (vf (vq_ga1 (σ.1 13 0) (σ.1 14 0) (σ.1 17 v) (σ.1 18 v) (σ.1 19 v)) (j + 1) ([], [], vl_fill 720 ((σ.1 12 0).length : Int) 0)) = vq_ga1 (σ.1 13 0) (σ.1 14 0) (σ.1 17 v) (σ.1 18 v) (σ.1 19 v) j (vf (vq_ga1 (σ.1 13 0) (σ.1 14 0) (σ.1 17 v) (σ.1 18 v) (σ.1 19 v)) j ([], [], vl_fill 720 ((σ.1 12 0).length : Int) 0)) := rfl
          rw [e1] at q
          have e2 : vq_ga1 (σ.1 13 0) (σ.1 14 0) (σ.1 17 v) (σ.1 18 v) (σ.1 19 v) j (vf (vq_ga1 (σ.1 13 0) (σ.1 14 0) (σ.1 17 v) (σ.1 18 v) (σ.1 19 v)) j ([], [], vl_fill 720 ((σ.1 12 0).length : Int) 0)) = ((vl_add 720 ((vf (vq_ga1 (σ.1 13 0) (σ.1 14 0) (σ.1 17 v) (σ.1 18 v) (σ.1 19 v)) j ([], [], vl_fill 720 ((σ.1 12 0).length : Int) 0)).1) (vl_at (σ.1 14 0) ((j : Int)))), ((vf (vq_ga1 (σ.1 13 0) (σ.1 14 0) (σ.1 17 v) (σ.1 18 v) (σ.1 19 v)) j ([], [], vl_fill 720 ((σ.1 12 0).length : Int) 0)).2.1), ((vf (vq_ga1 (σ.1 13 0) (σ.1 14 0) (σ.1 17 v) (σ.1 18 v) (σ.1 19 v)) j ([], [], vl_fill 720 ((σ.1 12 0).length : Int) 0)).2.2)) := by
            unfold vq_ga1
            repeat (first | rw [if_pos (by omega)] | rw [if_neg (by omega)])
          rw [e2] at q
          exact q
        ·
          refine w1 vi42_104 rfl rfl ?_
          refine w14v (v := .ref (vw_rr 20 v)) vi42_105 (by first | omega | exact ve_ix_le _ | exact vk_lat_le _ _ _ _ | assumption) rfl ?_
          refine w0 vi42_108 rfl rfl ?_
          refine w2 (1) vi42_109 (by decide) ?_
          refine r_put (l := ((vf (vq_ga1 (σ.1 13 0) (σ.1 14 0) (σ.1 17 v) (σ.1 18 v) (σ.1 19 v)) j ([], [], vl_fill 720 ((σ.1 12 0).length : Int) 0)).2.2)) (σ2 := ((vw_sr (vw_sr (vw_sr σ.1 15 v (vl_add (vw_cap 15) ((vf (vq_ga1 (σ.1 13 0) (σ.1 14 0) (σ.1 17 v) (σ.1 18 v) (σ.1 19 v)) j ([], [], vl_fill 720 ((σ.1 12 0).length : Int) 0)).1) (vl_at (σ.1 14 0) ((j : Int))))) 16 v ((vf (vq_ga1 (σ.1 13 0) (σ.1 14 0) (σ.1 17 v) (σ.1 18 v) (σ.1 19 v)) j ([], [], vl_fill 720 ((σ.1 12 0).length : Int) 0)).2.1)) 20 v (vl_put ((vf (vq_ga1 (σ.1 13 0) (σ.1 14 0) (σ.1 17 v) (σ.1 18 v) (σ.1 19 v)) j ([], [], vl_fill 720 ((σ.1 12 0).length : Int) 0)).2.2) (vl_at (σ.1 14 0) ((j : Int))) (1))), σ.2)) vi42_110 ⟨by decide, (show v < 2 by omega)⟩ (by first | rfl | (dsimp only; repeat (first | rw [vw_sr_eq] | rw [vw_sr_ne _ _ (by omega)]))) (by first | omega | exact ve_ix_le _ | exact vk_lat_le _ _ _ _ | assumption) (by first | omega | exact ve_ix_le _ | exact vk_lat_le _ _ _ _ | assumption) (by first | omega | exact ve_ix_le _ | exact vk_lat_le _ _ _ _ | assumption) (by first | omega | exact ve_ix_le _ | exact vk_lat_le _ _ _ _ | assumption) (by dsimp only; rw [vw_sr_sr]; try rfl) rfl ?_
          refine w1 vi42_113 rfl rfl ?_
          refine w14v (v := .ref (vw_rr 16 v)) vi42_114 (by first | omega | exact ve_ix_le _ | exact vk_lat_le _ _ _ _ | assumption) rfl ?_
          refine w0 vi42_117 rfl rfl ?_
          refine r_add (l := ((vf (vq_ga1 (σ.1 13 0) (σ.1 14 0) (σ.1 17 v) (σ.1 18 v) (σ.1 19 v)) j ([], [], vl_fill 720 ((σ.1 12 0).length : Int) 0)).2.1)) (σ2 := ((vw_sr (vw_sr (vw_sr σ.1 15 v (vl_add (vw_cap 15) ((vf (vq_ga1 (σ.1 13 0) (σ.1 14 0) (σ.1 17 v) (σ.1 18 v) (σ.1 19 v)) j ([], [], vl_fill 720 ((σ.1 12 0).length : Int) 0)).1) (vl_at (σ.1 14 0) ((j : Int))))) 16 v (vl_add (vw_cap 16) ((vf (vq_ga1 (σ.1 13 0) (σ.1 14 0) (σ.1 17 v) (σ.1 18 v) (σ.1 19 v)) j ([], [], vl_fill 720 ((σ.1 12 0).length : Int) 0)).2.1) (vl_at (σ.1 14 0) ((j : Int))))) 20 v (vl_put ((vf (vq_ga1 (σ.1 13 0) (σ.1 14 0) (σ.1 17 v) (σ.1 18 v) (σ.1 19 v)) j ([], [], vl_fill 720 ((σ.1 12 0).length : Int) 0)).2.2) (vl_at (σ.1 14 0) ((j : Int))) (1))), σ.2)) vi42_118 ⟨by decide, (show v < 2 by omega)⟩ (by first | rfl | (dsimp only; repeat (first | rw [vw_sr_eq] | rw [vw_sr_ne _ _ (by omega)]))) (by first | omega | exact ve_ix_le _ | exact vk_lat_le _ _ _ _ | assumption) (by first | omega | exact ve_ix_le _ | exact vk_lat_le _ _ _ _ | assumption) (by dsimp only; rw [vw_sr_cm _ 20 v _ 16 v _ (by omega), vw_sr_sr]; try rfl) rfl ?_
          refine w6 (1) vi42_121 rfl (by decide) rfl ?_
          refine w5 vi42_124 ?_
          have q := ih (j + 1) (some (.int (jI (vl_at (σ.1 14 0) (j : Int))))) (some (.int (jI (vd_pl (ve_ix (vl_at (σ.1 13 0) (vl_at (σ.1 14 0) (j : Int)))))))) (by omega)
          have e1 : (vf (vq_ga1 (σ.1 13 0) (σ.1 14 0) (σ.1 17 v) (σ.1 18 v) (σ.1 19 v)) (j + 1) ([], [], vl_fill 720 ((σ.1 12 0).length : Int) 0)) = vq_ga1 (σ.1 13 0) (σ.1 14 0) (σ.1 17 v) (σ.1 18 v) (σ.1 19 v) j (vf (vq_ga1 (σ.1 13 0) (σ.1 14 0) (σ.1 17 v) (σ.1 18 v) (σ.1 19 v)) j ([], [], vl_fill 720 ((σ.1 12 0).length : Int) 0)) := rfl
          rw [e1] at q
          have e2 : vq_ga1 (σ.1 13 0) (σ.1 14 0) (σ.1 17 v) (σ.1 18 v) (σ.1 19 v) j (vf (vq_ga1 (σ.1 13 0) (σ.1 14 0) (σ.1 17 v) (σ.1 18 v) (σ.1 19 v)) j ([], [], vl_fill 720 ((σ.1 12 0).length : Int) 0)) = ((vl_add 720 ((vf (vq_ga1 (σ.1 13 0) (σ.1 14 0) (σ.1 17 v) (σ.1 18 v) (σ.1 19 v)) j ([], [], vl_fill 720 ((σ.1 12 0).length : Int) 0)).1) (vl_at (σ.1 14 0) ((j : Int)))), (vl_add 720 ((vf (vq_ga1 (σ.1 13 0) (σ.1 14 0) (σ.1 17 v) (σ.1 18 v) (σ.1 19 v)) j ([], [], vl_fill 720 ((σ.1 12 0).length : Int) 0)).2.1) (vl_at (σ.1 14 0) ((j : Int)))), (vl_put ((vf (vq_ga1 (σ.1 13 0) (σ.1 14 0) (σ.1 17 v) (σ.1 18 v) (σ.1 19 v)) j ([], [], vl_fill 720 ((σ.1 12 0).length : Int) 0)).2.2) (vl_at (σ.1 14 0) ((j : Int))) (1))) := by
            unfold vq_ga1
            repeat (first | rw [if_pos (by omega)] | rw [if_neg (by omega)])
          rw [e2] at q
          exact q
    ·
      refine w5 vi42_68 ?_
      refine w6 (1) vi42_121 rfl (by decide) rfl ?_
      refine w5 vi42_124 ?_
      have q := ih (j + 1) (some (.int (jI (vl_at (σ.1 14 0) (j : Int))))) (some (.int (jI (vd_pl (ve_ix (vl_at (σ.1 13 0) (vl_at (σ.1 14 0) (j : Int)))))))) (by omega)
      have e1 : (vf (vq_ga1 (σ.1 13 0) (σ.1 14 0) (σ.1 17 v) (σ.1 18 v) (σ.1 19 v)) (j + 1) ([], [], vl_fill 720 ((σ.1 12 0).length : Int) 0)) = vq_ga1 (σ.1 13 0) (σ.1 14 0) (σ.1 17 v) (σ.1 18 v) (σ.1 19 v) j (vf (vq_ga1 (σ.1 13 0) (σ.1 14 0) (σ.1 17 v) (σ.1 18 v) (σ.1 19 v)) j ([], [], vl_fill 720 ((σ.1 12 0).length : Int) 0)) := rfl
      rw [e1] at q
      have e2 : vq_ga1 (σ.1 13 0) (σ.1 14 0) (σ.1 17 v) (σ.1 18 v) (σ.1 19 v) j (vf (vq_ga1 (σ.1 13 0) (σ.1 14 0) (σ.1 17 v) (σ.1 18 v) (σ.1 19 v)) j ([], [], vl_fill 720 ((σ.1 12 0).length : Int) 0)) = (((vf (vq_ga1 (σ.1 13 0) (σ.1 14 0) (σ.1 17 v) (σ.1 18 v) (σ.1 19 v)) j ([], [], vl_fill 720 ((σ.1 12 0).length : Int) 0)).1), ((vf (vq_ga1 (σ.1 13 0) (σ.1 14 0) (σ.1 17 v) (σ.1 18 v) (σ.1 19 v)) j ([], [], vl_fill 720 ((σ.1 12 0).length : Int) 0)).2.1), ((vf (vq_ga1 (σ.1 13 0) (σ.1 14 0) (σ.1 17 v) (σ.1 18 v) (σ.1 19 v)) j ([], [], vl_fill 720 ((σ.1 12 0).length : Int) 0)).2.2)) := by
        unfold vq_ga1
        repeat (first | rw [if_pos (by omega)] | rw [if_neg (by omega)])
      rw [e2] at q
      exact q
theorem m_gatherCells {v : Nat} (hv : v < 2) (hQ :  Q [] ((vw_sr (vw_sr (vw_sr σ.1 15 v ((vq_ga (σ.1 13 0) (σ.1 14 0) (σ.1 17 v) (σ.1 18 v) (σ.1 19 v) (σ.1 12 0).length (σ.1 12 0).length).1)) 16 v ((vq_ga (σ.1 13 0) (σ.1 14 0) (σ.1 17 v) (σ.1 18 v) (σ.1 19 v) (σ.1 12 0).length (σ.1 12 0).length).2.1)) 20 v ((vq_ga (σ.1 13 0) (σ.1 14 0) (σ.1 17 v) (σ.1 18 v) (σ.1 19 v) (σ.1 12 0).length (σ.1 12 0).length).2.2)), σ.2)) : vW vw_rep L xs (42, 0, [some (.ref (vw_vr v)), some (.ref 9), none, none, none], []) σ Q := by
  refine vW_len (kk := 12) (i := 0) ⟨by decide, by decide⟩ (fun hl => ?_)
  have hl : (σ.1 12 0).length ≤ 720 := hl
  refine w1 vi42_0 rfl rfl ?_
  refine w14v (v := .ref (vw_rr 15 v)) vi42_1 (by first | omega | exact ve_ix_le _ | exact vk_lat_le _ _ _ _ | assumption) rfl ?_
  refine r_clear (l := (σ.1 15 v)) (σ2 := ((vw_sr σ.1 15 v (([] : List Int))), σ.2)) vi42_4 ⟨by decide, (show v < 2 by omega)⟩ (by first | rfl | (dsimp only; repeat (first | rw [vw_sr_eq] | rw [vw_sr_ne _ _ (by omega)]))) rfl rfl ?_
  refine w1 vi42_7 rfl rfl ?_
  refine w14v (v := .ref (vw_rr 16 v)) vi42_8 (by first | omega | exact ve_ix_le _ | exact vk_lat_le _ _ _ _ | assumption) rfl ?_
  refine r_clear (l := (σ.1 16 v)) (σ2 := ((vw_sr (vw_sr σ.1 15 v (([] : List Int))) 16 v (([] : List Int))), σ.2)) vi42_11 ⟨by decide, (show v < 2 by omega)⟩ (by first | rfl | (dsimp only; repeat (first | rw [vw_sr_eq] | rw [vw_sr_ne _ _ (by omega)]))) rfl rfl ?_
  refine w1 vi42_14 rfl rfl ?_
  refine w14v (v := .ref (vw_rr 20 v)) vi42_15 (by first | omega | exact ve_ix_le _ | exact vk_lat_le _ _ _ _ | assumption) rfl ?_
  refine w1 vi42_18 rfl rfl ?_
  refine c_countCellsR (l := (σ.1 12 0)) vi42_19 (by first | rfl | (dsimp only; repeat (first | rw [vw_sr_eq] | rw [vw_sr_ne _ _ (by omega)]))) rfl ?_
  refine w2 (0) vi42_22 (by decide) ?_
  refine r_fill (l := (σ.1 20 v)) (σ2 := ((vw_sr (vw_sr (vw_sr σ.1 15 v (([] : List Int))) 16 v (([] : List Int))) 20 v (vl_fill (vw_cap 20) (((σ.1 12 0).length : Int)) (0))), σ.2)) vi42_23 ⟨by decide, (show v < 2 by omega)⟩ (by first | rfl | (dsimp only; repeat (first | rw [vw_sr_eq] | rw [vw_sr_ne _ _ (by omega)]))) (by first | omega | exact ve_ix_le _ | exact vk_lat_le _ _ _ _ | assumption) (by first | omega | exact ve_ix_le _ | exact vk_lat_le _ _ _ _ | assumption) (by first | omega | exact ve_ix_le _ | exact vk_lat_le _ _ _ _ | assumption) (by first | omega | exact ve_ix_le _ | exact vk_lat_le _ _ _ _ | assumption) rfl rfl ?_
  refine w2 (0) vi42_26 (by decide) ?_
  refine w3 vi42_27 rfl rfl ?_
  exact m_ga_loop hv hQ _ 0 _ _ (Nat.zero_add _)
theorem c_gatherCells (hc : vt_code k pc = (27, 42, b, c)) {v : Nat} (hv : v < 2) (hs : Nat.ble (vj_cat sc) 8 = true) (hQ :  vW vw_rep L xs (k, pc + 3, lc, sc) ((vw_sr (vw_sr (vw_sr σ.1 15 v ((vq_ga (σ.1 13 0) (σ.1 14 0) (σ.1 17 v) (σ.1 18 v) (σ.1 19 v) (σ.1 12 0).length (σ.1 12 0).length).1)) 16 v ((vq_ga (σ.1 13 0) (σ.1 14 0) (σ.1 17 v) (σ.1 18 v) (σ.1 19 v) (σ.1 12 0).length (σ.1 12 0).length).2.1)) 20 v ((vq_ga (σ.1 13 0) (σ.1 14 0) (σ.1 17 v) (σ.1 18 v) (σ.1 19 v) (σ.1 12 0).length (σ.1 12 0).length).2.2)), σ.2) Q) : vW vw_rep L xs (k, pc, lc, .ref 9 :: .ref (vw_vr v) :: sc) σ Q := by
  refine w27 (n := 2) (vs := [.ref 9, .ref (vw_vr v)]) hc vm42.2.1 rfl (by rw [vm42.2.2.1]; rfl) hs (by simp only [List.length_cons]; omega) ⟨_, rfl⟩ (fun M hM => hM.2.2.2.2.1 _ hv) (vw_tb_lt (vw_view hv) (by omega)) vm42.1 ?_
  rw [vm42.2.2.1]
  exact m_gatherCells hv (Q := fun v σ1 => vW vw_rep L xs (k, pc + 3, lc, v ++ sc) σ1 Q) hQ
end VW11
