/-! ===== what a writer sees: reading ===== -/
section VW10
def vd_pl (d : Nat) : Int := if d = 120 then -1 else (d : Int)
theorem vd_pl_in (d : Nat) (h : d ≤ 120) : -1 ≤ vd_pl d ∧ vd_pl d < 120 := by unfold vd_pl; split <;> omega
def vq_ef1 (V : Nat → Nat → Int) (Kn : List Int) (j : Nat) (e : List Int) : List Int := if vl_at Kn (j : Int) = 1 then (if (V 4 (ve_ix (j : Int))).toNat = 3 then vl_put e (V 9 (ve_ix (j : Int))) 0 else if (V 4 (ve_ix (j : Int))).toNat = 4 then vl_put e (V 9 (ve_ix (j : Int))) 1 else vl_put e (j : Int) 1) else e
def vq_ef (V : Nat → Nat → Int) (Kn : List Int) (n : Nat) : List Int := vf (vq_ef1 V Kn) n (vl_fill 120 (V 1 0) 0)
def vq_rk (V : Nat → Nat → Int) (d : Nat) : Int := V 7 d * 6 + V 5 d
def vq_wm (V : Nat → Nat → Int) (dec : List Int) (d : Nat) (z : Int) : List Int := if vl_at dec z = -1 ∨ jI (vq_rk V (ve_ix (vl_at dec z))) < jI (vq_rk V d) then vl_put dec z (vd_pl d) else dec
def vq_cv2 (V : Nat → Nat → Int) (l : List Int) (d : Nat) (i : Nat) (s : List Int × List Int) : List Int × List Int := if (V 4 d).toNat = 1 then (vl_put s.1 (vl_at l (i : Int)) 1, s.2) else (s.1, vq_wm V s.2 d (jN (vl_at l (i : Int) * 3 + V 10 d)))
def vq_cv1 (R5 : Nat → List Int) (V : Nat → Nat → Int) (ef : List Int) (j : Nat) (s : List Int × List Int) : List Int × List Int := if vl_at ef (j : Int) = 1 then vf (vq_cv2 V (R5 (ve_ix (j : Int))) (ve_ix (j : Int))) (R5 (ve_ix (j : Int))).length s else s
def vq_cv (R5 : Nat → List Int) (V : Nat → Nat → Int) (ef : List Int) (c n : Nat) : List Int × List Int := vf (vq_cv1 R5 V ef) n (vl_fill 720 (c : Int) 0, vl_fill 2160 ((c : Int) * 3) (-1))
def vq_ga1 (r13 r14 Kn ef er : List Int) (j : Nat) (s : List Int × List Int × List Int) : List Int × List Int × List Int :=
  if vl_at Kn (vd_pl (ve_ix (vl_at r13 (vl_at r14 (j : Int))))) = 1 then
    if vl_at ef (vd_pl (ve_ix (vl_at r13 (vl_at r14 (j : Int))))) = 1 ∧ ¬ vl_at er (vl_at r14 (j : Int)) = 1 then (vl_add 720 s.1 (vl_at r14 (j : Int)), vl_add 720 s.2.1 (vl_at r14 (j : Int)), vl_put s.2.2 (vl_at r14 (j : Int)) 1)
    else (vl_add 720 s.1 (vl_at r14 (j : Int)), s.2.1, s.2.2)
  else s
def vq_ga (r13 r14 Kn ef er : List Int) (c : Nat) (n : Nat) : List Int × List Int × List Int := vf (vq_ga1 r13 r14 Kn ef er) n ([], [], vl_fill 720 (c : Int) 0)
def vq_kn (z : Int) (l : List Int) (n : Nat) : List Int := vf (fun j e => vl_put e (vl_at l (j : Int)) 1) n (vl_fill 120 z 0)
variable {L : Nat} {xs : Nat → Int32} {σ σ2 : vw_S} {Q : List Value → vw_S → Prop} {k pc a b c kk i : Nat} {lc : List (Option Value)} {sc : List Value} {fr : vj_F} {l : List Int} {V : Nat → Nat → Int} {z y : Int}
theorem vw_sr_cm (R : Nat → Nat → List Int) (k i : Nat) (l : List Int) (k2 i2 : Nat) (l2 : List Int) (h : ¬ (k = k2 ∧ i = i2)) : vw_sr (vw_sr R k i l) k2 i2 l2 = vw_sr (vw_sr R k2 i2 l2) k i l := by
  funext k' i'
  unfold vw_sr
  by_cases e : k' = k2 ∧ i' = i2
  · rw [if_pos e, if_neg (by omega), if_pos e]
  · rw [if_neg e]
    by_cases e2 : k' = k ∧ i' = i
    · rw [if_pos e2, if_pos e2]
    · rw [if_neg e2, if_neg e2, if_neg e]
theorem vW_nR (hv : σ.2 = V) (kk i : Nat) (g : -2147483648 ≤ V kk i → V kk i < 2147483648 → vW vw_rep L xs fr σ Q) : vW vw_rep L xs fr σ Q := by subst hv; exact vW_n kk i g
theorem vW_wR (hv : σ.2 = V) (d : Nat) (g : 0 ≤ V 4 d → V 4 d < 5 → vW vw_rep L xs fr σ Q) : vW vw_rep L xs fr σ Q := by subst hv; exact vW_num (fun h => g (h.2.1 d).1 (h.2.1 d).2)
theorem r_size (hc : vt_code k pc = (27, 26, b, c)) (hk : vw_ok kk i) (hr : σ.1 kk i = l) (hs : Nat.ble (vj_cat sc) 8 = true) (t : vW vw_rep L xs (k, pc + 3, lc, .int (jI (l.length : Int)) :: sc) σ Q) : vW vw_rep L xs (k, pc, lc, .ref (vw_rr kk i) :: sc) σ Q := by
  subst hr; exact c_size hc hk hs t
theorem r_at (hc : vt_code k pc = (27, 27, b, c)) (hk : vw_ok kk i) (hr : σ.1 kk i = l) (h0 : -2147483648 ≤ z) (h1 : z < 2147483648) (hs : Nat.ble (vj_cat sc) 8 = true) (t : -2147483648 ≤ vl_at l z → vl_at l z < 2147483648 → vW vw_rep L xs (k, pc + 3, lc, .int (jI (vl_at l z)) :: sc) σ Q) : vW vw_rep L xs (k, pc, lc, .int (jI z) :: .ref (vw_rr kk i) :: sc) σ Q := by
  subst hr; exact c_at2 hc hk h0 h1 hs t
theorem r_placeOf (hc : vt_code k pc = (27, 36, b, c)) (hk : vw_ok kk i) (hr : σ.1 kk i = l) (h0 : -2147483648 ≤ z) (h1 : z < 2147483648) (hs : Nat.ble (vj_cat sc) 8 = true) (t : -2147483648 ≤ vl_pl l z → vl_pl l z < 2147483648 → vW vw_rep L xs (k, pc + 3, lc, .int (jI (vl_pl l z)) :: sc) σ Q) : vW vw_rep L xs (k, pc, lc, .int (jI z) :: .ref (vw_rr kk i) :: sc) σ Q := by
  subst hr; exact c_placeOf2 hc hk h0 h1 hs t
theorem r_put (hc : vt_code k pc = (27, 28, b, c)) (hk : vw_ok kk i) (hr : σ.1 kk i = l) (h0 : -2147483648 ≤ z) (h1 : z < 2147483648) (g0 : -2147483648 ≤ y) (g1 : y < 2147483648) (he : (vw_sr σ.1 kk i (vl_put l z y), σ.2) = σ2) (hs : Nat.ble (vj_cat sc) 8 = true) (t : vW vw_rep L xs (k, pc + 3, lc, sc) σ2 Q) : vW vw_rep L xs (k, pc, lc, .int (jI y) :: .int (jI z) :: .ref (vw_rr kk i) :: sc) σ Q := by
  subst hr; subst he; exact c_put hc hk ⟨h0, h1⟩ ⟨g0, g1⟩ hs t
theorem r_add (hc : vt_code k pc = (27, 29, b, c)) (hk : vw_ok kk i) (hr : σ.1 kk i = l) (g0 : -2147483648 ≤ y) (g1 : y < 2147483648) (he : (vw_sr σ.1 kk i (vl_add (vw_cap kk) l y), σ.2) = σ2) (hs : Nat.ble (vj_cat sc) 8 = true) (t : vW vw_rep L xs (k, pc + 3, lc, sc) σ2 Q) : vW vw_rep L xs (k, pc, lc, .int (jI y) :: .ref (vw_rr kk i) :: sc) σ Q := by
  subst hr; subst he; exact c_add hc hk ⟨g0, g1⟩ hs t
theorem r_insert (hc : vt_code k pc = (27, 30, b, c)) (hk : vw_ok kk i) (hr : σ.1 kk i = l) (h0 : -2147483648 ≤ z) (h1 : z < 2147483648) (g0 : -2147483648 ≤ y) (g1 : y < 2147483648) (he : (vw_sr σ.1 kk i (vl_ins (vw_cap kk) l z y), σ.2) = σ2) (hs : Nat.ble (vj_cat sc) 8 = true) (t : vW vw_rep L xs (k, pc + 3, lc, sc) σ2 Q) : vW vw_rep L xs (k, pc, lc, .int (jI y) :: .int (jI z) :: .ref (vw_rr kk i) :: sc) σ Q := by
  subst hr; subst he; exact c_insert hc hk ⟨h0, h1⟩ ⟨g0, g1⟩ hs t
theorem r_rem (hc : vt_code k pc = (27, 31, b, c)) (hk : vw_ok kk i) (hr : σ.1 kk i = l) (h0 : -2147483648 ≤ z) (h1 : z < 2147483648) (he : (vw_sr σ.1 kk i (vl_rem l z), σ.2) = σ2) (hs : Nat.ble (vj_cat sc) 8 = true) (t : -2147483648 ≤ vl_at l z → vl_at l z < 2147483648 → vW vw_rep L xs (k, pc + 3, lc, .int (jI (vl_at l z)) :: sc) σ2 Q) : vW vw_rep L xs (k, pc, lc, .int (jI z) :: .ref (vw_rr kk i) :: sc) σ Q := by
  subst hr; subst he; exact vW_at hk z (fun q0 q1 => c_rem hc hk ⟨h0, h1⟩ hs (t q0 q1))
theorem r_clear (hc : vt_code k pc = (27, 32, b, c)) (hk : vw_ok kk i) (hr : σ.1 kk i = l) (he : (vw_sr σ.1 kk i [], σ.2) = σ2) (hs : Nat.ble (vj_cat sc) 8 = true) (t : vW vw_rep L xs (k, pc + 3, lc, sc) σ2 Q) : vW vw_rep L xs (k, pc, lc, .ref (vw_rr kk i) :: sc) σ Q := by
  subst he; exact c_clear hc hk hs t
theorem r_fill (hc : vt_code k pc = (27, 33, b, c)) (hk : vw_ok kk i) (hr : σ.1 kk i = l) (h0 : -2147483648 ≤ z) (h1 : z < 2147483648) (g0 : -2147483648 ≤ y) (g1 : y < 2147483648) (he : (vw_sr σ.1 kk i (vl_fill (vw_cap kk) z y), σ.2) = σ2) (hs : Nat.ble (vj_cat sc) 8 = true) (t : vW vw_rep L xs (k, pc + 3, lc, sc) σ2 Q) : vW vw_rep L xs (k, pc, lc, .int (jI y) :: .int (jI z) :: .ref (vw_rr kk i) :: sc) σ Q := by
  subst hr; subst he; exact c_fill hc hk ⟨h0, h1⟩ ⟨g0, g1⟩ hs t
theorem c_rankR (hc : vt_code k pc = (27, 24, b, c)) {d : Nat} (hd : d ≤ 120) (hv : σ.2 = V) (hs : Nat.ble (vj_cat sc) 8 = true) (t : vW vw_rep L xs (k, pc + 3, lc, .int (jI (V 7 d * 6 + V 5 d)) :: sc) σ Q) : vW vw_rep L xs (k, pc, lc, .ref (vw_dr d) :: sc) σ Q := by
  subst hv; exact c_rank hc hd hs t
theorem c_countDeedsR (hc : vt_code k pc = (27, 1, b, c)) (hz : σ.2 1 0 = z) (hs : Nat.ble (vj_cat sc) 8 = true) (t : vW vw_rep L xs (k, pc + 3, lc, .int (jI z) :: sc) σ Q) : vW vw_rep L xs (k, pc, lc, .ref 9 :: sc) σ Q := by
  subst hz; exact c_countDeeds hc hs t
theorem c_countCellsR (hc : vt_code k pc = (27, 2, b, c)) (hr : σ.1 12 0 = l) (hs : Nat.ble (vj_cat sc) 8 = true) (t : vW vw_rep L xs (k, pc + 3, lc, .int (jI (l.length : Int)) :: sc) σ Q) : vW vw_rep L xs (k, pc, lc, .ref 9 :: sc) σ Q := by
  subst hr; exact c_countCells hc hs t
theorem c_letterOfR (hc : vt_code k pc = (27, 5, b, c)) (hr : σ.1 12 0 = l) (h0 : -2147483648 ≤ z) (h1 : z < 2147483648) (hs : Nat.ble (vj_cat sc) 8 = true) (t : -2147483648 ≤ vl_at l z → vl_at l z < 2147483648 → vW vw_rep L xs (k, pc + 3, lc, .int (jI (vl_at l z)) :: sc) σ Q) : vW vw_rep L xs (k, pc, lc, .int (jI z) :: .ref 9 :: sc) σ Q := by
  subst hr; exact c_letterOf hc h0 h1 hs t
theorem c_typeOfR (hc : vt_code k pc = (27, 6, b, c)) (hr : σ.1 13 0 = l) (h0 : -2147483648 ≤ z) (h1 : z < 2147483648) (hs : Nat.ble (vj_cat sc) 8 = true) (t : vW vw_rep L xs (k, pc + 3, lc, .ref (vw_dr (ve_ix (vl_at l z))) :: sc) σ Q) : vW vw_rep L xs (k, pc, lc, .int (jI z) :: .ref 9 :: sc) σ Q := by
  subst hr; exact c_typeOf hc h0 h1 hs t
theorem m_we_loop {v : Nat} (hv : v < 2) (n0 : 0 ≤ σ.2 1 0) (n1 : σ.2 1 0 ≤ 120) (hQ : Q [] (vw_sr σ.1 18 v (vq_ef σ.2 (σ.1 17 v) (σ.2 1 0).toNat), σ.2)) : ∀ (e j : Nat) (u : Option Value), (j : Int) + e = σ.2 1 0 → vW vw_rep L xs (39, 14, [some (.ref (vw_vr v)), some (.ref 9), some (.int (jI ((j : Int)))), u], []) ((vw_sr σ.1 18 v (vf (vq_ef1 σ.2 (σ.1 17 v)) j (vl_fill 120 (σ.2 1 0) 0))), σ.2) Q := by
  intro e
  induction e with
  | zero =>
    intro j u hj
    refine w0 vi39_14 rfl rfl ?_
    refine w1 vi39_15 rfl rfl ?_
    refine c_countDeedsR (z := (σ.2 1 0)) vi39_16 rfl rfl ?_
    refine w8 vi39_19 (vwc_3 ⟨by omega, by omega⟩ ⟨by omega, by omega⟩) (fun h19 => ?_) (fun h19 => by exfalso; omega)
    refine w43 vi39_108 vm39.2.2.2 ?_
    rw [show j = (σ.2 1 0).toNat by omega]
    exact hQ
  | succ e ih =>
    intro j u hj
    refine w0 vi39_14 rfl rfl ?_
    refine w1 vi39_15 rfl rfl ?_
    refine c_countDeedsR (z := (σ.2 1 0)) vi39_16 rfl rfl ?_
    refine w8 vi39_19 (vwc_3 ⟨by omega, by omega⟩ ⟨by omega, by omega⟩) (fun h19 => by exfalso; omega) (fun h19 => ?_)
    refine w1 vi39_22 rfl rfl ?_
    refine w14v (v := .ref (vw_rr 17 v)) vi39_23 (by first | omega | exact ve_ix_le _ | exact vk_lat_le _ _ _ _ | assumption) rfl ?_
    refine w0 vi39_26 rfl rfl ?_
    refine r_at (l := (σ.1 17 v)) vi39_27 ⟨by decide, (show v < 2 by omega)⟩ (by first | rfl | (dsimp only; repeat (first | rw [vw_sr_eq] | rw [vw_sr_ne _ _ (by omega)]))) (by first | omega | exact ve_ix_le _ | exact vk_lat_le _ _ _ _ | assumption) (by first | omega | exact ve_ix_le _ | exact vk_lat_le _ _ _ _ | assumption) rfl (fun _ _ => ?_)
    refine w2 (1) vi39_30 (by decide) ?_
    refine w8 vi39_31 (vwc_0 ⟨by omega, by omega⟩ ⟨by omega, by omega⟩) (fun h31 => ?_) (fun h31 => ?_)
    ·
      refine w1 vi39_37 rfl rfl ?_
      refine w0 vi39_38 rfl rfl ?_
      refine c_deedAt vi39_39 (by first | omega | exact ve_ix_le _ | exact vk_lat_le _ _ _ _ | assumption) (by first | omega | exact ve_ix_le _ | exact vk_lat_le _ _ _ _ | assumption) rfl ?_
      refine w4 vi39_42 rfl rfl ?_
      refine w1 vi39_43 rfl rfl ?_
      refine w14d (v := .ref (((σ.2 4 ((ve_ix ((j : Int)))))).toNat + 1)) vi39_44 (by first | omega | exact ve_ix_le _ | exact vk_lat_le _ _ _ _ | assumption) rfl ?_
      refine vW_wR (V := σ.2) rfl ((ve_ix ((j : Int)))) (fun _ _ => ?_)
      refine w58 vi39_47 ?_
      refine w59 vi39_50 (by first | omega | exact ve_ix_le _ | exact vk_lat_le _ _ _ _ | assumption) (by first | omega | exact ve_ix_le _ | exact vk_lat_le _ _ _ _ | assumption) (fun h50 => ?_) (fun h50 => ?_)
      ·
        refine w1 vi39_53 rfl rfl ?_
        refine w14v (v := .ref (vw_rr 18 v)) vi39_54 (by first | omega | exact ve_ix_le _ | exact vk_lat_le _ _ _ _ | assumption) rfl ?_
        refine w1 vi39_57 rfl rfl ?_
        refine w14d (v := .int (jI ((σ.2 9 ((ve_ix ((j : Int)))))))) vi39_58 (by first | omega | exact ve_ix_le _ | exact vk_lat_le _ _ _ _ | assumption) rfl ?_
        refine vW_nR (V := σ.2) rfl 9 ((ve_ix ((j : Int)))) (fun _ _ => ?_)
        refine w2 (0) vi39_61 (by decide) ?_
        refine r_put (l := (vf (vq_ef1 σ.2 (σ.1 17 v)) j (vl_fill 120 (σ.2 1 0) 0))) (σ2 := ((vw_sr σ.1 18 v (vl_put (vf (vq_ef1 σ.2 (σ.1 17 v)) j (vl_fill 120 (σ.2 1 0) 0)) ((σ.2 9 ((ve_ix ((j : Int)))))) (0))), σ.2)) vi39_62 ⟨by decide, (show v < 2 by omega)⟩ (by first | rfl | (dsimp only; repeat (first | rw [vw_sr_eq] | rw [vw_sr_ne _ _ (by omega)]))) (by first | omega | exact ve_ix_le _ | exact vk_lat_le _ _ _ _ | assumption) (by first | omega | exact ve_ix_le _ | exact vk_lat_le _ _ _ _ | assumption) (by first | omega | exact ve_ix_le _ | exact vk_lat_le _ _ _ _ | assumption) (by first | omega | exact ve_ix_le _ | exact vk_lat_le _ _ _ _ | assumption) (by dsimp only; rw [vw_sr_sr]; try rfl) rfl ?_
        refine w5 vi39_65 ?_
        refine w6 (1) vi39_102 rfl (by decide) rfl ?_
        refine w5 vi39_105 ?_
        have q := ih (j + 1) (some (.ref (vw_dr (ve_ix (j : Int))))) (by omega)
        have e1 : vf (vq_ef1 σ.2 (σ.1 17 v)) (j + 1) (vl_fill 120 (σ.2 1 0) 0) = vq_ef1 σ.2 (σ.1 17 v) j (vf (vq_ef1 σ.2 (σ.1 17 v)) j (vl_fill 120 (σ.2 1 0) 0)) := rfl
        rw [e1] at q
        have e2 : vq_ef1 σ.2 (σ.1 17 v) j (vf (vq_ef1 σ.2 (σ.1 17 v)) j (vl_fill 120 (σ.2 1 0) 0)) = vl_put (vf (vq_ef1 σ.2 (σ.1 17 v)) j (vl_fill 120 (σ.2 1 0) 0)) ((σ.2 9 ((ve_ix ((j : Int)))))) (0) := by
          unfold vq_ef1
          repeat (first | rw [if_pos (by omega)] | rw [if_neg (by omega)])
        rw [e2] at q
        exact q
      ·
        refine w1 vi39_68 rfl rfl ?_
        refine w14d (v := .ref (((σ.2 4 ((ve_ix ((j : Int)))))).toNat + 1)) vi39_69 (by first | omega | exact ve_ix_le _ | exact vk_lat_le _ _ _ _ | assumption) rfl ?_
        refine vW_wR (V := σ.2) rfl ((ve_ix ((j : Int)))) (fun _ _ => ?_)
        refine w58 vi39_72 ?_
        refine w59 vi39_75 (by first | omega | exact ve_ix_le _ | exact vk_lat_le _ _ _ _ | assumption) (by first | omega | exact ve_ix_le _ | exact vk_lat_le _ _ _ _ | assumption) (fun h75 => ?_) (fun h75 => ?_)
        ·
          refine w1 vi39_78 rfl rfl ?_
          refine w14v (v := .ref (vw_rr 18 v)) vi39_79 (by first | omega | exact ve_ix_le _ | exact vk_lat_le _ _ _ _ | assumption) rfl ?_
          refine w1 vi39_82 rfl rfl ?_
          refine w14d (v := .int (jI ((σ.2 9 ((ve_ix ((j : Int)))))))) vi39_83 (by first | omega | exact ve_ix_le _ | exact vk_lat_le _ _ _ _ | assumption) rfl ?_
          refine vW_nR (V := σ.2) rfl 9 ((ve_ix ((j : Int)))) (fun _ _ => ?_)
          refine w2 (1) vi39_86 (by decide) ?_
          refine r_put (l := (vf (vq_ef1 σ.2 (σ.1 17 v)) j (vl_fill 120 (σ.2 1 0) 0))) (σ2 := ((vw_sr σ.1 18 v (vl_put (vf (vq_ef1 σ.2 (σ.1 17 v)) j (vl_fill 120 (σ.2 1 0) 0)) ((σ.2 9 ((ve_ix ((j : Int)))))) (1))), σ.2)) vi39_87 ⟨by decide, (show v < 2 by omega)⟩ (by first | rfl | (dsimp only; repeat (first | rw [vw_sr_eq] | rw [vw_sr_ne _ _ (by omega)]))) (by first | omega | exact ve_ix_le _ | exact vk_lat_le _ _ _ _ | assumption) (by first | omega | exact ve_ix_le _ | exact vk_lat_le _ _ _ _ | assumption) (by first | omega | exact ve_ix_le _ | exact vk_lat_le _ _ _ _ | assumption) (by first | omega | exact ve_ix_le _ | exact vk_lat_le _ _ _ _ | assumption) (by dsimp only; rw [vw_sr_sr]; try rfl) rfl ?_
          refine w5 vi39_90 ?_
          refine w6 (1) vi39_102 rfl (by decide) rfl ?_
          refine w5 vi39_105 ?_
          have q := ih (j + 1) (some (.ref (vw_dr (ve_ix (j : Int))))) (by omega)
          have e1 : vf (vq_ef1 σ.2 (σ.1 17 v)) (j + 1) (vl_fill 120 (σ.2 1 0) 0) = vq_ef1 σ.2 (σ.1 17 v) j (vf (vq_ef1 σ.2 (σ.1 17 v)) j (vl_fill 120 (σ.2 1 0) 0)) := rfl
          rw [e1] at q
          have e2 : vq_ef1 σ.2 (σ.1 17 v) j (vf (vq_ef1 σ.2 (σ.1 17 v)) j (vl_fill 120 (σ.2 1 0) 0)) = vl_put (vf (vq_ef1 σ.2 (σ.1 17 v)) j (vl_fill 120 (σ.2 1 0) 0)) ((σ.2 9 ((ve_ix ((j : Int)))))) (1) := by
            unfold vq_ef1
            repeat (first | rw [if_pos (by omega)] | rw [if_neg (by omega)])
          rw [e2] at q
          exact q
        ·
          refine w1 vi39_93 rfl rfl ?_
          refine w14v (v := .ref (vw_rr 18 v)) vi39_94 (by first | omega | exact ve_ix_le _ | exact vk_lat_le _ _ _ _ | assumption) rfl ?_
          refine w0 vi39_97 rfl rfl ?_
          refine w2 (1) vi39_98 (by decide) ?_
          refine r_put (l := (vf (vq_ef1 σ.2 (σ.1 17 v)) j (vl_fill 120 (σ.2 1 0) 0))) (σ2 := ((vw_sr σ.1 18 v (vl_put (vf (vq_ef1 σ.2 (σ.1 17 v)) j (vl_fill 120 (σ.2 1 0) 0)) ((j : Int)) (1))), σ.2)) vi39_99 ⟨by decide, (show v < 2 by omega)⟩ (by first | rfl | (dsimp only; repeat (first | rw [vw_sr_eq] | rw [vw_sr_ne _ _ (by omega)]))) (by first | omega | exact ve_ix_le _ | exact vk_lat_le _ _ _ _ | assumption) (by first | omega | exact ve_ix_le _ | exact vk_lat_le _ _ _ _ | assumption) (by first | omega | exact ve_ix_le _ | exact vk_lat_le _ _ _ _ | assumption) (by first | omega | exact ve_ix_le _ | exact vk_lat_le _ _ _ _ | assumption) (by dsimp only; rw [vw_sr_sr]; try rfl) rfl ?_
          refine w6 (1) vi39_102 rfl (by decide) rfl ?_
          refine w5 vi39_105 ?_
          have q := ih (j + 1) (some (.ref (vw_dr (ve_ix (j : Int))))) (by omega)
          have e1 : vf (vq_ef1 σ.2 (σ.1 17 v)) (j + 1) (vl_fill 120 (σ.2 1 0) 0) = vq_ef1 σ.2 (σ.1 17 v) j (vf (vq_ef1 σ.2 (σ.1 17 v)) j (vl_fill 120 (σ.2 1 0) 0)) := rfl
          rw [e1] at q
          have e2 : vq_ef1 σ.2 (σ.1 17 v) j (vf (vq_ef1 σ.2 (σ.1 17 v)) j (vl_fill 120 (σ.2 1 0) 0)) = vl_put (vf (vq_ef1 σ.2 (σ.1 17 v)) j (vl_fill 120 (σ.2 1 0) 0)) ((j : Int)) (1) := by
            unfold vq_ef1
            repeat (first | rw [if_pos (by omega)] | rw [if_neg (by omega)])
          rw [e2] at q
          exact q
    ·
      refine w5 vi39_34 ?_
      refine w6 (1) vi39_102 rfl (by decide) rfl ?_
      refine w5 vi39_105 ?_
      have q := ih (j + 1) u (by omega)
      have e1 : vf (vq_ef1 σ.2 (σ.1 17 v)) (j + 1) (vl_fill 120 (σ.2 1 0) 0) = vq_ef1 σ.2 (σ.1 17 v) j (vf (vq_ef1 σ.2 (σ.1 17 v)) j (vl_fill 120 (σ.2 1 0) 0)) := rfl
      rw [e1] at q
      have e2 : vq_ef1 σ.2 (σ.1 17 v) j (vf (vq_ef1 σ.2 (σ.1 17 v)) j (vl_fill 120 (σ.2 1 0) 0)) = vf (vq_ef1 σ.2 (σ.1 17 v)) j (vl_fill 120 (σ.2 1 0) 0) := by
        unfold vq_ef1
        repeat (first | rw [if_pos (by omega)] | rw [if_neg (by omega)])
      rw [e2] at q
      exact q
theorem m_weighEffects {v : Nat} (hv : v < 2) (n0 : 0 ≤ σ.2 1 0) (n1 : σ.2 1 0 ≤ 120) (hQ :  Q [] (vw_sr σ.1 18 v (vq_ef σ.2 (σ.1 17 v) (σ.2 1 0).toNat), σ.2)) : vW vw_rep L xs (39, 0, [some (.ref (vw_vr v)), some (.ref 9), none, none], []) σ Q := by
  refine w1 vi39_0 rfl rfl ?_
  refine w14v (v := .ref (vw_rr 18 v)) vi39_1 (by first | omega | exact ve_ix_le _ | exact vk_lat_le _ _ _ _ | assumption) rfl ?_
  refine w1 vi39_4 rfl rfl ?_
  refine c_countDeedsR (z := (σ.2 1 0)) vi39_5 rfl rfl ?_
  refine w2 (0) vi39_8 (by decide) ?_
  refine r_fill (l := (σ.1 18 v)) (σ2 := ((vw_sr σ.1 18 v (vl_fill (vw_cap 18) ((σ.2 1 0)) (0))), σ.2)) vi39_9 ⟨by decide, (show v < 2 by omega)⟩ (by first | rfl | (dsimp only; repeat (first | rw [vw_sr_eq] | rw [vw_sr_ne _ _ (by omega)]))) (by first | omega | exact ve_ix_le _ | exact vk_lat_le _ _ _ _ | assumption) (by first | omega | exact ve_ix_le _ | exact vk_lat_le _ _ _ _ | assumption) (by first | omega | exact ve_ix_le _ | exact vk_lat_le _ _ _ _ | assumption) (by first | omega | exact ve_ix_le _ | exact vk_lat_le _ _ _ _ | assumption) rfl rfl ?_
  refine w2 (0) vi39_12 (by decide) ?_
  refine w3 vi39_13 rfl rfl ?_
  exact m_we_loop hv n0 n1 hQ (σ.2 1 0).toNat 0 _ (by omega)
theorem c_weighEffects (hc : vt_code k pc = (27, 39, b, c)) {v : Nat} (hv : v < 2) (n0 : 0 ≤ σ.2 1 0) (n1 : σ.2 1 0 ≤ 120) (hs : Nat.ble (vj_cat sc) 8 = true) (hQ :  vW vw_rep L xs (k, pc + 3, lc, sc) (vw_sr σ.1 18 v (vq_ef σ.2 (σ.1 17 v) (σ.2 1 0).toNat), σ.2) Q) : vW vw_rep L xs (k, pc, lc, .ref 9 :: .ref (vw_vr v) :: sc) σ Q := by
  refine w27 (n := 2) (vs := [.ref 9, .ref (vw_vr v)]) hc vm39.2.1 rfl (by rw [vm39.2.2.1]; rfl) hs (by simp only [List.length_cons]; omega) ⟨_, rfl⟩ (fun M hM => hM.2.2.2.2.1 _ hv) (vw_tb_lt (vw_view hv) (by omega)) vm39.1 ?_
  rw [vm39.2.2.1]
  exact m_weighEffects hv n0 n1 (Q := fun v σ1 => vW vw_rep L xs (k, pc + 3, lc, v ++ sc) σ1 Q) hQ
theorem m_weighMark {v : Nat} (hv : v < 2) {d : Nat} {z : Int} (hd : d ≤ 120) (z0 : -2147483648 ≤ z) (z1 : z < 2147483648) (hQ :  Q [] (vw_sr σ.1 21 v (vq_wm σ.2 (σ.1 21 v) d z), σ.2)) : vW vw_rep L xs (41, 0, [some (.ref (vw_vr v)), some (.ref 9), some (.ref (vw_dr d)), some (.int (jI (z))), none], []) σ Q := by
  have hp := vd_pl_in d hd
  refine w1 vi41_0 rfl rfl ?_
  refine w14v (v := .ref (vw_rr 21 v)) vi41_1 (by first | omega | exact ve_ix_le _ | exact vk_lat_le _ _ _ _ | assumption) rfl ?_
  refine w0 vi41_4 rfl rfl ?_
  refine r_at (l := (σ.1 21 v)) vi41_5 ⟨by decide, (show v < 2 by omega)⟩ (by first | rfl | (dsimp only; repeat (first | rw [vw_sr_eq] | rw [vw_sr_ne _ _ (by omega)]))) (by first | omega | exact ve_ix_le _ | exact vk_lat_le _ _ _ _ | assumption) (by first | omega | exact ve_ix_le _ | exact vk_lat_le _ _ _ _ | assumption) rfl (fun _ _ => ?_)
  refine w3 vi41_8 rfl rfl ?_
  refine w0 vi41_10 rfl rfl ?_
  refine w2 (-1) vi41_12 (by decide) ?_
  refine w8 vi41_13 (vwc_0 ⟨by omega, by omega⟩ ⟨by omega, by omega⟩) (fun h13 => ?_) (fun h13 => ?_)
  ·
    refine w1 vi41_32 rfl rfl ?_
    refine w14v (v := .ref (vw_rr 21 v)) vi41_33 (by first | omega | exact ve_ix_le _ | exact vk_lat_le _ _ _ _ | assumption) rfl ?_
    refine w0 vi41_36 rfl rfl ?_
    refine w1 vi41_37 rfl rfl ?_
    refine w14d (v := .int (jI ((vd_pl d)))) vi41_38 (by first | omega | exact ve_ix_le _ | exact vk_lat_le _ _ _ _ | assumption) rfl ?_
    refine r_put (l := (σ.1 21 v)) (σ2 := ((vw_sr σ.1 21 v (vl_put (σ.1 21 v) (z) ((vd_pl d)))), σ.2)) vi41_41 ⟨by decide, (show v < 2 by omega)⟩ (by first | rfl | (dsimp only; repeat (first | rw [vw_sr_eq] | rw [vw_sr_ne _ _ (by omega)]))) (by first | omega | exact ve_ix_le _ | exact vk_lat_le _ _ _ _ | assumption) (by first | omega | exact ve_ix_le _ | exact vk_lat_le _ _ _ _ | assumption) (by first | omega | exact ve_ix_le _ | exact vk_lat_le _ _ _ _ | assumption) (by first | omega | exact ve_ix_le _ | exact vk_lat_le _ _ _ _ | assumption) rfl rfl ?_
    refine w43 vi41_44 vm41.2.2.2 ?_
    unfold vq_wm at hQ
    have hlt : vl_at (σ.1 21 v) z = -1 ∨ jI (vq_rk σ.2 (ve_ix (vl_at (σ.1 21 v) z))) < jI (vq_rk σ.2 d) := by
      first
        | exact Or.inl h13
        | exact Or.inr (Decidable.byContradiction (fun g => h29 (decide_eq_true (Int32.not_lt.mp g))))
    rw [if_pos hlt] at hQ
    exact hQ
  ·
    refine w1 vi41_16 rfl rfl ?_
    refine c_rankR (V := σ.2) vi41_17 (by first | omega | exact ve_ix_le _ | exact vk_lat_le _ _ _ _ | assumption) rfl rfl ?_
    refine w1 vi41_20 rfl rfl ?_
    refine w0 vi41_21 rfl rfl ?_
    refine c_deedAt vi41_23 (by first | omega | exact ve_ix_le _ | exact vk_lat_le _ _ _ _ | assumption) (by first | omega | exact ve_ix_le _ | exact vk_lat_le _ _ _ _ | assumption) rfl ?_
    refine c_rankR (V := σ.2) vi41_26 (by first | omega | exact ve_ix_le _ | exact vk_lat_le _ _ _ _ | assumption) rfl rfl ?_
    refine w8 vi41_29 (Iff.rfl) (fun h29 => ?_) (fun h29 => ?_)
    ·
      refine w43 vi41_44 vm41.2.2.2 ?_
      unfold vq_wm at hQ
      have hge : ¬ (vl_at (σ.1 21 v) z = -1 ∨ jI (vq_rk σ.2 (ve_ix (vl_at (σ.1 21 v) z))) < jI (vq_rk σ.2 d)) := fun g => by
        rcases g with g | g
        · exact h13 g
        · exact Int32.not_lt.mpr (of_decide_eq_true h29) g
      rw [if_neg hge, vw_sr_self] at hQ
      exact hQ
    ·
      refine w1 vi41_32 rfl rfl ?_
      refine w14v (v := .ref (vw_rr 21 v)) vi41_33 (by first | omega | exact ve_ix_le _ | exact vk_lat_le _ _ _ _ | assumption) rfl ?_
      refine w0 vi41_36 rfl rfl ?_
      refine w1 vi41_37 rfl rfl ?_
      refine w14d (v := .int (jI ((vd_pl d)))) vi41_38 (by first | omega | exact ve_ix_le _ | exact vk_lat_le _ _ _ _ | assumption) rfl ?_
      refine r_put (l := (σ.1 21 v)) (σ2 := ((vw_sr σ.1 21 v (vl_put (σ.1 21 v) (z) ((vd_pl d)))), σ.2)) vi41_41 ⟨by decide, (show v < 2 by omega)⟩ (by first | rfl | (dsimp only; repeat (first | rw [vw_sr_eq] | rw [vw_sr_ne _ _ (by omega)]))) (by first | omega | exact ve_ix_le _ | exact vk_lat_le _ _ _ _ | assumption) (by first | omega | exact ve_ix_le _ | exact vk_lat_le _ _ _ _ | assumption) (by first | omega | exact ve_ix_le _ | exact vk_lat_le _ _ _ _ | assumption) (by first | omega | exact ve_ix_le _ | exact vk_lat_le _ _ _ _ | assumption) rfl rfl ?_
      refine w43 vi41_44 vm41.2.2.2 ?_
      unfold vq_wm at hQ
      have hlt : vl_at (σ.1 21 v) z = -1 ∨ jI (vq_rk σ.2 (ve_ix (vl_at (σ.1 21 v) z))) < jI (vq_rk σ.2 d) := by
        first
          | exact Or.inl h13
          | exact Or.inr (Decidable.byContradiction (fun g => h29 (decide_eq_true (Int32.not_lt.mp g))))
      rw [if_pos hlt] at hQ
      exact hQ
theorem c_weighMark (hc : vt_code k pc = (27, 41, b, c)) {v : Nat} (hv : v < 2) {d : Nat} {z : Int} (hd : d ≤ 120) (z0 : -2147483648 ≤ z) (z1 : z < 2147483648) (hs : Nat.ble (vj_cat sc) 8 = true) (hQ :  vW vw_rep L xs (k, pc + 3, lc, sc) (vw_sr σ.1 21 v (vq_wm σ.2 (σ.1 21 v) d z), σ.2) Q) : vW vw_rep L xs (k, pc, lc, .int (jI (z)) :: .ref (vw_dr d) :: .ref 9 :: .ref (vw_vr v) :: sc) σ Q := by
  refine w27 (n := 4) (vs := [.int (jI (z)), .ref (vw_dr d), .ref 9, .ref (vw_vr v)]) hc vm41.2.1 rfl (by rw [vm41.2.2.1]; rfl) hs (by simp only [List.length_cons]; omega) ⟨_, rfl⟩ (fun M hM => hM.2.2.2.2.1 _ hv) (vw_tb_lt (vw_view hv) (by omega)) vm41.1 ?_
  rw [vm41.2.2.1]
  exact m_weighMark hv hd z0 z1 (Q := fun v σ1 => vW vw_rep L xs (k, pc + 3, lc, v ++ sc) σ1 Q) hQ
end VW10
