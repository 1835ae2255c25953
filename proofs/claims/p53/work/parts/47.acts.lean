/-! ===== what the calls do ===== -/
section VW19
theorem vI_deed {σ0 σ σ' : vw_S} {w d : Nat} (hI : vI σ0) (hM : vM σ0 w d σ) (hJ' : vJ σ') (hn : σ'.2 1 0 = σ.2 1 0) (g : ∀ k, (k = 12 ∨ k = 13 ∨ k = 14) → σ'.1 k = σ0.1 k) (h34 : ∀ i : Nat, i < 6 → (σ'.1 3 i).length + (σ'.1 4 i).length ≤ 8) : vI σ' :=
  vI_of hJ' (σ0 := σ0) (by rw [hn, hM.2.1]; exact vC_mono hI.2.1 (by omega)) h34 g
theorem vI_own {σ4 : vw_S} {w : Nat} {lD : List Int} (hJ4 : vJ σ4) (hl : lD.length ≤ 8) (hC : vC (σ4.2 1 0) (σ4.1 12 0) (σ4.1 13 0) (σ4.1 14 0)) (hD : ∀ i : Nat, i < 6 → (σ4.1 3 i).length + (σ4.1 4 i).length ≤ 8) : vI (vw_sr (vw_sr σ4.1 3 w lD) 4 w [], σ4.2) := by
  refine vI_of (σ0 := σ4) (vJ_to hJ4 rfl rfl rfl rfl rfl (fun k' q => by dsimp only; rw [vw_sr_j _ _ _ (by omega), vw_sr_j _ _ _ (by omega)])) hC (fun i' hi' => ?_) (fun k' q => by dsimp only; rw [vw_sr_j _ _ _ (by omega), vw_sr_j _ _ _ (by omega)])
  dsimp only
  by_cases e : i' = w
  · subst e
    rw [vw_sr_ne _ _ (by omega), vw_sr_eq, vw_sr_eq]
    show lD.length + 0 ≤ 8
    omega
  · rw [vw_sr_ne _ _ (by omega), vw_sr_ne _ _ (by omega), vw_sr_ne _ _ (by omega), vw_sr_ne _ _ (by omega)]
    exact hD i' hi'
theorem vI_LS {σ σ' : vw_S} {i z : Nat} (hI : vI σ) (hS : vLS σ i σ' z) (hR : vRds σ' i) : vI σ' := by
  obtain ⟨⟨j1, j2, j3, j4, j5⟩, hC, hD⟩ := hI
  obtain ⟨a1, a2, a3, a4, a5, a6⟩ := hS
  have hr : ∀ k', ¬ k' < 3 → σ'.1 k' = σ.1 k' := fun k' q => funext fun j => a2 k' j (by omega)
  refine ⟨⟨a3, fun j hj => ?_, ?_, ?_, ?_⟩, ?_, fun j hj => ?_⟩
  · by_cases e : j = i
    · rw [e]; exact hR
    · unfold vRds
      rw [hr 6 (by omega), a2 1 j (by omega), a2 2 j (by omega)]
      exact j2 j hj
  · rw [a1, hr 7 (by omega)]; exact j3
  · rw [a1]; exact j4
  · rw [hr 9 (by omega)]; exact j5
  · rw [a1, hr 12 (by omega), hr 13 (by omega), hr 14 (by omega)]; exact hC
  · rw [hr 3 (by omega), hr 4 (by omega)]; exact hD j hj
theorem vp_cnt_two {V : Nat → Nat → Int} {w o : Nat} (hw : V 2 w = 1) (ho : V 2 o = 1) (hne : ¬ w = o) : ∀ n : Nat, (if w < n then 1 else 0) + (if o < n then 1 else 0) ≤ vp_cnt V n := by
  intro n
  induction n with
  | zero => rw [if_neg (by omega), if_neg (by omega)]; exact Int.le_refl _
  | succ n ih =>
    have e : vp_cnt V (n + 1) = if V 2 n = 1 then vp_cnt V n + 1 else vp_cnt V n := rfl
    rw [e]
    by_cases q : V 2 n = 1
    · rw [if_pos q]
      split at ih <;> split at ih <;> split <;> split <;> omega
    · rw [if_neg q]
      have q1 : ¬ w = n := fun g => q (g ▸ hw)
      have q2 : ¬ o = n := fun g => q (g ▸ ho)
      split at ih <;> split at ih <;> split <;> split <;> omega
variable {L : Nat} {xs : Nat → Int32} {σ σ2 : vw_S} {Q : List Value → vw_S → Prop} {k pc a b c kk i : Nat} {lc : List (Option Value)} {sc : List Value} {fr : vj_F} {l l2 r12 r13 sh cs tx tx2 d2 he od : List Int} {V : Nat → Nat → Int} {z y : Int}
theorem m_type {w : Nat} (hI : vI σ) (hw : w < 6) (hc0 : (w : Int) < σ.2 0 0) (hp : σ.2 2 w = 1) (n1 : σ.2 1 0 < 120) {z y q : Int} (z0 : 0 ≤ z) (z1 : z ≤ (vx σ w 16).length) (y0 : 0 ≤ y) (y1 : y < 27) (q0 : 1 ≤ q) (q1 : q ≤ 6) (hQ : ∀ (x : Int) (σ' : vw_S), vI σ' → Q [.int (jI (x))] σ') : vW vw_rep L xs (50, 0, [some (.ref 8), some (.int (jI ((w : Int)))), some (.int (jI (z))), some (.int (jI (y))), some (.int (jI (q))), none, none], []) σ Q := by
  have hn0 := hI.1.1.1
  refine w1 vi50_0 rfl rfl ?_
  refine w0 vi50_1 rfl rfl ?_
  refine c_presentCopy vi50_2 (by first | omega | exact ve_ix_le _ | exact vk_lat_le _ _ _ _ | assumption) (by first | omega | exact ve_ix_le _ | exact vk_lat_le _ _ _ _ | assumption) (by first | omega | exact ve_ix_le _ | exact vk_lat_le _ _ _ _ | assumption) rfl ?_
  refine w4 vi50_5 rfl rfl ?_
  refine w1 vi50_7 rfl rfl ?_
  refine w1 vi50_8 rfl rfl ?_
  refine vW_len (kk := 0) (i := w) ⟨by decide, hw⟩ (fun hl0 => ?_)
  refine c_see vi50_10 hw hn0.1 hn0.2 rfl (fun σ1 g1 => ?_)
  have hI1 := vI_same hI g1.same
  have e1 : σ1.1 16 0 = vx σ w 16 := g1.2.2 16 (by decide) (by decide)
  have hc1 : (w : Int) < σ1.2 0 0 := by rw [g1.1]; exact hc0
  refine vW_len (kk := 16) (i := 0) ⟨by decide, by decide⟩ (fun hlx => ?_)
  have hlx : (σ1.1 16 0).length ≤ 720 := hlx
  rw [e1] at hlx
  refine w4 vi50_13 rfl rfl ?_
  refine w1 vi50_15 rfl rfl ?_
  refine w0 vi50_17 rfl rfl ?_
  refine c_demandCaret vi50_18 (by decide) z0 (by rw [e1]; exact z1) rfl ?_
  refine w0 vi50_21 rfl rfl ?_
  refine w0 vi50_22 rfl rfl ?_
  refine c_demandLetters vi50_24 y0 y1 q0 q1 rfl ?_
  refine w1 vi50_27 rfl rfl ?_
  refine c_demandRoom vi50_28 hI1.1.1.1.1 (by rw [g1.1]; exact n1) rfl ?_
  refine w1 vi50_31 rfl rfl ?_
  refine w0 vi50_32 rfl rfl ?_
  refine w1 vi50_33 rfl rfl ?_
  refine w1 vi50_35 rfl rfl ?_
  refine w0 vi50_37 rfl rfl ?_
  refine c_cellAhead vi50_38 (by first | omega | exact ve_ix_le _ | exact vk_lat_le _ _ _ _ | assumption) (by first | omega | exact ve_ix_le _ | exact vk_lat_le _ _ _ _ | assumption) (by first | omega | exact ve_ix_le _ | exact vk_lat_le _ _ _ _ | assumption) rfl (fun _ _ => ?_)
  refine w0 vi50_41 rfl rfl ?_
  refine w0 vi50_42 rfl rfl ?_
  refine c_typeBehind vi50_44 hI1 hw hc1 (by rw [g1.1]; exact n1) (by omega) (by omega) y0 y1 q0 q1 rfl (fun σ2 hI2 => ?_)
  refine w1 vi50_47 rfl rfl ?_
  refine w1 vi50_48 rfl rfl ?_
  refine c_see vi50_50 hw hI2.1.1.1.1 hI2.1.1.1.2 rfl (fun σ3 g3 => ?_)
  refine w14v (v := .ref (vw_rr 16 0)) vi50_53 (by first | omega | exact ve_ix_le _ | exact vk_lat_le _ _ _ _ | assumption) rfl ?_
  refine r_size (l := (σ3.1 16 0)) vi50_56 ⟨by decide, (show 0 < 2 by omega)⟩ (by first | rfl | (dsimp only; repeat (first | rw [vw_sr_eq] | rw [vw_sr_ne _ _ (by omega)]))) rfl ?_
  refine w42 vi50_59 vm50.2.2.2 ?_
  exact hQ _ _ (vI_same hI2 g3.same)
theorem c_type (hc : vt_code k pc = (27, 50, b, c)) {w : Nat} (hI : vI σ) (hw : w < 6) (hc0 : (w : Int) < σ.2 0 0) (hp : σ.2 2 w = 1) (n1 : σ.2 1 0 < 120) {z y q : Int} (z0 : 0 ≤ z) (z1 : z ≤ (vx σ w 16).length) (y0 : 0 ≤ y) (y1 : y < 27) (q0 : 1 ≤ q) (q1 : q ≤ 6) (hs : Nat.ble (vj_cat sc) 8 = true) (hQ : ∀ (x : Int) (σ' : vw_S), vI σ' → vW vw_rep L xs (k, pc + 3, lc, .int (jI (x)) :: sc) σ' Q) : vW vw_rep L xs (k, pc, lc, .int (jI (q)) :: .int (jI (y)) :: .int (jI (z)) :: .int (jI ((w : Int))) :: .ref 8 :: sc) σ Q := by
  refine w27 (n := 5) (vs := [.int (jI (q)), .int (jI (y)), .int (jI (z)), .int (jI ((w : Int))), .ref 8]) hc vm50.2.1 rfl (by rw [vm50.2.2.1]; rfl) hs (by simp only [List.length_cons]; omega) ⟨_, rfl⟩ (fun M hM => hM.2.2.2.2.2.1) ⟨by omega, by omega⟩ vm50.1 ?_
  rw [vm50.2.2.1]
  exact m_type hI hw hc0 hp n1 z0 z1 y0 y1 q0 q1 (Q := fun v σ1 => vW vw_rep L xs (k, pc + 3, lc, v ++ sc) σ1 Q) hQ
theorem m_typeAtCaret {w : Nat} (hI : vI σ) (hw : w < 6) (hc0 : (w : Int) < σ.2 0 0) (hp : σ.2 2 w = 1) (n1 : σ.2 1 0 < 120) {y q : Int} (y0 : 0 ≤ y) (y1 : y < 27) (q0 : 1 ≤ q) (q1 : q ≤ 6) (hQ : ∀ (x : Int) (σ' : vw_S), vI σ' → Q [.int (jI (x))] σ') : vW vw_rep L xs (51, 0, [some (.ref 8), some (.int (jI ((w : Int)))), some (.int (jI (y))), some (.int (jI (q))), none], []) σ Q := by
  have hn0 := hI.1.1.1
  refine w1 vi51_0 rfl rfl ?_
  refine w0 vi51_1 rfl rfl ?_
  refine c_presentCopy vi51_2 (by first | omega | exact ve_ix_le _ | exact vk_lat_le _ _ _ _ | assumption) (by first | omega | exact ve_ix_le _ | exact vk_lat_le _ _ _ _ | assumption) (by first | omega | exact ve_ix_le _ | exact vk_lat_le _ _ _ _ | assumption) rfl ?_
  refine w4 vi51_5 rfl rfl ?_
  refine w0 vi51_7 rfl rfl ?_
  refine w0 vi51_8 rfl rfl ?_
  refine c_demandLetters vi51_9 y0 y1 q0 q1 rfl ?_
  refine w1 vi51_12 rfl rfl ?_
  refine c_demandRoom vi51_13 hI.1.1.1.1 n1 rfl ?_
  refine w1 vi51_16 rfl rfl ?_
  refine w0 vi51_17 rfl rfl ?_
  refine w1 vi51_18 rfl rfl ?_
  refine w1 vi51_20 rfl rfl ?_
  refine w14c (v := .int (jI ((σ.2 3 w)))) vi51_22 (by first | omega | exact ve_ix_le _ | exact vk_lat_le _ _ _ _ | assumption) rfl ?_
  refine vW_nR (V := σ.2) rfl 3 (w) (fun _ _ => ?_)
  refine w0 vi51_25 rfl rfl ?_
  refine w0 vi51_26 rfl rfl ?_
  refine c_typeBehind vi51_27 hI hw hc0 n1 (by omega) (by omega) y0 y1 q0 q1 rfl (fun σ2 hI2 => ?_)
  refine w1 vi51_30 rfl rfl ?_
  refine w1 vi51_31 rfl rfl ?_
  refine c_see vi51_33 hw hI2.1.1.1.1 hI2.1.1.1.2 rfl (fun σ3 g3 => ?_)
  refine w1 vi51_36 rfl rfl ?_
  refine w14c (v := .int (jI ((σ3.2 3 w)))) vi51_38 (by first | omega | exact ve_ix_le _ | exact vk_lat_le _ _ _ _ | assumption) rfl ?_
  refine vW_nR (V := σ3.2) rfl 3 (w) (fun _ _ => ?_)
  refine c_positionOfR vi51_41 (by first | omega | exact ve_ix_le _ | exact vk_lat_le _ _ _ _ | assumption) (by first | rfl | (dsimp only; repeat (first | rw [vw_sr_eq] | rw [vw_sr_ne _ _ (by omega)]))) (by first | rfl | (dsimp only; repeat (first | rw [vw_sr_eq] | rw [vw_sr_ne _ _ (by omega)]))) (by first | omega | exact ve_ix_le _ | exact vk_lat_le _ _ _ _ | assumption) (by first | omega | exact ve_ix_le _ | exact vk_lat_le _ _ _ _ | assumption) rfl ?_
  refine w42 vi51_44 vm51.2.2.2 ?_
  exact hQ _ _ (vI_same hI2 g3.same)
theorem c_typeAtCaret (hc : vt_code k pc = (27, 51, b, c)) {w : Nat} (hI : vI σ) (hw : w < 6) (hc0 : (w : Int) < σ.2 0 0) (hp : σ.2 2 w = 1) (n1 : σ.2 1 0 < 120) {y q : Int} (y0 : 0 ≤ y) (y1 : y < 27) (q0 : 1 ≤ q) (q1 : q ≤ 6) (hs : Nat.ble (vj_cat sc) 8 = true) (hQ : ∀ (x : Int) (σ' : vw_S), vI σ' → vW vw_rep L xs (k, pc + 3, lc, .int (jI (x)) :: sc) σ' Q) : vW vw_rep L xs (k, pc, lc, .int (jI (q)) :: .int (jI (y)) :: .int (jI ((w : Int))) :: .ref 8 :: sc) σ Q := by
  refine w27 (n := 4) (vs := [.int (jI (q)), .int (jI (y)), .int (jI ((w : Int))), .ref 8]) hc vm51.2.1 rfl (by rw [vm51.2.2.1]; rfl) hs (by simp only [List.length_cons]; omega) ⟨_, rfl⟩ (fun M hM => hM.2.2.2.2.2.1) ⟨by omega, by omega⟩ vm51.1 ?_
  rw [vm51.2.2.1]
  exact m_typeAtCaret hI hw hc0 hp n1 y0 y1 q0 q1 (Q := fun v σ1 => vW vw_rep L xs (k, pc + 3, lc, v ++ sc) σ1 Q) hQ
theorem m_erase {w : Nat} (hI : vI σ) (hw : w < 6) (hc0 : (w : Int) < σ.2 0 0) (hp : σ.2 2 w = 1) (n1 : σ.2 1 0 < 120) {z q : Int} (z0 : 0 ≤ z) (q0 : 1 ≤ q) (q1 : q ≤ 12) (z1 : z ≤ (vx σ w 16).length - q) (hQ : ∀ (x : Int) (σ' : vw_S), vI σ' → Q [.int (jI (x))] σ') : vW vw_rep L xs (52, 0, [some (.ref 8), some (.int (jI ((w : Int)))), some (.int (jI (z))), some (.int (jI (q))), none, none, none], []) σ Q := by
  have hn0 := hI.1.1.1
  refine w1 vi52_0 rfl rfl ?_
  refine w0 vi52_1 rfl rfl ?_
  refine c_presentCopy vi52_2 (by first | omega | exact ve_ix_le _ | exact vk_lat_le _ _ _ _ | assumption) (by first | omega | exact ve_ix_le _ | exact vk_lat_le _ _ _ _ | assumption) (by first | omega | exact ve_ix_le _ | exact vk_lat_le _ _ _ _ | assumption) rfl ?_
  refine w4 vi52_5 rfl rfl ?_
  refine w1 vi52_7 rfl rfl ?_
  refine w1 vi52_8 rfl rfl ?_
  refine c_see vi52_10 hw hn0.1 hn0.2 rfl (fun σ1 g1 => ?_)
  have hI1 := vI_same hI g1.same
  have e1 : σ1.1 16 0 = vx σ w 16 := g1.2.2 16 (by decide) (by decide)
  have hc1 : (w : Int) < σ1.2 0 0 := by rw [g1.1]; exact hc0
  refine vW_len (kk := 16) (i := 0) ⟨by decide, by decide⟩ (fun hlx => ?_)
  have hlx : (σ1.1 16 0).length ≤ 720 := hlx
  rw [e1] at hlx
  refine w4 vi52_13 rfl rfl ?_
  refine w1 vi52_15 rfl rfl ?_
  refine w0 vi52_17 rfl rfl ?_
  refine w0 vi52_18 rfl rfl ?_
  refine c_demandCovered vi52_19 (by decide) z0 q0 q1 (by rw [e1]; exact z1) rfl ?_
  refine w1 vi52_22 rfl rfl ?_
  refine c_demandRoom vi52_23 hI1.1.1.1.1 (by rw [g1.1]; exact n1) rfl ?_
  refine w1 vi52_26 rfl rfl ?_
  refine w0 vi52_27 rfl rfl ?_
  refine w1 vi52_28 rfl rfl ?_
  refine w58 vi52_30 ?_
  have hbb := (vK_he hI1.1.1 w hw w hw).2
  refine c_begin vi52_33 hw hc1 (by decide) hI1.1.1.1.1 (by rw [g1.1]; exact n1) hbb rfl (fun d σ2 hM hR => ?_)
  have hdd := hM.1
  refine w4 vi52_36 rfl rfl ?_
  refine w1 vi52_38 rfl rfl ?_
  refine w1 vi52_40 rfl rfl ?_
  refine w0 vi52_42 rfl rfl ?_
  refine w0 vi52_43 rfl rfl ?_
  refine c_cover vi52_44 (by omega) (by decide) z0 (by omega) (by omega) q1 rfl (fun σ3 h32 h3r => ?_)
  refine w1 vi52_47 rfl rfl ?_
  refine w1 vi52_49 rfl rfl ?_
  refine w0 vi52_51 rfl rfl ?_
  refine c_cellAhead vi52_52 (by first | omega | exact ve_ix_le _ | exact vk_lat_le _ _ _ _ | assumption) (by first | omega | exact ve_ix_le _ | exact vk_lat_le _ _ _ _ | assumption) (by first | omega | exact ve_ix_le _ | exact vk_lat_le _ _ _ _ | assumption) rfl (fun _ _ => ?_)
  refine w15caretc (z := vp_ahead (σ3.1 16 0) (z)) vi52_55 (by first | omega | exact ve_ix_le _ | exact vk_lat_le _ _ _ _ | assumption) ⟨by omega, by omega⟩ ?_
  try dsimp only
  refine w1 vi52_58 rfl rfl ?_
  refine w1 vi52_59 rfl rfl ?_
  refine w1 vi52_61 rfl rfl ?_
  refine c_finish (σ0 := σ1) vi52_63 hw hI1.1 (hM.to (by dsimp only; rw [vw_sv_ne _ _ (by omega), h32]) (by dsimp only; rw [vw_sv_ne _ _ (by omega), h32]) (by dsimp only; rw [vw_sv_j _ _ _ (by omega), h32]) (by dsimp only; rw [vw_sv_j _ _ _ (by omega), h32]) (by dsimp only; rw [vw_sv_j _ _ _ (by omega), h32]) (fun k' q' => h3r k' (by omega))) hc1 rfl (fun σ4 hJ4 hn4 hr4 => ?_)
  dsimp only at hn4 hr4
  refine w1 vi52_66 rfl rfl ?_
  refine w1 vi52_68 rfl rfl ?_
  refine w14d (v := .int (jI (d : Int))) vi52_70 (by omega) (by show some (Value.int (jI (if d = 120 then -1 else (d : Int)))) = _; rw [if_neg (by omega)]) ?_
  have hr5 : ∀ k', (k' = 3 ∨ k' = 4 ∨ k' = 12 ∨ k' = 13 ∨ k' = 14) → σ4.1 k' = σ1.1 k' := fun k' q' => (hr4 k' q').trans ((h3r k' (by omega)).trans (hR k' (by omega)))
  have hn5 : σ4.2 1 0 = σ2.2 1 0 := by rw [hn4, vw_sv_ne _ _ (by omega), h32]
  refine c_rememberOwn vi52_73 hw (by omega) (by omega) (by rw [hr5 3 (by omega)]; have := hI1.2.2 w hw; omega) rfl (fun lD hlD => ?_)
  have hI5 : vI (vw_sr (vw_sr σ4.1 3 w lD) 4 w [], σ4.2) := vI_own hJ4 hlD (by rw [hn5, hM.2.1, hr5 12 (by omega), hr5 13 (by omega), hr5 14 (by omega)]; exact vC_mono hI1.2.1 (by omega)) (fun i' hi' => by rw [hr5 3 (by omega), hr5 4 (by omega)]; exact hI1.2.2 i' hi')
  refine w1 vi52_76 rfl rfl ?_
  refine w1 vi52_77 rfl rfl ?_
  refine c_see vi52_79 hw hI5.1.1.1.1 hI5.1.1.1.2 rfl (fun σ6 g6 => ?_)
  refine w14v (v := .ref (vw_rr 16 0)) vi52_82 (by first | omega | exact ve_ix_le _ | exact vk_lat_le _ _ _ _ | assumption) rfl ?_
  refine r_size (l := (σ6.1 16 0)) vi52_85 ⟨by decide, (show 0 < 2 by omega)⟩ (by first | rfl | (dsimp only; repeat (first | rw [vw_sr_eq] | rw [vw_sr_ne _ _ (by omega)]))) rfl ?_
  refine w42 vi52_88 vm52.2.2.2 ?_
  exact hQ _ _ (vI_same hI5 g6.same)
theorem c_erase (hc : vt_code k pc = (27, 52, b, c)) {w : Nat} (hI : vI σ) (hw : w < 6) (hc0 : (w : Int) < σ.2 0 0) (hp : σ.2 2 w = 1) (n1 : σ.2 1 0 < 120) {z q : Int} (z0 : 0 ≤ z) (q0 : 1 ≤ q) (q1 : q ≤ 12) (z1 : z ≤ (vx σ w 16).length - q) (hs : Nat.ble (vj_cat sc) 8 = true) (hQ : ∀ (x : Int) (σ' : vw_S), vI σ' → vW vw_rep L xs (k, pc + 3, lc, .int (jI (x)) :: sc) σ' Q) : vW vw_rep L xs (k, pc, lc, .int (jI (q)) :: .int (jI (z)) :: .int (jI ((w : Int))) :: .ref 8 :: sc) σ Q := by
  refine w27 (n := 4) (vs := [.int (jI (q)), .int (jI (z)), .int (jI ((w : Int))), .ref 8]) hc vm52.2.1 rfl (by rw [vm52.2.2.1]; rfl) hs (by simp only [List.length_cons]; omega) ⟨_, rfl⟩ (fun M hM => hM.2.2.2.2.2.1) ⟨by omega, by omega⟩ vm52.1 ?_
  rw [vm52.2.2.1]
  exact m_erase hI hw hc0 hp n1 z0 q0 q1 z1 (Q := fun v σ1 => vW vw_rep L xs (k, pc + 3, lc, v ++ sc) σ1 Q) hQ
theorem m_mark {w : Nat} (hI : vI σ) (hw : w < 6) (hc0 : (w : Int) < σ.2 0 0) (hp : σ.2 2 w = 1) (n1 : σ.2 1 0 < 120) {z q : Int} (z0 : 0 ≤ z) (q0 : 1 ≤ q) (q1 : q ≤ 12) (z1 : z ≤ (vx σ w 16).length - q) {u y : Int} (u0 : 0 ≤ u) (u1 : u < 3) (y0 : y = 0 ∨ y = 1) (hQ : ∀ (x : Int) (σ' : vw_S), vI σ' → Q [.int (jI (x))] σ') : vW vw_rep L xs (53, 0, [some (.ref 8), some (.int (jI ((w : Int)))), some (.int (jI (z))), some (.int (jI (q))), some (.int (jI (u))), some (.int (jI (y))), none, none, none], []) σ Q := by
  have hn0 := hI.1.1.1
  refine w1 vi53_0 rfl rfl ?_
  refine w0 vi53_1 rfl rfl ?_
  refine c_presentCopy vi53_2 (by first | omega | exact ve_ix_le _ | exact vk_lat_le _ _ _ _ | assumption) (by first | omega | exact ve_ix_le _ | exact vk_lat_le _ _ _ _ | assumption) (by first | omega | exact ve_ix_le _ | exact vk_lat_le _ _ _ _ | assumption) rfl ?_
  refine w4 vi53_5 rfl rfl ?_
  refine w1 vi53_7 rfl rfl ?_
  refine w1 vi53_8 rfl rfl ?_
  refine c_see vi53_10 hw hn0.1 hn0.2 rfl (fun σ1 g1 => ?_)
  have hI1 := vI_same hI g1.same
  have e1 : σ1.1 16 0 = vx σ w 16 := g1.2.2 16 (by decide) (by decide)
  have hc1 : (w : Int) < σ1.2 0 0 := by rw [g1.1]; exact hc0
  refine vW_len (kk := 16) (i := 0) ⟨by decide, by decide⟩ (fun hlx => ?_)
  have hlx : (σ1.1 16 0).length ≤ 720 := hlx
  rw [e1] at hlx
  refine w4 vi53_13 rfl rfl ?_
  refine w1 vi53_15 rfl rfl ?_
  refine w0 vi53_17 rfl rfl ?_
  refine w0 vi53_18 rfl rfl ?_
  refine c_demandCovered vi53_19 (by decide) z0 q0 q1 (by rw [e1]; exact z1) rfl ?_
  refine w0 vi53_22 rfl rfl ?_
  refine w7 vi53_24 (vwz_2 ⟨by omega, by omega⟩) (fun h24 => by exfalso; omega) (fun h24 => ?_)
  refine w0 vi53_27 rfl rfl ?_
  refine w2 (3) vi53_29 (by decide) ?_
  refine w8 vi53_30 (vwc_2 ⟨by omega, by omega⟩ ⟨by omega, by omega⟩) (fun h30 => ?_) (fun h30 => by exfalso; omega)
  refine w1 vi53_43 rfl rfl ?_
  refine c_demandRoom vi53_44 hI1.1.1.1.1 (by rw [g1.1]; exact n1) rfl ?_
  refine w1 vi53_47 rfl rfl ?_
  refine w0 vi53_48 rfl rfl ?_
  refine w1 vi53_49 rfl rfl ?_
  refine w58 vi53_51 ?_
  have hbb := (vK_he hI1.1.1 w hw w hw).2
  refine c_begin vi53_54 hw hc1 (by decide) hI1.1.1.1.1 (by rw [g1.1]; exact n1) hbb rfl (fun d σ2 hM hR => ?_)
  have hdd := hM.1
  refine w4 vi53_57 rfl rfl ?_
  refine w1 vi53_59 rfl rfl ?_
  refine w1 vi53_61 rfl rfl ?_
  refine w0 vi53_63 rfl rfl ?_
  refine w0 vi53_64 rfl rfl ?_
  refine c_cover vi53_65 (by omega) (by decide) z0 (by omega) (by omega) q1 rfl (fun σ3 h32 h3r => ?_)
  refine w1 vi53_68 rfl rfl ?_
  refine w0 vi53_70 rfl rfl ?_
  refine w15kind (z := u) vi53_72 (by first | omega | exact ve_ix_le _ | exact vk_lat_le _ _ _ _ | assumption) ⟨by omega, by omega⟩ ?_
  try dsimp only
  refine w1 vi53_75 rfl rfl ?_
  refine w0 vi53_77 rfl rfl ?_
  refine w15ison (z := y) vi53_79 (by first | omega | exact ve_ix_le _ | exact vk_lat_le _ _ _ _ | assumption) ⟨by omega, by omega⟩ (by omega) ?_
  try dsimp only
  refine w1 vi53_82 rfl rfl ?_
  refine w1 vi53_83 rfl rfl ?_
  refine w1 vi53_85 rfl rfl ?_
  refine c_finish (σ0 := σ1) vi53_87 hw hI1.1 (hM.to (by dsimp only; rw [vw_sv_ne _ _ (by omega), vw_sv_ne _ _ (by omega), h32]) (by dsimp only; rw [vw_sv_ne _ _ (by omega), vw_sv_ne _ _ (by omega), h32]) (by dsimp only; rw [vw_sv_j _ _ _ (by omega), vw_sv_j _ _ _ (by omega), h32]) (by dsimp only; rw [vw_sv_j _ _ _ (by omega), vw_sv_j _ _ _ (by omega), h32]) (by dsimp only; rw [vw_sv_j _ _ _ (by omega), vw_sv_j _ _ _ (by omega), h32]) (fun k' q' => h3r k' (by omega))) hc1 rfl (fun σ4 hJ4 hn4 hr4 => ?_)
  dsimp only at hn4 hr4
  refine w1 vi53_90 rfl rfl ?_
  refine w1 vi53_92 rfl rfl ?_
  refine w14d (v := .int (jI (d : Int))) vi53_94 (by omega) (by show some (Value.int (jI (if d = 120 then -1 else (d : Int)))) = _; rw [if_neg (by omega)]) ?_
  have hr5 : ∀ k', (k' = 3 ∨ k' = 4 ∨ k' = 12 ∨ k' = 13 ∨ k' = 14) → σ4.1 k' = σ1.1 k' := fun k' q' => (hr4 k' q').trans ((h3r k' (by omega)).trans (hR k' (by omega)))
  have hn5 : σ4.2 1 0 = σ2.2 1 0 := by rw [hn4, vw_sv_ne _ _ (by omega), vw_sv_ne _ _ (by omega), h32]
  refine c_rememberOwn vi53_97 hw (by omega) (by omega) (by rw [hr5 3 (by omega)]; have := hI1.2.2 w hw; omega) rfl (fun lD hlD => ?_)
  have hI5 : vI (vw_sr (vw_sr σ4.1 3 w lD) 4 w [], σ4.2) := vI_own hJ4 hlD (by rw [hn5, hM.2.1, hr5 12 (by omega), hr5 13 (by omega), hr5 14 (by omega)]; exact vC_mono hI1.2.1 (by omega)) (fun i' hi' => by rw [hr5 3 (by omega), hr5 4 (by omega)]; exact hI1.2.2 i' hi')
  refine w1 vi53_100 rfl rfl ?_
  refine w1 vi53_101 rfl rfl ?_
  refine c_see vi53_103 hw hI5.1.1.1.1 hI5.1.1.1.2 rfl (fun σ6 g6 => ?_)
  refine w1 vi53_106 rfl rfl ?_
  refine w14m (v := .ref 9) vi53_107  rfl ?_
  refine w0 vi53_110 rfl rfl ?_
  refine c_countMarked vi53_112 (by first | omega | exact ve_ix_le _ | exact vk_lat_le _ _ _ _ | assumption) rfl (fun z112 _ _ => ?_)
  refine w42 vi53_115 vm53.2.2.2 ?_
  exact hQ _ _ (vI_same hI5 g6.same)
theorem c_mark (hc : vt_code k pc = (27, 53, b, c)) {w : Nat} (hI : vI σ) (hw : w < 6) (hc0 : (w : Int) < σ.2 0 0) (hp : σ.2 2 w = 1) (n1 : σ.2 1 0 < 120) {z q : Int} (z0 : 0 ≤ z) (q0 : 1 ≤ q) (q1 : q ≤ 12) (z1 : z ≤ (vx σ w 16).length - q) {u y : Int} (u0 : 0 ≤ u) (u1 : u < 3) (y0 : y = 0 ∨ y = 1) (hs : Nat.ble (vj_cat sc) 8 = true) (hQ : ∀ (x : Int) (σ' : vw_S), vI σ' → vW vw_rep L xs (k, pc + 3, lc, .int (jI (x)) :: sc) σ' Q) : vW vw_rep L xs (k, pc, lc, .int (jI (y)) :: .int (jI (u)) :: .int (jI (q)) :: .int (jI (z)) :: .int (jI ((w : Int))) :: .ref 8 :: sc) σ Q := by
  refine w27 (n := 6) (vs := [.int (jI (y)), .int (jI (u)), .int (jI (q)), .int (jI (z)), .int (jI ((w : Int))), .ref 8]) hc vm53.2.1 rfl (by rw [vm53.2.2.1]; rfl) hs (by simp only [List.length_cons]; omega) ⟨_, rfl⟩ (fun M hM => hM.2.2.2.2.2.1) ⟨by omega, by omega⟩ vm53.1 ?_
  rw [vm53.2.2.1]
  exact m_mark hI hw hc0 hp n1 z0 q0 q1 z1 u0 u1 y0 (Q := fun v σ1 => vW vw_rep L xs (k, pc + 3, lc, v ++ sc) σ1 Q) hQ
theorem m_turnU {w : Nat} (hI : vI σ) (hw : w < 6) (hc0 : (w : Int) < σ.2 0 0) (n1 : σ.2 1 0 < 120) (hne : ¬ (σ.1 3 w).length = 0) (hQ : ∀ σ', vI σ' → Q [] σ') : vW vw_rep L xs (105, 0, [some (.ref 8), some (.int (jI ((w : Int)))), some (.ref (vw_cr w)), some (.ref (3 + 1)), none, none, none, none], []) σ Q := by
  refine vW_len (kk := 3) (i := w) ⟨by decide, hw⟩ (fun hls => ?_)
  have hls : (σ.1 3 w).length ≤ 9 := hls
  refine w1 vi105_0 rfl rfl ?_
  refine w58 vi105_1 ?_
  refine w59 vi105_4 (by decide) (by decide) (fun _ => ?_) (fun h => absurd rfl h)
  refine w1 vi105_7 rfl rfl ?_
  refine w14c (v := .ref (vw_rr 3 w)) vi105_8 (by first | omega | exact ve_ix_le _ | exact vk_lat_le _ _ _ _ | assumption) rfl ?_
  refine w5 vi105_11 ?_
  refine w4 vi105_18 rfl rfl ?_
  refine w1 vi105_20 rfl rfl ?_
  refine w58 vi105_21 ?_
  refine w59 vi105_24 (by decide) (by decide) (fun _ => ?_) (fun h => absurd rfl h)
  refine w1 vi105_27 rfl rfl ?_
  refine w14c (v := .ref (vw_rr 4 w)) vi105_28 (by first | omega | exact ve_ix_le _ | exact vk_lat_le _ _ _ _ | assumption) rfl ?_
  refine w5 vi105_31 ?_
  refine w4 vi105_38 rfl rfl ?_
  refine w1 vi105_40 rfl rfl ?_
  refine w1 vi105_42 rfl rfl ?_
  refine r_size (l := (σ.1 3 w)) vi105_44 ⟨by decide, (show w < 6 by omega)⟩ (by first | rfl | (dsimp only; repeat (first | rw [vw_sr_eq] | rw [vw_sr_ne _ _ (by omega)]))) rfl ?_
  refine w2 (1) vi105_47 (by decide) ?_
  refine w10 vi105_48 ?_
  refine r_rem (l := (σ.1 3 w)) (σ2 := ((vw_sr σ.1 3 w (vl_rem (σ.1 3 w) ((((σ.1 3 w).length : Int)) - 1))), σ.2)) vi105_49 ⟨by decide, (show w < 6 by omega)⟩ (by first | rfl | (dsimp only; repeat (first | rw [vw_sr_eq] | rw [vw_sr_ne _ _ (by omega)]))) (by first | omega | exact ve_ix_le _ | exact vk_lat_le _ _ _ _ | assumption) (by first | omega | exact ve_ix_le _ | exact vk_lat_le _ _ _ _ | assumption) rfl rfl (fun _ _ => ?_)
  refine w3 vi105_52 rfl rfl ?_
  refine w1 vi105_54 rfl rfl ?_
  refine w0 vi105_56 rfl rfl ?_
  refine r_add (l := (σ.1 4 w)) (σ2 := ((vw_sr (vw_sr σ.1 3 w (vl_rem (σ.1 3 w) ((((σ.1 3 w).length : Int)) - 1))) 4 w (vl_add (vw_cap 4) (σ.1 4 w) (vl_at (σ.1 3 w) ((((σ.1 3 w).length : Int)) - 1)))), σ.2)) vi105_58 ⟨by decide, (show w < 6 by omega)⟩ (by first | rfl | (dsimp only; repeat (first | rw [vw_sr_eq] | rw [vw_sr_ne _ _ (by omega)]))) (by first | omega | exact ve_ix_le _ | exact vk_lat_le _ _ _ _ | assumption) (by first | omega | exact ve_ix_le _ | exact vk_lat_le _ _ _ _ | assumption) rfl rfl ?_
  refine w1 vi105_61 rfl rfl ?_
  refine w0 vi105_62 rfl rfl ?_
  refine w1 vi105_63 rfl rfl ?_
  refine w1 vi105_64 rfl rfl ?_
  have hlr := vl_rem_len (l := σ.1 3 w) (z := ((σ.1 3 w).length : Int) - 1) (by omega) (by omega)
  have hla := vl_add_len (vw_cap 4) (σ.1 4 w) (vl_at (σ.1 3 w) (((σ.1 3 w).length : Int) - 1))
  have hsum := hI.2.2 w hw
  have hIa : vI ((vw_sr (vw_sr σ.1 3 w (vl_rem (σ.1 3 w) ((((σ.1 3 w).length : Int)) - 1))) 4 w (vl_add (vw_cap 4) (σ.1 4 w) (vl_at (σ.1 3 w) ((((σ.1 3 w).length : Int)) - 1)))), σ.2) := vI_of (σ0 := σ) (vJ_to hI.1 rfl rfl rfl rfl rfl (fun k' q => by dsimp only; rw [vw_sr_j _ _ _ (by omega), vw_sr_j _ _ _ (by omega)])) hI.2.1 (fun i' hi' => by
    dsimp only
    by_cases e : i' = w
    · subst e
      repeat (first | rw [vw_sr_eq] | rw [vw_sr_ne _ _ (by omega)])
      omega
    · repeat (rw [vw_sr_ne _ _ (by omega)])
      exact hI.2.2 i' hi') (fun k' q => by dsimp only; rw [vw_sr_j _ _ _ (by omega), vw_sr_j _ _ _ (by omega)])
  have hbb := (vK_he hIa.1.1 w hw w hw).2
  refine c_begin (σ := ((vw_sr (vw_sr σ.1 3 w (vl_rem (σ.1 3 w) ((((σ.1 3 w).length : Int)) - 1))) 4 w (vl_add (vw_cap 4) (σ.1 4 w) (vl_at (σ.1 3 w) ((((σ.1 3 w).length : Int)) - 1)))), σ.2)) vi105_65 hw hc0 (by decide) hIa.1.1.1.1 n1 hbb rfl (fun d σ1 hM hR => ?_)
  have hdd := hM.1
  refine w4 vi105_68 rfl rfl ?_
  refine w1 vi105_70 rfl rfl ?_
  refine w0 vi105_72 rfl rfl ?_
  refine w15target (z := vl_at (σ.1 3 w) ((((σ.1 3 w).length : Int)) - 1)) vi105_74 (by first | omega | exact ve_ix_le _ | exact vk_lat_le _ _ _ _ | assumption) ⟨by omega, by omega⟩ ?_
  try dsimp only
  refine w1 vi105_77 rfl rfl ?_
  refine w1 vi105_78 rfl rfl ?_
  refine w1 vi105_80 rfl rfl ?_
  refine c_finish (σ0 := ((vw_sr (vw_sr σ.1 3 w (vl_rem (σ.1 3 w) ((((σ.1 3 w).length : Int)) - 1))) 4 w (vl_add (vw_cap 4) (σ.1 4 w) (vl_at (σ.1 3 w) ((((σ.1 3 w).length : Int)) - 1)))), σ.2)) vi105_81 hw hIa.1 (hM.to (by dsimp only; rw [vw_sv_ne _ _ (by omega)]) (by dsimp only; rw [vw_sv_ne _ _ (by omega)]) (by dsimp only; rw [vw_sv_j _ _ _ (by omega)]) (by dsimp only; rw [vw_sv_j _ _ _ (by omega)]) (by dsimp only; rw [vw_sv_j _ _ _ (by omega)]) (fun k' q => rfl)) hc0 rfl (fun σ4 hJ4 hn4 hr4 => ?_)
  dsimp only at hn4 hr4
  refine w43 vi105_84 vm105.2.2.2 ?_
  refine hQ σ4 (vI_deed hIa hM hJ4 (by rw [hn4, vw_sv_ne _ _ (by omega)]) (fun k' q => (hr4 k' (by omega)).trans (hR k' (by omega))) (fun i' hi' => ?_))
  rw [hr4 3 (by omega), hr4 4 (by omega), hR 3 (by omega), hR 4 (by omega)]
  exact hIa.2.2 i' hi'
theorem c_turnU (hc : vt_code k pc = (27, 105, b, c)) {w : Nat} (hI : vI σ) (hw : w < 6) (hc0 : (w : Int) < σ.2 0 0) (n1 : σ.2 1 0 < 120) (hne : ¬ (σ.1 3 w).length = 0) (hs : Nat.ble (vj_cat sc) 8 = true) (hQ : ∀ σ', vI σ' → vW vw_rep L xs (k, pc + 3, lc, sc) σ' Q) : vW vw_rep L xs (k, pc, lc, .ref (3 + 1) :: .ref (vw_cr w) :: .int (jI ((w : Int))) :: .ref 8 :: sc) σ Q := by
  refine w27 (n := 4) (vs := [.ref (3 + 1), .ref (vw_cr w), .int (jI ((w : Int))), .ref 8]) hc vm105.2.1 rfl (by rw [vm105.2.2.1]; rfl) hs (by simp only [List.length_cons]; omega) ⟨_, rfl⟩ (fun M hM => hM.2.2.2.2.2.1) ⟨by omega, by omega⟩ vm105.1 ?_
  rw [vm105.2.2.1]
  exact m_turnU hI hw hc0 n1 hne (Q := fun v σ1 => vW vw_rep L xs (k, pc + 3, lc, v ++ sc) σ1 Q) hQ
theorem m_turnR {w : Nat} (hI : vI σ) (hw : w < 6) (hc0 : (w : Int) < σ.2 0 0) (n1 : σ.2 1 0 < 120) (hne : ¬ (σ.1 4 w).length = 0) (hQ : ∀ σ', vI σ' → Q [] σ') : vW vw_rep L xs (105, 0, [some (.ref 8), some (.int (jI ((w : Int)))), some (.ref (vw_cr w)), some (.ref (4 + 1)), none, none, none, none], []) σ Q := by
  refine vW_len (kk := 4) (i := w) ⟨by decide, hw⟩ (fun hls => ?_)
  have hls : (σ.1 4 w).length ≤ 9 := hls
  refine w1 vi105_0 rfl rfl ?_
  refine w58 vi105_1 ?_
  refine w59 vi105_4 (by decide) (by decide) (fun h => absurd h (by decide)) (fun _ => ?_)
  refine w1 vi105_14 rfl rfl ?_
  refine w14c (v := .ref (vw_rr 4 w)) vi105_15 (by first | omega | exact ve_ix_le _ | exact vk_lat_le _ _ _ _ | assumption) rfl ?_
  refine w4 vi105_18 rfl rfl ?_
  refine w1 vi105_20 rfl rfl ?_
  refine w58 vi105_21 ?_
  refine w59 vi105_24 (by decide) (by decide) (fun h => absurd h (by decide)) (fun _ => ?_)
  refine w1 vi105_34 rfl rfl ?_
  refine w14c (v := .ref (vw_rr 3 w)) vi105_35 (by first | omega | exact ve_ix_le _ | exact vk_lat_le _ _ _ _ | assumption) rfl ?_
  refine w4 vi105_38 rfl rfl ?_
  refine w1 vi105_40 rfl rfl ?_
  refine w1 vi105_42 rfl rfl ?_
  refine r_size (l := (σ.1 4 w)) vi105_44 ⟨by decide, (show w < 6 by omega)⟩ (by first | rfl | (dsimp only; repeat (first | rw [vw_sr_eq] | rw [vw_sr_ne _ _ (by omega)]))) rfl ?_
  refine w2 (1) vi105_47 (by decide) ?_
  refine w10 vi105_48 ?_
  refine r_rem (l := (σ.1 4 w)) (σ2 := ((vw_sr σ.1 4 w (vl_rem (σ.1 4 w) ((((σ.1 4 w).length : Int)) - 1))), σ.2)) vi105_49 ⟨by decide, (show w < 6 by omega)⟩ (by first | rfl | (dsimp only; repeat (first | rw [vw_sr_eq] | rw [vw_sr_ne _ _ (by omega)]))) (by first | omega | exact ve_ix_le _ | exact vk_lat_le _ _ _ _ | assumption) (by first | omega | exact ve_ix_le _ | exact vk_lat_le _ _ _ _ | assumption) rfl rfl (fun _ _ => ?_)
  refine w3 vi105_52 rfl rfl ?_
  refine w1 vi105_54 rfl rfl ?_
  refine w0 vi105_56 rfl rfl ?_
  refine r_add (l := (σ.1 3 w)) (σ2 := ((vw_sr (vw_sr σ.1 4 w (vl_rem (σ.1 4 w) ((((σ.1 4 w).length : Int)) - 1))) 3 w (vl_add (vw_cap 3) (σ.1 3 w) (vl_at (σ.1 4 w) ((((σ.1 4 w).length : Int)) - 1)))), σ.2)) vi105_58 ⟨by decide, (show w < 6 by omega)⟩ (by first | rfl | (dsimp only; repeat (first | rw [vw_sr_eq] | rw [vw_sr_ne _ _ (by omega)]))) (by first | omega | exact ve_ix_le _ | exact vk_lat_le _ _ _ _ | assumption) (by first | omega | exact ve_ix_le _ | exact vk_lat_le _ _ _ _ | assumption) rfl rfl ?_
  refine w1 vi105_61 rfl rfl ?_
  refine w0 vi105_62 rfl rfl ?_
  refine w1 vi105_63 rfl rfl ?_
  refine w1 vi105_64 rfl rfl ?_
  have hlr := vl_rem_len (l := σ.1 4 w) (z := ((σ.1 4 w).length : Int) - 1) (by omega) (by omega)
  have hla := vl_add_len (vw_cap 3) (σ.1 3 w) (vl_at (σ.1 4 w) (((σ.1 4 w).length : Int) - 1))
  have hsum := hI.2.2 w hw
  have hIa : vI ((vw_sr (vw_sr σ.1 4 w (vl_rem (σ.1 4 w) ((((σ.1 4 w).length : Int)) - 1))) 3 w (vl_add (vw_cap 3) (σ.1 3 w) (vl_at (σ.1 4 w) ((((σ.1 4 w).length : Int)) - 1)))), σ.2) := vI_of (σ0 := σ) (vJ_to hI.1 rfl rfl rfl rfl rfl (fun k' q => by dsimp only; rw [vw_sr_j _ _ _ (by omega), vw_sr_j _ _ _ (by omega)])) hI.2.1 (fun i' hi' => by
    dsimp only
    by_cases e : i' = w
    · subst e
      repeat (first | rw [vw_sr_eq] | rw [vw_sr_ne _ _ (by omega)])
      omega
    · repeat (rw [vw_sr_ne _ _ (by omega)])
      exact hI.2.2 i' hi') (fun k' q => by dsimp only; rw [vw_sr_j _ _ _ (by omega), vw_sr_j _ _ _ (by omega)])
  have hbb := (vK_he hIa.1.1 w hw w hw).2
  refine c_begin (σ := ((vw_sr (vw_sr σ.1 4 w (vl_rem (σ.1 4 w) ((((σ.1 4 w).length : Int)) - 1))) 3 w (vl_add (vw_cap 3) (σ.1 3 w) (vl_at (σ.1 4 w) ((((σ.1 4 w).length : Int)) - 1)))), σ.2)) vi105_65 hw hc0 (by decide) hIa.1.1.1.1 n1 hbb rfl (fun d σ1 hM hR => ?_)
  have hdd := hM.1
  refine w4 vi105_68 rfl rfl ?_
  refine w1 vi105_70 rfl rfl ?_
  refine w0 vi105_72 rfl rfl ?_
  refine w15target (z := vl_at (σ.1 4 w) ((((σ.1 4 w).length : Int)) - 1)) vi105_74 (by first | omega | exact ve_ix_le _ | exact vk_lat_le _ _ _ _ | assumption) ⟨by omega, by omega⟩ ?_
  try dsimp only
  refine w1 vi105_77 rfl rfl ?_
  refine w1 vi105_78 rfl rfl ?_
  refine w1 vi105_80 rfl rfl ?_
  refine c_finish (σ0 := ((vw_sr (vw_sr σ.1 4 w (vl_rem (σ.1 4 w) ((((σ.1 4 w).length : Int)) - 1))) 3 w (vl_add (vw_cap 3) (σ.1 3 w) (vl_at (σ.1 4 w) ((((σ.1 4 w).length : Int)) - 1)))), σ.2)) vi105_81 hw hIa.1 (hM.to (by dsimp only; rw [vw_sv_ne _ _ (by omega)]) (by dsimp only; rw [vw_sv_ne _ _ (by omega)]) (by dsimp only; rw [vw_sv_j _ _ _ (by omega)]) (by dsimp only; rw [vw_sv_j _ _ _ (by omega)]) (by dsimp only; rw [vw_sv_j _ _ _ (by omega)]) (fun k' q => rfl)) hc0 rfl (fun σ4 hJ4 hn4 hr4 => ?_)
  dsimp only at hn4 hr4
  refine w43 vi105_84 vm105.2.2.2 ?_
  refine hQ σ4 (vI_deed hIa hM hJ4 (by rw [hn4, vw_sv_ne _ _ (by omega)]) (fun k' q => (hr4 k' (by omega)).trans (hR k' (by omega))) (fun i' hi' => ?_))
  rw [hr4 3 (by omega), hr4 4 (by omega), hR 3 (by omega), hR 4 (by omega)]
  exact hIa.2.2 i' hi'
theorem c_turnR (hc : vt_code k pc = (27, 105, b, c)) {w : Nat} (hI : vI σ) (hw : w < 6) (hc0 : (w : Int) < σ.2 0 0) (n1 : σ.2 1 0 < 120) (hne : ¬ (σ.1 4 w).length = 0) (hs : Nat.ble (vj_cat sc) 8 = true) (hQ : ∀ σ', vI σ' → vW vw_rep L xs (k, pc + 3, lc, sc) σ' Q) : vW vw_rep L xs (k, pc, lc, .ref (4 + 1) :: .ref (vw_cr w) :: .int (jI ((w : Int))) :: .ref 8 :: sc) σ Q := by
  refine w27 (n := 4) (vs := [.ref (4 + 1), .ref (vw_cr w), .int (jI ((w : Int))), .ref 8]) hc vm105.2.1 rfl (by rw [vm105.2.2.1]; rfl) hs (by simp only [List.length_cons]; omega) ⟨_, rfl⟩ (fun M hM => hM.2.2.2.2.2.1) ⟨by omega, by omega⟩ vm105.1 ?_
  rw [vm105.2.2.1]
  exact m_turnR hI hw hc0 n1 hne (Q := fun v σ1 => vW vw_rep L xs (k, pc + 3, lc, v ++ sc) σ1 Q) hQ
theorem m_undo {w : Nat} (hI : vI σ) (hw : w < 6) (hc0 : (w : Int) < σ.2 0 0) (hp : σ.2 2 w = 1) (n1 : σ.2 1 0 < 120) (hne : ¬ (σ.1 3 w).length = 0) (hQ : ∀ (x : Int) (σ' : vw_S), vI σ' → Q [.int (jI (x))] σ') : vW vw_rep L xs (54, 0, [some (.ref 8), some (.int (jI ((w : Int)))), none], []) σ Q := by
  refine vW_len (kk := 3) (i := w) ⟨by decide, hw⟩ (fun hls => ?_)
  have hls : (σ.1 3 w).length ≤ 9 := hls
  refine w1 vi54_0 rfl rfl ?_
  refine w0 vi54_1 rfl rfl ?_
  refine c_presentCopy vi54_2 (by first | omega | exact ve_ix_le _ | exact vk_lat_le _ _ _ _ | assumption) (by first | omega | exact ve_ix_le _ | exact vk_lat_le _ _ _ _ | assumption) (by first | omega | exact ve_ix_le _ | exact vk_lat_le _ _ _ _ | assumption) rfl ?_
  refine w4 vi54_5 rfl rfl ?_
  refine w1 vi54_6 rfl rfl ?_
  refine w14c (v := .ref (vw_rr 3 w)) vi54_7 (by first | omega | exact ve_ix_le _ | exact vk_lat_le _ _ _ _ | assumption) rfl ?_
  refine r_size (l := (σ.1 3 w)) vi54_10 ⟨by decide, (show w < 6 by omega)⟩ (by first | rfl | (dsimp only; repeat (first | rw [vw_sr_eq] | rw [vw_sr_ne _ _ (by omega)]))) rfl ?_
  refine w7 vi54_13 (vwz_1 ⟨by omega, by omega⟩) (fun h13 => ?_) (fun h13 => by exfalso; omega)
  refine w1 vi54_26 rfl rfl ?_
  refine c_demandRoom vi54_27 hI.1.1.1.1 n1 rfl ?_
  refine w1 vi54_30 rfl rfl ?_
  refine w0 vi54_31 rfl rfl ?_
  refine w1 vi54_32 rfl rfl ?_
  refine w58 vi54_33 ?_
  refine c_turnU vi54_36 hI hw hc0 n1 hne rfl (fun σ2 hI2 => ?_)
  refine w1 vi54_39 rfl rfl ?_
  refine w1 vi54_40 rfl rfl ?_
  refine c_see vi54_41 hw hI2.1.1.1.1 hI2.1.1.1.2 rfl (fun σ3 g3 => ?_)
  refine w14v (v := .ref (vw_rr 16 0)) vi54_44 (by first | omega | exact ve_ix_le _ | exact vk_lat_le _ _ _ _ | assumption) rfl ?_
  refine r_size (l := (σ3.1 16 0)) vi54_47 ⟨by decide, (show 0 < 2 by omega)⟩ (by first | rfl | (dsimp only; repeat (first | rw [vw_sr_eq] | rw [vw_sr_ne _ _ (by omega)]))) rfl ?_
  refine w42 vi54_50 vm54.2.2.2 ?_
  exact hQ _ _ (vI_same hI2 g3.same)
theorem c_undo (hc : vt_code k pc = (27, 54, b, c)) {w : Nat} (hI : vI σ) (hw : w < 6) (hc0 : (w : Int) < σ.2 0 0) (hp : σ.2 2 w = 1) (n1 : σ.2 1 0 < 120) (hne : ¬ (σ.1 3 w).length = 0) (hs : Nat.ble (vj_cat sc) 8 = true) (hQ : ∀ (x : Int) (σ' : vw_S), vI σ' → vW vw_rep L xs (k, pc + 3, lc, .int (jI (x)) :: sc) σ' Q) : vW vw_rep L xs (k, pc, lc, .int (jI ((w : Int))) :: .ref 8 :: sc) σ Q := by
  refine w27 (n := 2) (vs := [.int (jI ((w : Int))), .ref 8]) hc vm54.2.1 rfl (by rw [vm54.2.2.1]; rfl) hs (by simp only [List.length_cons]; omega) ⟨_, rfl⟩ (fun M hM => hM.2.2.2.2.2.1) ⟨by omega, by omega⟩ vm54.1 ?_
  rw [vm54.2.2.1]
  exact m_undo hI hw hc0 hp n1 hne (Q := fun v σ1 => vW vw_rep L xs (k, pc + 3, lc, v ++ sc) σ1 Q) hQ
theorem m_redo {w : Nat} (hI : vI σ) (hw : w < 6) (hc0 : (w : Int) < σ.2 0 0) (hp : σ.2 2 w = 1) (n1 : σ.2 1 0 < 120) (hne : ¬ (σ.1 4 w).length = 0) (hQ : ∀ (x : Int) (σ' : vw_S), vI σ' → Q [.int (jI (x))] σ') : vW vw_rep L xs (55, 0, [some (.ref 8), some (.int (jI ((w : Int)))), none], []) σ Q := by
  refine vW_len (kk := 4) (i := w) ⟨by decide, hw⟩ (fun hls => ?_)
  have hls : (σ.1 4 w).length ≤ 9 := hls
  refine w1 vi55_0 rfl rfl ?_
  refine w0 vi55_1 rfl rfl ?_
  refine c_presentCopy vi55_2 (by first | omega | exact ve_ix_le _ | exact vk_lat_le _ _ _ _ | assumption) (by first | omega | exact ve_ix_le _ | exact vk_lat_le _ _ _ _ | assumption) (by first | omega | exact ve_ix_le _ | exact vk_lat_le _ _ _ _ | assumption) rfl ?_
  refine w4 vi55_5 rfl rfl ?_
  refine w1 vi55_6 rfl rfl ?_
  refine w14c (v := .ref (vw_rr 4 w)) vi55_7 (by first | omega | exact ve_ix_le _ | exact vk_lat_le _ _ _ _ | assumption) rfl ?_
  refine r_size (l := (σ.1 4 w)) vi55_10 ⟨by decide, (show w < 6 by omega)⟩ (by first | rfl | (dsimp only; repeat (first | rw [vw_sr_eq] | rw [vw_sr_ne _ _ (by omega)]))) rfl ?_
  refine w7 vi55_13 (vwz_1 ⟨by omega, by omega⟩) (fun h13 => ?_) (fun h13 => by exfalso; omega)
  refine w1 vi55_26 rfl rfl ?_
  refine c_demandRoom vi55_27 hI.1.1.1.1 n1 rfl ?_
  refine w1 vi55_30 rfl rfl ?_
  refine w0 vi55_31 rfl rfl ?_
  refine w1 vi55_32 rfl rfl ?_
  refine w58 vi55_33 ?_
  refine c_turnR vi55_36 hI hw hc0 n1 hne rfl (fun σ2 hI2 => ?_)
  refine w1 vi55_39 rfl rfl ?_
  refine w1 vi55_40 rfl rfl ?_
  refine c_see vi55_41 hw hI2.1.1.1.1 hI2.1.1.1.2 rfl (fun σ3 g3 => ?_)
  refine w14v (v := .ref (vw_rr 16 0)) vi55_44 (by first | omega | exact ve_ix_le _ | exact vk_lat_le _ _ _ _ | assumption) rfl ?_
  refine r_size (l := (σ3.1 16 0)) vi55_47 ⟨by decide, (show 0 < 2 by omega)⟩ (by first | rfl | (dsimp only; repeat (first | rw [vw_sr_eq] | rw [vw_sr_ne _ _ (by omega)]))) rfl ?_
  refine w42 vi55_50 vm55.2.2.2 ?_
  exact hQ _ _ (vI_same hI2 g3.same)
theorem c_redo (hc : vt_code k pc = (27, 55, b, c)) {w : Nat} (hI : vI σ) (hw : w < 6) (hc0 : (w : Int) < σ.2 0 0) (hp : σ.2 2 w = 1) (n1 : σ.2 1 0 < 120) (hne : ¬ (σ.1 4 w).length = 0) (hs : Nat.ble (vj_cat sc) 8 = true) (hQ : ∀ (x : Int) (σ' : vw_S), vI σ' → vW vw_rep L xs (k, pc + 3, lc, .int (jI (x)) :: sc) σ' Q) : vW vw_rep L xs (k, pc, lc, .int (jI ((w : Int))) :: .ref 8 :: sc) σ Q := by
  refine w27 (n := 2) (vs := [.int (jI ((w : Int))), .ref 8]) hc vm55.2.1 rfl (by rw [vm55.2.2.1]; rfl) hs (by simp only [List.length_cons]; omega) ⟨_, rfl⟩ (fun M hM => hM.2.2.2.2.2.1) ⟨by omega, by omega⟩ vm55.1 ?_
  rw [vm55.2.2.1]
  exact m_redo hI hw hc0 hp n1 hne (Q := fun v σ1 => vW vw_rep L xs (k, pc + 3, lc, v ++ sc) σ1 Q) hQ
theorem m_moveCaret {w : Nat} (hI : vI σ) (hw : w < 6) (hc0 : (w : Int) < σ.2 0 0) (hp : σ.2 2 w = 1) {z : Int} (z0 : 0 ≤ z) (z1 : z ≤ (vx σ w 16).length) (hQ : ∀ (x : Int) (σ' : vw_S), vI σ' → Q [.int (jI (x))] σ') : vW vw_rep L xs (56, 0, [some (.ref 8), some (.int (jI ((w : Int)))), some (.int (jI (z))), none, none, none], []) σ Q := by
  have hn0 := hI.1.1.1
  refine w1 vi56_0 rfl rfl ?_
  refine w0 vi56_1 rfl rfl ?_
  refine c_presentCopy vi56_2 (by first | omega | exact ve_ix_le _ | exact vk_lat_le _ _ _ _ | assumption) (by first | omega | exact ve_ix_le _ | exact vk_lat_le _ _ _ _ | assumption) (by first | omega | exact ve_ix_le _ | exact vk_lat_le _ _ _ _ | assumption) rfl ?_
  refine w4 vi56_5 rfl rfl ?_
  refine w1 vi56_6 rfl rfl ?_
  refine w1 vi56_7 rfl rfl ?_
  refine c_see vi56_8 hw hn0.1 hn0.2 rfl (fun σ1 g1 => ?_)
  have hI1 := vI_same hI g1.same
  have e1 : σ1.1 16 0 = vx σ w 16 := g1.2.2 16 (by decide) (by decide)
  have hc1 : (w : Int) < σ1.2 0 0 := by rw [g1.1]; exact hc0
  refine vW_len (kk := 16) (i := 0) ⟨by decide, by decide⟩ (fun hlx => ?_)
  have hlx : (σ1.1 16 0).length ≤ 720 := hlx
  rw [e1] at hlx
  refine w4 vi56_11 rfl rfl ?_
  refine w1 vi56_13 rfl rfl ?_
  refine w0 vi56_15 rfl rfl ?_
  refine c_demandCaret vi56_16 (by decide) z0 (by rw [e1]; exact z1) rfl ?_
  refine w1 vi56_19 rfl rfl ?_
  refine w1 vi56_21 rfl rfl ?_
  refine w14c (v := .int (jI ((σ1.2 3 w)))) vi56_22 (by first | omega | exact ve_ix_le _ | exact vk_lat_le _ _ _ _ | assumption) rfl ?_
  refine vW_nR (V := σ1.2) rfl 3 (w) (fun _ _ => ?_)
  refine c_positionOfR vi56_25 (by first | omega | exact ve_ix_le _ | exact vk_lat_le _ _ _ _ | assumption) (by first | rfl | (dsimp only; repeat (first | rw [vw_sr_eq] | rw [vw_sr_ne _ _ (by omega)]))) (by first | rfl | (dsimp only; repeat (first | rw [vw_sr_eq] | rw [vw_sr_ne _ _ (by omega)]))) (by first | omega | exact ve_ix_le _ | exact vk_lat_le _ _ _ _ | assumption) (by first | omega | exact ve_ix_le _ | exact vk_lat_le _ _ _ _ | assumption) rfl ?_
  refine w3 vi56_28 rfl rfl ?_
  refine w1 vi56_30 rfl rfl ?_
  refine w1 vi56_31 rfl rfl ?_
  refine w0 vi56_33 rfl rfl ?_
  refine c_cellAhead vi56_34 (by first | omega | exact ve_ix_le _ | exact vk_lat_le _ _ _ _ | assumption) (by first | omega | exact ve_ix_le _ | exact vk_lat_le _ _ _ _ | assumption) (by first | omega | exact ve_ix_le _ | exact vk_lat_le _ _ _ _ | assumption) rfl (fun _ _ => ?_)
  refine w15caretc (z := vp_ahead (σ1.1 16 0) (z)) vi56_37 (by first | omega | exact ve_ix_le _ | exact vk_lat_le _ _ _ _ | assumption) ⟨by omega, by omega⟩ ?_
  try dsimp only
  refine w0 vi56_40 rfl rfl ?_
  refine w42 vi56_42 vm56.2.2.2 ?_
  exact hQ _ _ (vI_to hI1 (by dsimp only; rw [vw_sv_ne _ _ (by omega)]) (by dsimp only; rw [vw_sv_ne _ _ (by omega)]) (by dsimp only; rw [vw_sv_j _ _ _ (by omega)]) (by dsimp only; rw [vw_sv_j _ _ _ (by omega)]) (by dsimp only; rw [vw_sv_j _ _ _ (by omega)]) (fun k' _ _ _ => rfl))
theorem c_moveCaret (hc : vt_code k pc = (27, 56, b, c)) {w : Nat} (hI : vI σ) (hw : w < 6) (hc0 : (w : Int) < σ.2 0 0) (hp : σ.2 2 w = 1) {z : Int} (z0 : 0 ≤ z) (z1 : z ≤ (vx σ w 16).length) (hs : Nat.ble (vj_cat sc) 8 = true) (hQ : ∀ (x : Int) (σ' : vw_S), vI σ' → vW vw_rep L xs (k, pc + 3, lc, .int (jI (x)) :: sc) σ' Q) : vW vw_rep L xs (k, pc, lc, .int (jI (z)) :: .int (jI ((w : Int))) :: .ref 8 :: sc) σ Q := by
  refine w27 (n := 3) (vs := [.int (jI (z)), .int (jI ((w : Int))), .ref 8]) hc vm56.2.1 rfl (by rw [vm56.2.2.1]; rfl) hs (by simp only [List.length_cons]; omega) ⟨_, rfl⟩ (fun M hM => hM.2.2.2.2.2.1) ⟨by omega, by omega⟩ vm56.1 ?_
  rw [vm56.2.2.1]
  exact m_moveCaret hI hw hc0 hp z0 z1 (Q := fun v σ1 => vW vw_rep L xs (k, pc + 3, lc, v ++ sc) σ1 Q) hQ
end VW19
