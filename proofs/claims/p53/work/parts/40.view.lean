/-! ===== what a writer sees: the whole of it, and what is read off ===== -/
section VW12
def vq_vw (σ : vw_S) (l : List Int) (n : Nat) (tb : Int) (k : Nat) : List Int :=
  let Kn := vq_kn (σ.2 1 0) l n
  let Ef := vl_put (vq_ef σ.2 Kn (σ.2 1 0).toNat) tb 0
  let Cv := vq_cv (σ.1 5) σ.2 Ef (σ.1 12 0).length (σ.2 1 0).toNat
  let Ga := vq_ga (σ.1 13 0) (σ.1 14 0) Kn Ef Cv.1 (σ.1 12 0).length (σ.1 12 0).length
  if k = 15 then Ga.1 else if k = 16 then Ga.2.1 else if k = 17 then Kn else if k = 18 then Ef else if k = 19 then Cv.1 else if k = 20 then Ga.2.2 else Cv.2
def vq_rd (σ : vw_S) (v : Nat) (l : List Int) (n : Nat) (tb : Int) (σ' : vw_S) : Prop :=
  σ'.2 = σ.2 ∧ (∀ k i, ¬ (15 ≤ k ∧ k ≤ 21 ∧ i = v) → σ'.1 k i = σ.1 k i) ∧ ∀ k, 15 ≤ k → k ≤ 21 → σ'.1 k v = vq_vw σ l n tb k
variable {L : Nat} {xs : Nat → Int32} {σ σ2 : vw_S} {Q : List Value → vw_S → Prop} {k pc a b c kk i : Nat} {lc : List (Option Value)} {sc : List Value} {fr : vj_F} {l l12 l13 l14 l17 l18 l19 : List Int} {r5 : Nat → List Int} {V : Nat → Nat → Int} {z y : Int}
theorem c_weR (hc : vt_code k pc = (27, 39, b, c)) {v : Nat} (hv : v < 2) (n0 : 0 ≤ V 1 0) (n1 : V 1 0 ≤ 120) (hV : σ.2 = V) (hr : σ.1 17 v = l17) (he : (vw_sr σ.1 18 v (vq_ef V l17 (V 1 0).toNat), σ.2) = σ2) (hs : Nat.ble (vj_cat sc) 8 = true) (t : vW vw_rep L xs (k, pc + 3, lc, sc) σ2 Q) : vW vw_rep L xs (k, pc, lc, .ref 9 :: .ref (vw_vr v) :: sc) σ Q := by
  subst hV; subst hr; subst he; exact c_weighEffects hc hv n0 n1 hs t
theorem c_wcR (hc : vt_code k pc = (27, 40, b, c)) {v : Nat} (hv : v < 2) (n0 : 0 ≤ V 1 0) (n1 : V 1 0 ≤ 120) (hV : σ.2 = V) (h5 : σ.1 5 = r5) (hr : σ.1 18 v = l18) (h12 : σ.1 12 0 = l12) (he : (vw_sr (vw_sr σ.1 19 v (vq_cv r5 V l18 l12.length (V 1 0).toNat).1) 21 v (vq_cv r5 V l18 l12.length (V 1 0).toNat).2, σ.2) = σ2) (hs : Nat.ble (vj_cat sc) 8 = true) (t : vW vw_rep L xs (k, pc + 3, lc, sc) σ2 Q) : vW vw_rep L xs (k, pc, lc, .ref 9 :: .ref (vw_vr v) :: sc) σ Q := by
  subst hV; subst h5; subst hr; subst h12; subst he; exact c_weighCovered hc hv n0 n1 hs t
theorem c_gaR (hc : vt_code k pc = (27, 42, b, c)) {v : Nat} (hv : v < 2) (h12 : σ.1 12 0 = l12) (h13 : σ.1 13 0 = l13) (h14 : σ.1 14 0 = l14) (h17 : σ.1 17 v = l17) (h18 : σ.1 18 v = l18) (h19 : σ.1 19 v = l19) (he : (vw_sr (vw_sr (vw_sr σ.1 15 v (vq_ga l13 l14 l17 l18 l19 l12.length l12.length).1) 16 v (vq_ga l13 l14 l17 l18 l19 l12.length l12.length).2.1) 20 v (vq_ga l13 l14 l17 l18 l19 l12.length l12.length).2.2, σ.2) = σ2) (hs : Nat.ble (vj_cat sc) 8 = true) (t : vW vw_rep L xs (k, pc + 3, lc, sc) σ2 Q) : vW vw_rep L xs (k, pc, lc, .ref 9 :: .ref (vw_vr v) :: sc) σ Q := by
  subst h12; subst h13; subst h14; subst h17; subst h18; subst h19; subst he; exact c_gatherCells hc hv hs t
theorem m_read_loop {v : Nat} (hv : v < 2) (n0 : 0 ≤ σ.2 1 0) (n1 : σ.2 1 0 ≤ 120) {kk ii n : Nat} {tb : Int} (hk : vw_ok kk ii) (hkk : kk < 15) (hn : n ≤ 120) (t0 : -2147483648 ≤ tb) (t1 : tb < 2147483648) (hQ : ∀ σ', vq_rd σ v (σ.1 kk ii) n tb σ' → Q [] σ') : ∀ (e j : Nat), j + e = n → vW vw_rep L xs (38, 15, [some (.ref (vw_vr v)), some (.ref 9), some (.ref (vw_rr kk ii)), some (.int (jI ((n : Int)))), some (.int (jI (tb))), some (.int (jI ((j : Int))))], []) ((vw_sr σ.1 17 v (vf (fun j e => vl_put e (vl_at (σ.1 kk ii) (j : Int)) 1) j (vl_fill 120 (σ.2 1 0) 0))), σ.2) Q := by
  intro e
  induction e with
  | zero =>
    intro j hj
    refine w0 vi38_15 rfl rfl ?_
    refine w0 vi38_17 rfl rfl ?_
    refine w8 vi38_18 (vwc_3 ⟨by omega, by omega⟩ ⟨by omega, by omega⟩) (fun h18 => ?_) (fun h18 => by exfalso; omega)
    refine w1 vi38_41 rfl rfl ?_
    refine w1 vi38_42 rfl rfl ?_
    rw [show j = n by omega]
    refine c_weR (V := σ.2) (l17 := (vq_kn (σ.2 1 0) (σ.1 kk ii) n)) (σ2 := ((vw_sr (vw_sr σ.1 17 v (vq_kn (σ.2 1 0) (σ.1 kk ii) n)) 18 v (vq_ef σ.2 (vq_kn (σ.2 1 0) (σ.1 kk ii) n) (σ.2 1 0).toNat)), σ.2)) vi38_43 hv n0 n1 rfl (by dsimp only; rw [vw_sr_eq]; rfl) rfl rfl ?_
    refine w1 vi38_46 rfl rfl ?_
    refine w14v (v := .ref (vw_rr 18 v)) vi38_47 (by first | omega | exact ve_ix_le _ | exact vk_lat_le _ _ _ _ | assumption) rfl ?_
    refine w0 vi38_50 rfl rfl ?_
    refine w2 (0) vi38_52 (by decide) ?_
    refine r_put (l := (vq_ef σ.2 (vq_kn (σ.2 1 0) (σ.1 kk ii) n) (σ.2 1 0).toNat)) (σ2 := ((vw_sr (vw_sr σ.1 17 v (vq_kn (σ.2 1 0) (σ.1 kk ii) n)) 18 v (vl_put (vq_ef σ.2 (vq_kn (σ.2 1 0) (σ.1 kk ii) n) (σ.2 1 0).toNat) (tb) (0))), σ.2)) vi38_53 ⟨by decide, (show v < 2 by omega)⟩ (by first | rfl | (dsimp only; repeat (first | rw [vw_sr_eq] | rw [vw_sr_ne _ _ (by omega)]))) (by first | omega | exact ve_ix_le _ | exact vk_lat_le _ _ _ _ | assumption) (by first | omega | exact ve_ix_le _ | exact vk_lat_le _ _ _ _ | assumption) (by first | omega | exact ve_ix_le _ | exact vk_lat_le _ _ _ _ | assumption) (by first | omega | exact ve_ix_le _ | exact vk_lat_le _ _ _ _ | assumption) (by dsimp only; rw [vw_sr_sr]; try rfl) rfl ?_
    refine w1 vi38_56 rfl rfl ?_
    refine w1 vi38_57 rfl rfl ?_
    refine c_wcR (V := σ.2) (r5 := σ.1 5) (l18 := (vl_put (vq_ef σ.2 (vq_kn (σ.2 1 0) (σ.1 kk ii) n) (σ.2 1 0).toNat) tb 0)) (l12 := σ.1 12 0) (σ2 := ((vw_sr (vw_sr (vw_sr (vw_sr σ.1 17 v (vq_kn (σ.2 1 0) (σ.1 kk ii) n)) 18 v (vl_put (vq_ef σ.2 (vq_kn (σ.2 1 0) (σ.1 kk ii) n) (σ.2 1 0).toNat) (tb) (0))) 19 v ((vq_cv (σ.1 5) σ.2 (vl_put (vq_ef σ.2 (vq_kn (σ.2 1 0) (σ.1 kk ii) n) (σ.2 1 0).toNat) tb 0) (σ.1 12 0).length (σ.2 1 0).toNat).1)) 21 v ((vq_cv (σ.1 5) σ.2 (vl_put (vq_ef σ.2 (vq_kn (σ.2 1 0) (σ.1 kk ii) n) (σ.2 1 0).toNat) tb 0) (σ.1 12 0).length (σ.2 1 0).toNat).2)), σ.2)) vi38_58 hv n0 n1 rfl (by dsimp only; repeat (rw [vw_sr_j _ _ _ (by omega)])) (by first | rfl | (dsimp only; repeat (first | rw [vw_sr_eq] | rw [vw_sr_ne _ _ (by omega)]))) (by first | rfl | (dsimp only; repeat (first | rw [vw_sr_eq] | rw [vw_sr_ne _ _ (by omega)]))) rfl rfl ?_
    refine w1 vi38_61 rfl rfl ?_
    refine w1 vi38_62 rfl rfl ?_
    refine c_gaR (l12 := σ.1 12 0) (l13 := σ.1 13 0) (l14 := σ.1 14 0) (l17 := (vq_kn (σ.2 1 0) (σ.1 kk ii) n)) (l18 := (vl_put (vq_ef σ.2 (vq_kn (σ.2 1 0) (σ.1 kk ii) n) (σ.2 1 0).toNat) tb 0)) (l19 := (vq_cv (σ.1 5) σ.2 (vl_put (vq_ef σ.2 (vq_kn (σ.2 1 0) (σ.1 kk ii) n) (σ.2 1 0).toNat) tb 0) (σ.1 12 0).length (σ.2 1 0).toNat).1) (σ2 := ((vw_sr (vw_sr (vw_sr (vw_sr (vw_sr (vw_sr (vw_sr σ.1 17 v (vq_kn (σ.2 1 0) (σ.1 kk ii) n)) 18 v (vl_put (vq_ef σ.2 (vq_kn (σ.2 1 0) (σ.1 kk ii) n) (σ.2 1 0).toNat) (tb) (0))) 19 v ((vq_cv (σ.1 5) σ.2 (vl_put (vq_ef σ.2 (vq_kn (σ.2 1 0) (σ.1 kk ii) n) (σ.2 1 0).toNat) tb 0) (σ.1 12 0).length (σ.2 1 0).toNat).1)) 21 v ((vq_cv (σ.1 5) σ.2 (vl_put (vq_ef σ.2 (vq_kn (σ.2 1 0) (σ.1 kk ii) n) (σ.2 1 0).toNat) tb 0) (σ.1 12 0).length (σ.2 1 0).toNat).2)) 15 v ((vq_ga (σ.1 13 0) (σ.1 14 0) (vq_kn (σ.2 1 0) (σ.1 kk ii) n) (vl_put (vq_ef σ.2 (vq_kn (σ.2 1 0) (σ.1 kk ii) n) (σ.2 1 0).toNat) tb 0) (vq_cv (σ.1 5) σ.2 (vl_put (vq_ef σ.2 (vq_kn (σ.2 1 0) (σ.1 kk ii) n) (σ.2 1 0).toNat) tb 0) (σ.1 12 0).length (σ.2 1 0).toNat).1 (σ.1 12 0).length (σ.1 12 0).length).1)) 16 v ((vq_ga (σ.1 13 0) (σ.1 14 0) (vq_kn (σ.2 1 0) (σ.1 kk ii) n) (vl_put (vq_ef σ.2 (vq_kn (σ.2 1 0) (σ.1 kk ii) n) (σ.2 1 0).toNat) tb 0) (vq_cv (σ.1 5) σ.2 (vl_put (vq_ef σ.2 (vq_kn (σ.2 1 0) (σ.1 kk ii) n) (σ.2 1 0).toNat) tb 0) (σ.1 12 0).length (σ.2 1 0).toNat).1 (σ.1 12 0).length (σ.1 12 0).length).2.1)) 20 v ((vq_ga (σ.1 13 0) (σ.1 14 0) (vq_kn (σ.2 1 0) (σ.1 kk ii) n) (vl_put (vq_ef σ.2 (vq_kn (σ.2 1 0) (σ.1 kk ii) n) (σ.2 1 0).toNat) tb 0) (vq_cv (σ.1 5) σ.2 (vl_put (vq_ef σ.2 (vq_kn (σ.2 1 0) (σ.1 kk ii) n) (σ.2 1 0).toNat) tb 0) (σ.1 12 0).length (σ.2 1 0).toNat).1 (σ.1 12 0).length (σ.1 12 0).length).2.2)), σ.2)) vi38_63 hv (by first | rfl | (dsimp only; repeat (first | rw [vw_sr_eq] | rw [vw_sr_ne _ _ (by omega)]))) (by first | rfl | (dsimp only; repeat (first | rw [vw_sr_eq] | rw [vw_sr_ne _ _ (by omega)]))) (by first | rfl | (dsimp only; repeat (first | rw [vw_sr_eq] | rw [vw_sr_ne _ _ (by omega)]))) (by first | rfl | (dsimp only; repeat (first | rw [vw_sr_eq] | rw [vw_sr_ne _ _ (by omega)]))) (by first | rfl | (dsimp only; repeat (first | rw [vw_sr_eq] | rw [vw_sr_ne _ _ (by omega)]))) (by first | rfl | (dsimp only; repeat (first | rw [vw_sr_eq] | rw [vw_sr_ne _ _ (by omega)]))) rfl rfl ?_
    refine w43 vi38_66 vm38.2.2.2 ?_
    refine hQ _ ⟨rfl, fun k' i' q => ?_, fun k' q0 q1 => ?_⟩
    · dsimp only
      repeat (rw [vw_sr_ne _ _ (by omega)])
    · unfold vq_vw
      dsimp only
      rcases (show k' = 15 ∨ k' = 16 ∨ k' = 17 ∨ k' = 18 ∨ k' = 19 ∨ k' = 20 ∨ k' = 21 by omega) with e | e | e | e | e | e | e
      all_goals
        subst e
        repeat (first | rw [vw_sr_eq] | rw [vw_sr_ne _ _ (by omega)])
        repeat (first | rw [if_pos rfl] | rw [if_neg (by decide)])
  | succ e ih =>
    intro j hj
    refine w0 vi38_15 rfl rfl ?_
    refine w0 vi38_17 rfl rfl ?_
    refine w8 vi38_18 (vwc_3 ⟨by omega, by omega⟩ ⟨by omega, by omega⟩) (fun h18 => by exfalso; omega) (fun h18 => ?_)
    refine w1 vi38_21 rfl rfl ?_
    refine w14v (v := .ref (vw_rr 17 v)) vi38_22 (by first | omega | exact ve_ix_le _ | exact vk_lat_le _ _ _ _ | assumption) rfl ?_
    refine w1 vi38_25 rfl rfl ?_
    refine w0 vi38_26 rfl rfl ?_
    refine r_at (l := (σ.1 kk ii)) vi38_28 hk (by first | rfl | (dsimp only; repeat (first | rw [vw_sr_eq] | rw [vw_sr_ne _ _ (by omega)]))) (by first | omega | exact ve_ix_le _ | exact vk_lat_le _ _ _ _ | assumption) (by first | omega | exact ve_ix_le _ | exact vk_lat_le _ _ _ _ | assumption) rfl (fun _ _ => ?_)
    refine w2 (1) vi38_31 (by decide) ?_
    refine r_put (l := (vf (fun j e => vl_put e (vl_at (σ.1 kk ii) (j : Int)) 1) j (vl_fill 120 (σ.2 1 0) 0))) (σ2 := ((vw_sr σ.1 17 v (vl_put (vf (fun j e => vl_put e (vl_at (σ.1 kk ii) (j : Int)) 1) j (vl_fill 120 (σ.2 1 0) 0)) (vl_at (σ.1 kk ii) ((j : Int))) (1))), σ.2)) vi38_32 ⟨by decide, (show v < 2 by omega)⟩ (by first | rfl | (dsimp only; repeat (first | rw [vw_sr_eq] | rw [vw_sr_ne _ _ (by omega)]))) (by first | omega | exact ve_ix_le _ | exact vk_lat_le _ _ _ _ | assumption) (by first | omega | exact ve_ix_le _ | exact vk_lat_le _ _ _ _ | assumption) (by first | omega | exact ve_ix_le _ | exact vk_lat_le _ _ _ _ | assumption) (by first | omega | exact ve_ix_le _ | exact vk_lat_le _ _ _ _ | assumption) (by dsimp only; rw [vw_sr_sr]; try rfl) rfl ?_
    refine w6 (1) vi38_35 rfl (by decide) rfl ?_
    refine w5 vi38_38 ?_
    exact ih (j + 1) (by omega)
theorem m_read {v : Nat} (hv : v < 2) (n0 : 0 ≤ σ.2 1 0) (n1 : σ.2 1 0 ≤ 120) {kk ii n : Nat} {tb : Int} (hk : vw_ok kk ii) (hkk : kk < 15) (hn : n ≤ 120) (t0 : -2147483648 ≤ tb) (t1 : tb < 2147483648) (hQ : ∀ σ', vq_rd σ v (σ.1 kk ii) n tb σ' → Q [] σ') : vW vw_rep L xs (38, 0, [some (.ref (vw_vr v)), some (.ref 9), some (.ref (vw_rr kk ii)), some (.int (jI ((n : Int)))), some (.int (jI (tb))), none], []) σ Q := by
  refine w1 vi38_0 rfl rfl ?_
  refine w14v (v := .ref (vw_rr 17 v)) vi38_1 (by first | omega | exact ve_ix_le _ | exact vk_lat_le _ _ _ _ | assumption) rfl ?_
  refine w1 vi38_4 rfl rfl ?_
  refine c_countDeedsR (z := (σ.2 1 0)) vi38_5 rfl rfl ?_
  refine w2 (0) vi38_8 (by decide) ?_
  refine r_fill (l := (σ.1 17 v)) (σ2 := ((vw_sr σ.1 17 v (vl_fill (vw_cap 17) ((σ.2 1 0)) (0))), σ.2)) vi38_9 ⟨by decide, (show v < 2 by omega)⟩ (by first | rfl | (dsimp only; repeat (first | rw [vw_sr_eq] | rw [vw_sr_ne _ _ (by omega)]))) (by first | omega | exact ve_ix_le _ | exact vk_lat_le _ _ _ _ | assumption) (by first | omega | exact ve_ix_le _ | exact vk_lat_le _ _ _ _ | assumption) (by first | omega | exact ve_ix_le _ | exact vk_lat_le _ _ _ _ | assumption) (by first | omega | exact ve_ix_le _ | exact vk_lat_le _ _ _ _ | assumption) rfl rfl ?_
  refine w2 (0) vi38_12 (by decide) ?_
  refine w3 vi38_13 rfl rfl ?_
  exact m_read_loop hv n0 n1 hk hkk hn t0 t1 hQ n 0 (Nat.zero_add _)
theorem c_read (hc : vt_code k pc = (27, 38, b, c)) {v : Nat} (hv : v < 2) (n0 : 0 ≤ σ.2 1 0) (n1 : σ.2 1 0 ≤ 120) {kk ii n : Nat} {tb : Int} (hk : vw_ok kk ii) (hkk : kk < 15) (hn : n ≤ 120) (t0 : -2147483648 ≤ tb) (t1 : tb < 2147483648) (hs : Nat.ble (vj_cat sc) 8 = true) (hQ : ∀ σ', vq_rd σ v (σ.1 kk ii) n tb σ' → vW vw_rep L xs (k, pc + 3, lc, sc) σ' Q) : vW vw_rep L xs (k, pc, lc, .int (jI (tb)) :: .int (jI ((n : Int))) :: .ref (vw_rr kk ii) :: .ref 9 :: .ref (vw_vr v) :: sc) σ Q := by
  refine w27 (n := 5) (vs := [.int (jI (tb)), .int (jI ((n : Int))), .ref (vw_rr kk ii), .ref 9, .ref (vw_vr v)]) hc vm38.2.1 rfl (by rw [vm38.2.2.1]; rfl) hs (by simp only [List.length_cons]; omega) ⟨_, rfl⟩ (fun M hM => hM.2.2.2.2.1 _ hv) (vw_tb_lt (vw_view hv) (by omega)) vm38.1 ?_
  rw [vm38.2.2.1]
  exact m_read hv n0 n1 hk hkk hn t0 t1 (Q := fun v σ1 => vW vw_rep L xs (k, pc + 3, lc, v ++ sc) σ1 Q) hQ
theorem m_isVisible {v : Nat} (hv : v < 2) {z : Int} (z0 : -2147483648 ≤ z) (z1 : z < 2147483648) (h1 : vl_at (σ.1 20 v) z = 1 → Q [.int (jI (1))] σ) (h0 : ¬ vl_at (σ.1 20 v) z = 1 → Q [.int (jI (0))] σ) : vW vw_rep L xs (43, 0, [some (.ref (vw_vr v)), some (.int (jI (z)))], []) σ Q := by
  refine w1 vi43_0 rfl rfl ?_
  refine w14v (v := .ref (vw_rr 20 v)) vi43_1 (by first | omega | exact ve_ix_le _ | exact vk_lat_le _ _ _ _ | assumption) rfl ?_
  refine w0 vi43_4 rfl rfl ?_
  refine r_at (l := (σ.1 20 v)) vi43_5 ⟨by decide, (show v < 2 by omega)⟩ (by first | rfl | (dsimp only; repeat (first | rw [vw_sr_eq] | rw [vw_sr_ne _ _ (by omega)]))) (by first | omega | exact ve_ix_le _ | exact vk_lat_le _ _ _ _ | assumption) (by first | omega | exact ve_ix_le _ | exact vk_lat_le _ _ _ _ | assumption) rfl (fun _ _ => ?_)
  refine w2 (1) vi43_8 (by decide) ?_
  refine w8 vi43_9 (vwc_1 ⟨by omega, by omega⟩ ⟨by omega, by omega⟩) (fun h9 => ?_) (fun h9 => ?_)
  ·
    refine w2 (0) vi43_16 (by decide) ?_
    refine w42b vi43_17 vm43.2.2.2 (by first | exact Or.inl rfl | exact Or.inr rfl | omega) ?_
    first | exact hQ | exact h1 (by assumption) | exact h0 (by assumption) | exact h1 (by omega) | exact h0 (by omega)
  ·
    refine w2 (1) vi43_12 (by decide) ?_
    refine w5 vi43_13 ?_
    refine w42b vi43_17 vm43.2.2.2 (by first | exact Or.inl rfl | exact Or.inr rfl | omega) ?_
    first | exact hQ | exact h1 (by assumption) | exact h0 (by assumption) | exact h1 (by omega) | exact h0 (by omega)
theorem c_isVisible (hc : vt_code k pc = (27, 43, b, c)) {v : Nat} (hv : v < 2) {z : Int} (z0 : -2147483648 ≤ z) (z1 : z < 2147483648) (hs : Nat.ble (vj_cat sc) 8 = true) (h1 : vl_at (σ.1 20 v) z = 1 → vW vw_rep L xs (k, pc + 3, lc, .int (jI (1)) :: sc) σ Q) (h0 : ¬ vl_at (σ.1 20 v) z = 1 → vW vw_rep L xs (k, pc + 3, lc, .int (jI (0)) :: sc) σ Q) : vW vw_rep L xs (k, pc, lc, .int (jI (z)) :: .ref (vw_vr v) :: sc) σ Q := by
  refine w27 (n := 2) (vs := [.int (jI (z)), .ref (vw_vr v)]) hc vm43.2.1 rfl (by rw [vm43.2.2.1]; rfl) hs (by simp only [List.length_cons]; omega) ⟨_, rfl⟩ (fun M hM => hM.2.2.2.2.1 _ hv) (vw_tb_lt (vw_view hv) (by omega)) vm43.1 ?_
  rw [vm43.2.2.1]
  exact m_isVisible hv z0 z1 (Q := fun v σ1 => vW vw_rep L xs (k, pc + 3, lc, v ++ sc) σ1 Q) h1 h0
def vp_ahead (tx : List Int) (p : Int) : Int := if p ≤ 0 then -1 else vl_at tx (p - 1)
theorem m_cellAhead {v : Nat} (hv : v < 2) {z : Int} (z0 : -2147483648 ≤ z) (z1 : z < 2147483648) (hQ : -2147483648 ≤ vp_ahead (σ.1 16 v) z → vp_ahead (σ.1 16 v) z < 2147483648 → Q [.int (jI (vp_ahead (σ.1 16 v) z))] σ) : vW vw_rep L xs (44, 0, [some (.ref (vw_vr v)), some (.int (jI (z)))], []) σ Q := by
  refine w0 vi44_0 rfl rfl ?_
  refine w7 vi44_1 (vwz_4 ⟨by omega, by omega⟩) (fun hh1 => ?_) (fun hh1 => ?_)
  ·
    refine w1 vi44_8 rfl rfl ?_
    refine w14v (v := .ref (vw_rr 16 v)) vi44_9 (by first | omega | exact ve_ix_le _ | exact vk_lat_le _ _ _ _ | assumption) rfl ?_
    refine w0 vi44_12 rfl rfl ?_
    refine w2 (1) vi44_13 (by decide) ?_
    refine w10 vi44_14 ?_
    refine r_at (l := (σ.1 16 v)) vi44_15 ⟨by decide, (show v < 2 by omega)⟩ (by first | rfl | (dsimp only; repeat (first | rw [vw_sr_eq] | rw [vw_sr_ne _ _ (by omega)]))) (by first | omega | exact ve_ix_le _ | exact vk_lat_le _ _ _ _ | assumption) (by first | omega | exact ve_ix_le _ | exact vk_lat_le _ _ _ _ | assumption) rfl (fun _ _ => ?_)
    refine w42 vi44_18 vm44.2.2.2 ?_
    have e : vp_ahead (σ.1 16 v) z = _ := rfl
    unfold vp_ahead at e hQ
    first
      | (rw [if_pos (by omega)] at hQ; exact hQ (by omega) (by omega))
      | (rw [if_neg (by omega)] at hQ; exact hQ (by omega) (by omega))
  ·
    refine w2 (-1) vi44_4 (by decide) ?_
    refine w5 vi44_5 ?_
    refine w42 vi44_18 vm44.2.2.2 ?_
    have e : vp_ahead (σ.1 16 v) z = _ := rfl
    unfold vp_ahead at e hQ
    first
      | (rw [if_pos (by omega)] at hQ; exact hQ (by omega) (by omega))
      | (rw [if_neg (by omega)] at hQ; exact hQ (by omega) (by omega))
theorem c_cellAhead (hc : vt_code k pc = (27, 44, b, c)) {v : Nat} (hv : v < 2) {z : Int} (z0 : -2147483648 ≤ z) (z1 : z < 2147483648) (hs : Nat.ble (vj_cat sc) 8 = true) (hQ : -2147483648 ≤ vp_ahead (σ.1 16 v) z → vp_ahead (σ.1 16 v) z < 2147483648 → vW vw_rep L xs (k, pc + 3, lc, .int (jI (vp_ahead (σ.1 16 v) z)) :: sc) σ Q) : vW vw_rep L xs (k, pc, lc, .int (jI (z)) :: .ref (vw_vr v) :: sc) σ Q := by
  refine w27 (n := 2) (vs := [.int (jI (z)), .ref (vw_vr v)]) hc vm44.2.1 rfl (by rw [vm44.2.2.1]; rfl) hs (by simp only [List.length_cons]; omega) ⟨_, rfl⟩ (fun M hM => hM.2.2.2.2.1 _ hv) (vw_tb_lt (vw_view hv) (by omega)) vm44.1 ?_
  rw [vm44.2.2.1]
  exact m_cellAhead hv z0 z1 (Q := fun v σ1 => vW vw_rep L xs (k, pc + 3, lc, v ++ sc) σ1 Q) hQ
def vp_go (sh cs : List Int) (z : Int) : Nat → Nat → Int → Int
  | 0, _, p => p
  | e + 1, j, p => if vl_at cs (j : Int) = z then (if vl_at sh (vl_at cs (j : Int)) = 1 then p + 1 else p) else vp_go sh cs z e (j + 1) (if vl_at sh (vl_at cs (j : Int)) = 1 then p + 1 else p)
def vp_pos (sh cs : List Int) (z : Int) : Int := if z = -1 then 0 else vp_go sh cs z cs.length 0 0
theorem vp_go_in (sh cs : List Int) (z : Int) : ∀ (e j : Nat) (p : Int), p ≤ vp_go sh cs z e j p ∧ vp_go sh cs z e j p ≤ p + e := by
  intro e
  induction e with
  | zero => intro j p; exact ⟨Int.le_refl _, by show p ≤ p + ((0 : Nat) : Int); omega⟩
  | succ e ih =>
    intro j p
    have h1 := ih (j + 1) (if vl_at sh (vl_at cs (j : Int)) = 1 then p + 1 else p)
    unfold vp_go
    by_cases q : vl_at sh (vl_at cs (j : Int)) = 1
    · simp only [if_pos q] at h1 ⊢
      split <;> omega
    · simp only [if_neg q] at h1 ⊢
      split <;> omega
theorem vp_pos_in (sh cs : List Int) (z : Int) : 0 ≤ vp_pos sh cs z ∧ vp_pos sh cs z ≤ cs.length := by
  unfold vp_pos
  have := vp_go_in sh cs z cs.length 0 0
  split <;> omega
theorem m_pos_loop {v : Nat} (hv : v < 2) {z : Int} (z0 : -2147483648 ≤ z) (z1 : z < 2147483648) : ∀ (e j : Nat) (p : Int), j + e = (σ.1 15 v).length → 0 ≤ p → p ≤ j → (hQ : Q [.int (jI (vp_go (σ.1 20 v) (σ.1 15 v) z e j p))] σ) → vW vw_rep L xs (45, 11, [some (.ref (vw_vr v)), some (.int (jI (z))), some (.int (jI (p))), some (.int (jI ((j : Int))))], []) σ Q := by
  intro e
  induction e with
  | zero =>
    intro j p hj p0 p1 hQ
    refine vW_len (kk := 15) (i := v) ⟨by decide, hv⟩ (fun hl => ?_)
    have hl : (σ.1 15 v).length ≤ 720 := hl
    refine w0 vi45_11 rfl rfl ?_
    refine w1 vi45_12 rfl rfl ?_
    refine w14v (v := .ref (vw_rr 15 v)) vi45_13 (by first | omega | exact ve_ix_le _ | exact vk_lat_le _ _ _ _ | assumption) rfl ?_
    refine r_size (l := (σ.1 15 v)) vi45_16 ⟨by decide, (show v < 2 by omega)⟩ (by first | rfl | (dsimp only; repeat (first | rw [vw_sr_eq] | rw [vw_sr_ne _ _ (by omega)]))) rfl ?_
    refine w8 vi45_19 (vwc_3 ⟨by omega, by omega⟩ ⟨by omega, by omega⟩) (fun h19 => ?_) (fun h19 => by exfalso; omega)
    refine w0 vi45_60 rfl rfl ?_
    refine w42 vi45_61 vm45.2.2.2 ?_
    exact hQ
  | succ e ih =>
    intro j p hj p0 p1 hQ
    refine vW_len (kk := 15) (i := v) ⟨by decide, hv⟩ (fun hl => ?_)
    have hl : (σ.1 15 v).length ≤ 720 := hl
    refine w0 vi45_11 rfl rfl ?_
    refine w1 vi45_12 rfl rfl ?_
    refine w14v (v := .ref (vw_rr 15 v)) vi45_13 (by first | omega | exact ve_ix_le _ | exact vk_lat_le _ _ _ _ | assumption) rfl ?_
    refine r_size (l := (σ.1 15 v)) vi45_16 ⟨by decide, (show v < 2 by omega)⟩ (by first | rfl | (dsimp only; repeat (first | rw [vw_sr_eq] | rw [vw_sr_ne _ _ (by omega)]))) rfl ?_
    refine w8 vi45_19 (vwc_3 ⟨by omega, by omega⟩ ⟨by omega, by omega⟩) (fun h19 => by exfalso; omega) (fun h19 => ?_)
    refine w1 vi45_22 rfl rfl ?_
    refine w1 vi45_23 rfl rfl ?_
    refine w14v (v := .ref (vw_rr 15 v)) vi45_24 (by first | omega | exact ve_ix_le _ | exact vk_lat_le _ _ _ _ | assumption) rfl ?_
    refine w0 vi45_27 rfl rfl ?_
    refine r_at (l := (σ.1 15 v)) vi45_28 ⟨by decide, (show v < 2 by omega)⟩ (by first | rfl | (dsimp only; repeat (first | rw [vw_sr_eq] | rw [vw_sr_ne _ _ (by omega)]))) (by first | omega | exact ve_ix_le _ | exact vk_lat_le _ _ _ _ | assumption) (by first | omega | exact ve_ix_le _ | exact vk_lat_le _ _ _ _ | assumption) rfl (fun _ _ => ?_)
    refine c_isVisible vi45_31 (by first | omega | exact ve_ix_le _ | exact vk_lat_le _ _ _ _ | exact ⟨by decide, by decide⟩ | exact ⟨by decide, by assumption⟩ | exact ⟨by decide, Nat.lt_succ_of_le (by first | exact ve_ix_le _ | exact vk_lat_le _ _ _ _ | assumption)⟩ | assumption) (by first | omega | exact ve_ix_le _ | exact vk_lat_le _ _ _ _ | exact ⟨by decide, by decide⟩ | exact ⟨by decide, by assumption⟩ | exact ⟨by decide, Nat.lt_succ_of_le (by first | exact ve_ix_le _ | exact vk_lat_le _ _ _ _ | assumption)⟩ | assumption) (by first | omega | exact ve_ix_le _ | exact vk_lat_le _ _ _ _ | exact ⟨by decide, by decide⟩ | exact ⟨by decide, by assumption⟩ | exact ⟨by decide, Nat.lt_succ_of_le (by first | exact ve_ix_le _ | exact vk_lat_le _ _ _ _ | assumption)⟩ | assumption) rfl (fun hb31 => ?_) (fun hb31 => ?_)
    ·
      refine w7 vi45_34 (vwz_0 ⟨by omega, by omega⟩) (fun h34 => by exfalso; omega) (fun h34 => ?_)
      refine w6 (1) vi45_37 rfl (by decide) rfl ?_
      refine w1 vi45_40 rfl rfl ?_
      refine w14v (v := .ref (vw_rr 15 v)) vi45_41 (by first | omega | exact ve_ix_le _ | exact vk_lat_le _ _ _ _ | assumption) rfl ?_
      refine w0 vi45_44 rfl rfl ?_
      refine r_at (l := (σ.1 15 v)) vi45_45 ⟨by decide, (show v < 2 by omega)⟩ (by first | rfl | (dsimp only; repeat (first | rw [vw_sr_eq] | rw [vw_sr_ne _ _ (by omega)]))) (by first | omega | exact ve_ix_le _ | exact vk_lat_le _ _ _ _ | assumption) (by first | omega | exact ve_ix_le _ | exact vk_lat_le _ _ _ _ | assumption) rfl (fun _ _ => ?_)
      refine w0 vi45_48 rfl rfl ?_
      refine w8 vi45_49 (vwc_1 ⟨by omega, by omega⟩ ⟨by omega, by omega⟩) (fun h49 => ?_) (fun h49 => ?_)
      ·
        refine w6 (1) vi45_54 rfl (by decide) rfl ?_
        refine w5 vi45_57 ?_
        refine ih (j + 1) _ (by omega) (by omega) (by omega) ?_
        unfold vp_go at hQ
        repeat (first | rw [if_pos (by omega)] at hQ | rw [if_neg (by omega)] at hQ)
        exact hQ
      ·
        refine w0 vi45_52 rfl rfl ?_
        refine w42 vi45_53 vm45.2.2.2 ?_
        unfold vp_go at hQ
        repeat (first | rw [if_pos (by omega)] at hQ | rw [if_neg (by omega)] at hQ)
        exact hQ
    ·
      refine w7 vi45_34 (vwz_0 ⟨by omega, by omega⟩) (fun h34 => ?_) (fun h34 => by exfalso; omega)
      refine w1 vi45_40 rfl rfl ?_
      refine w14v (v := .ref (vw_rr 15 v)) vi45_41 (by first | omega | exact ve_ix_le _ | exact vk_lat_le _ _ _ _ | assumption) rfl ?_
      refine w0 vi45_44 rfl rfl ?_
      refine r_at (l := (σ.1 15 v)) vi45_45 ⟨by decide, (show v < 2 by omega)⟩ (by first | rfl | (dsimp only; repeat (first | rw [vw_sr_eq] | rw [vw_sr_ne _ _ (by omega)]))) (by first | omega | exact ve_ix_le _ | exact vk_lat_le _ _ _ _ | assumption) (by first | omega | exact ve_ix_le _ | exact vk_lat_le _ _ _ _ | assumption) rfl (fun _ _ => ?_)
      refine w0 vi45_48 rfl rfl ?_
      refine w8 vi45_49 (vwc_1 ⟨by omega, by omega⟩ ⟨by omega, by omega⟩) (fun h49 => ?_) (fun h49 => ?_)
      ·
        refine w6 (1) vi45_54 rfl (by decide) rfl ?_
        refine w5 vi45_57 ?_
        refine ih (j + 1) _ (by omega) (by omega) (by omega) ?_
        unfold vp_go at hQ
        repeat (first | rw [if_pos (by omega)] at hQ | rw [if_neg (by omega)] at hQ)
        exact hQ
      ·
        refine w0 vi45_52 rfl rfl ?_
        refine w42 vi45_53 vm45.2.2.2 ?_
        unfold vp_go at hQ
        repeat (first | rw [if_pos (by omega)] at hQ | rw [if_neg (by omega)] at hQ)
        exact hQ
theorem m_positionOf {v : Nat} (hv : v < 2) {z : Int} (z0 : -2147483648 ≤ z) (z1 : z < 2147483648) (hQ :  Q [.int (jI (vp_pos (σ.1 20 v) (σ.1 15 v) z))] σ) : vW vw_rep L xs (45, 0, [some (.ref (vw_vr v)), some (.int (jI (z))), none, none], []) σ Q := by
  refine w0 vi45_0 rfl rfl ?_
  refine w2 (-1) vi45_1 (by decide) ?_
  refine w8 vi45_2 (vwc_1 ⟨by omega, by omega⟩ ⟨by omega, by omega⟩) (fun hh2 => ?_) (fun hh2 => ?_)
  ·
    refine w2 (0) vi45_7 (by decide) ?_
    refine w3 vi45_8 rfl rfl ?_
    refine w2 (0) vi45_9 (by decide) ?_
    refine w3 vi45_10 rfl rfl ?_
    unfold vp_pos at hQ
    rw [if_neg (by omega)] at hQ
    exact m_pos_loop hv z0 z1 _ 0 0 (Nat.zero_add _) (by omega) (by omega) hQ
  ·
    refine w2 (0) vi45_5 (by decide) ?_
    refine w42 vi45_6 vm45.2.2.2 ?_
    unfold vp_pos at hQ
    rw [if_pos (by omega)] at hQ
    exact hQ
theorem c_positionOf (hc : vt_code k pc = (27, 45, b, c)) {v : Nat} (hv : v < 2) {z : Int} (z0 : -2147483648 ≤ z) (z1 : z < 2147483648) (hs : Nat.ble (vj_cat sc) 8 = true) (hQ :  vW vw_rep L xs (k, pc + 3, lc, .int (jI (vp_pos (σ.1 20 v) (σ.1 15 v) z)) :: sc) σ Q) : vW vw_rep L xs (k, pc, lc, .int (jI (z)) :: .ref (vw_vr v) :: sc) σ Q := by
  refine w27 (n := 2) (vs := [.int (jI (z)), .ref (vw_vr v)]) hc vm45.2.1 rfl (by rw [vm45.2.2.1]; rfl) hs (by simp only [List.length_cons]; omega) ⟨_, rfl⟩ (fun M hM => hM.2.2.2.2.1 _ hv) (vw_tb_lt (vw_view hv) (by omega)) vm45.1 ?_
  rw [vm45.2.2.1]
  exact m_positionOf hv z0 z1 (Q := fun v σ1 => vW vw_rep L xs (k, pc + 3, lc, v ++ sc) σ1 Q) hQ
theorem m_isMarked {v : Nat} (hv : v < 2) {z y : Int} (h1 : σ.2 11 (ve_ix (vl_at (σ.1 21 v) (jN (z * 3 + y)))) = 1 → Q [.int (jI (1))] σ) (h0 : ¬ σ.2 11 (ve_ix (vl_at (σ.1 21 v) (jN (z * 3 + y)))) = 1 → Q [.int (jI (0))] σ) : vW vw_rep L xs (46, 0, [some (.ref (vw_vr v)), some (.ref 9), some (.int (jI (z))), some (.int (jI (y)))], []) σ Q := by
  refine w1 vi46_0 rfl rfl ?_
  refine w1 vi46_1 rfl rfl ?_
  refine w14v (v := .ref (vw_rr 21 v)) vi46_2 (by first | omega | exact ve_ix_le _ | exact vk_lat_le _ _ _ _ | assumption) rfl ?_
  refine w0 vi46_5 rfl rfl ?_
  refine w2 (3) vi46_6 (by decide) ?_
  refine w11 vi46_7 ?_
  refine w0 vi46_8 rfl rfl ?_
  refine w9 vi46_9 ?_
  rw [jI_N (z * 3 + y)]
  have hz := jN_in (z * 3 + y)
  refine r_at (l := σ.1 21 v) vi46_10 ⟨by decide, (show v < 2 by omega)⟩ rfl hz.1 hz.2 rfl (fun _ _ => ?_)
  refine c_deedAt vi46_13 (by first | omega | exact ve_ix_le _ | exact vk_lat_le _ _ _ _ | assumption) (by first | omega | exact ve_ix_le _ | exact vk_lat_le _ _ _ _ | assumption) rfl ?_
  refine w14d (v := .int (jI (σ.2 11 (ve_ix (vl_at (σ.1 21 v) (jN (z * 3 + y))))))) vi46_16 (ve_ix_le _) rfl ?_
  refine vW_onR (V := σ.2) rfl (ve_ix (vl_at (σ.1 21 v) (jN (z * 3 + y)))) (fun hon => ?_) (fun hon => ?_)
  · rw [hon]
    refine w42b vi46_19 vm46.2.2.2 (by first | exact Or.inl rfl | exact Or.inr rfl | omega) ?_
    first | exact h1 hon | exact h0 (by omega)
  · rw [hon]
    refine w42b vi46_19 vm46.2.2.2 (by first | exact Or.inl rfl | exact Or.inr rfl | omega) ?_
    first | exact h1 hon | exact h0 (by omega)
theorem c_isMarked (hc : vt_code k pc = (27, 46, b, c)) {v : Nat} (hv : v < 2) {z y : Int} (hs : Nat.ble (vj_cat sc) 8 = true) (h1 : σ.2 11 (ve_ix (vl_at (σ.1 21 v) (jN (z * 3 + y)))) = 1 → vW vw_rep L xs (k, pc + 3, lc, .int (jI (1)) :: sc) σ Q) (h0 : ¬ σ.2 11 (ve_ix (vl_at (σ.1 21 v) (jN (z * 3 + y)))) = 1 → vW vw_rep L xs (k, pc + 3, lc, .int (jI (0)) :: sc) σ Q) : vW vw_rep L xs (k, pc, lc, .int (jI (y)) :: .int (jI (z)) :: .ref 9 :: .ref (vw_vr v) :: sc) σ Q := by
  refine w27 (n := 4) (vs := [.int (jI (y)), .int (jI (z)), .ref 9, .ref (vw_vr v)]) hc vm46.2.1 rfl (by rw [vm46.2.2.1]; rfl) hs (by simp only [List.length_cons]; omega) ⟨_, rfl⟩ (fun M hM => hM.2.2.2.2.1 _ hv) (vw_tb_lt (vw_view hv) (by omega)) vm46.1 ?_
  rw [vm46.2.2.1]
  exact m_isMarked hv (Q := fun v σ1 => vW vw_rep L xs (k, pc + 3, lc, v ++ sc) σ1 Q) h1 h0
def vq_t (V : Nat → Nat → Int) (dec : List Int) (z y w : Int) : Int := if V 11 (ve_ix (vl_at dec (jN (z * 3 + y)))) = 1 then w else 0
def vq_mk (V : Nat → Nat → Int) (dec : List Int) (z : Int) : Int := vq_t V dec z 0 1 + vq_t V dec z 1 2 + vq_t V dec z 2 4
theorem vq_t_y {V : Nat → Nat → Int} {dec : List Int} {z y : Int} (w : Int) (h : V 11 (ve_ix (vl_at dec (jN (z * 3 + y)))) = 1) : vq_t V dec z y w = w := if_pos h
theorem vq_t_n {V : Nat → Nat → Int} {dec : List Int} {z y : Int} (w : Int) (h : ¬ V 11 (ve_ix (vl_at dec (jN (z * 3 + y)))) = 1) : vq_t V dec z y w = 0 := if_neg h
theorem vq_mk_in (V : Nat → Nat → Int) (dec : List Int) (z : Int) : 0 ≤ vq_mk V dec z ∧ vq_mk V dec z ≤ 7 := by
  unfold vq_mk vq_t
  split <;> split <;> split <;> omega
theorem m_mk_3 {v : Nat} (hv : v < 2) {z m : Int} (z0 : -2147483648 ≤ z) (z1 : z < 2147483648) (hQ : Q [.int (jI (m + 0))] σ) : vW vw_rep L xs (47, 5, [some (.ref (vw_vr v)), some (.ref 9), some (.int (jI (z))), some (.int (jI (m))), some (.int (jI (3)))], []) σ Q := by
  refine w0 vi47_5 rfl rfl ?_
  refine w2 (3) vi47_7 (by decide) ?_
  refine w8 vi47_8 (vwc_3 ⟨by omega, by omega⟩ ⟨by omega, by omega⟩) (fun h8 => ?_) (fun h8 => by exfalso; omega)
  refine w0 vi47_35 rfl rfl ?_
  refine w42 vi47_36 vm47.2.2.2 ?_
  refine cast (congrArg (fun x => Q [.int (jI x)] σ) ?_) hQ; omega
theorem m_mk_2 {v : Nat} (hv : v < 2) {z m : Int} (z0 : -2147483648 ≤ z) (z1 : z < 2147483648) (hQ : Q [.int (jI (m + (vq_t σ.2 (σ.1 21 v) z 2 4)))] σ) : vW vw_rep L xs (47, 5, [some (.ref (vw_vr v)), some (.ref 9), some (.int (jI (z))), some (.int (jI (m))), some (.int (jI (2)))], []) σ Q := by
  refine w0 vi47_5 rfl rfl ?_
  refine w2 (3) vi47_7 (by decide) ?_
  refine w8 vi47_8 (vwc_3 ⟨by omega, by omega⟩ ⟨by omega, by omega⟩) (fun h8 => by exfalso; omega) (fun h8 => ?_)
  refine w1 vi47_11 rfl rfl ?_
  refine w1 vi47_12 rfl rfl ?_
  refine w0 vi47_13 rfl rfl ?_
  refine w0 vi47_14 rfl rfl ?_
  refine c_isMarked vi47_16 (by first | omega | exact ve_ix_le _ | exact vk_lat_le _ _ _ _ | assumption) rfl (fun hb16_2 => ?_) (fun hb16_2 => ?_)
  ·
    refine w7 vi47_19 (vwz_0 ⟨by omega, by omega⟩) (fun h19 => by exfalso; omega) (fun h19 => ?_)
    refine w0 vi47_22 rfl rfl ?_
    refine w2 (1) vi47_23 (by decide) ?_
    refine w0 vi47_24 rfl rfl ?_
    refine w65 (4) vi47_26 (by decide) ?_
    refine w9 vi47_27 ?_
    refine w3 vi47_28 rfl rfl ?_
    refine w6 (1) vi47_29 rfl (by decide) rfl ?_
    refine w5 vi47_32 ?_
    refine m_mk_3 hv z0 z1 ?_
    first
      | (rw [vq_t_y _ hb16_2] at hQ; refine cast (congrArg (fun x => Q [.int (jI x)] σ) ?_) hQ; omega)
      | (rw [vq_t_n _ hb16_2] at hQ; refine cast (congrArg (fun x => Q [.int (jI x)] σ) ?_) hQ; omega)
  ·
    refine w7 vi47_19 (vwz_0 ⟨by omega, by omega⟩) (fun h19 => ?_) (fun h19 => by exfalso; omega)
    refine w6 (1) vi47_29 rfl (by decide) rfl ?_
    refine w5 vi47_32 ?_
    refine m_mk_3 hv z0 z1 ?_
    first
      | (rw [vq_t_y _ hb16_2] at hQ; refine cast (congrArg (fun x => Q [.int (jI x)] σ) ?_) hQ; omega)
      | (rw [vq_t_n _ hb16_2] at hQ; refine cast (congrArg (fun x => Q [.int (jI x)] σ) ?_) hQ; omega)
theorem m_mk_1 {v : Nat} (hv : v < 2) {z m : Int} (z0 : -2147483648 ≤ z) (z1 : z < 2147483648) (hQ : Q [.int (jI (m + (vq_t σ.2 (σ.1 21 v) z 1 2 + vq_t σ.2 (σ.1 21 v) z 2 4)))] σ) : vW vw_rep L xs (47, 5, [some (.ref (vw_vr v)), some (.ref 9), some (.int (jI (z))), some (.int (jI (m))), some (.int (jI (1)))], []) σ Q := by
  refine w0 vi47_5 rfl rfl ?_
  refine w2 (3) vi47_7 (by decide) ?_
  refine w8 vi47_8 (vwc_3 ⟨by omega, by omega⟩ ⟨by omega, by omega⟩) (fun h8 => by exfalso; omega) (fun h8 => ?_)
  refine w1 vi47_11 rfl rfl ?_
  refine w1 vi47_12 rfl rfl ?_
  refine w0 vi47_13 rfl rfl ?_
  refine w0 vi47_14 rfl rfl ?_
  refine c_isMarked vi47_16 (by first | omega | exact ve_ix_le _ | exact vk_lat_le _ _ _ _ | assumption) rfl (fun hb16_1 => ?_) (fun hb16_1 => ?_)
  ·
    refine w7 vi47_19 (vwz_0 ⟨by omega, by omega⟩) (fun h19 => by exfalso; omega) (fun h19 => ?_)
    refine w0 vi47_22 rfl rfl ?_
    refine w2 (1) vi47_23 (by decide) ?_
    refine w0 vi47_24 rfl rfl ?_
    refine w65 (2) vi47_26 (by decide) ?_
    refine w9 vi47_27 ?_
    refine w3 vi47_28 rfl rfl ?_
    refine w6 (1) vi47_29 rfl (by decide) rfl ?_
    refine w5 vi47_32 ?_
    refine m_mk_2 hv z0 z1 ?_
    first
      | (rw [vq_t_y _ hb16_1] at hQ; refine cast (congrArg (fun x => Q [.int (jI x)] σ) ?_) hQ; omega)
      | (rw [vq_t_n _ hb16_1] at hQ; refine cast (congrArg (fun x => Q [.int (jI x)] σ) ?_) hQ; omega)
  ·
    refine w7 vi47_19 (vwz_0 ⟨by omega, by omega⟩) (fun h19 => ?_) (fun h19 => by exfalso; omega)
    refine w6 (1) vi47_29 rfl (by decide) rfl ?_
    refine w5 vi47_32 ?_
    refine m_mk_2 hv z0 z1 ?_
    first
      | (rw [vq_t_y _ hb16_1] at hQ; refine cast (congrArg (fun x => Q [.int (jI x)] σ) ?_) hQ; omega)
      | (rw [vq_t_n _ hb16_1] at hQ; refine cast (congrArg (fun x => Q [.int (jI x)] σ) ?_) hQ; omega)
theorem m_mk_0 {v : Nat} (hv : v < 2) {z m : Int} (z0 : -2147483648 ≤ z) (z1 : z < 2147483648) (hQ : Q [.int (jI (m + (vq_t σ.2 (σ.1 21 v) z 0 1 + vq_t σ.2 (σ.1 21 v) z 1 2 + vq_t σ.2 (σ.1 21 v) z 2 4)))] σ) : vW vw_rep L xs (47, 5, [some (.ref (vw_vr v)), some (.ref 9), some (.int (jI (z))), some (.int (jI (m))), some (.int (jI (0)))], []) σ Q := by
  refine w0 vi47_5 rfl rfl ?_
  refine w2 (3) vi47_7 (by decide) ?_
  refine w8 vi47_8 (vwc_3 ⟨by omega, by omega⟩ ⟨by omega, by omega⟩) (fun h8 => by exfalso; omega) (fun h8 => ?_)
  refine w1 vi47_11 rfl rfl ?_
  refine w1 vi47_12 rfl rfl ?_
  refine w0 vi47_13 rfl rfl ?_
  refine w0 vi47_14 rfl rfl ?_
  refine c_isMarked vi47_16 (by first | omega | exact ve_ix_le _ | exact vk_lat_le _ _ _ _ | assumption) rfl (fun hb16_0 => ?_) (fun hb16_0 => ?_)
  ·
    refine w7 vi47_19 (vwz_0 ⟨by omega, by omega⟩) (fun h19 => by exfalso; omega) (fun h19 => ?_)
    refine w0 vi47_22 rfl rfl ?_
    refine w2 (1) vi47_23 (by decide) ?_
    refine w0 vi47_24 rfl rfl ?_
    refine w65 (1) vi47_26 (by decide) ?_
    refine w9 vi47_27 ?_
    refine w3 vi47_28 rfl rfl ?_
    refine w6 (1) vi47_29 rfl (by decide) rfl ?_
    refine w5 vi47_32 ?_
    refine m_mk_1 hv z0 z1 ?_
    first
      | (rw [vq_t_y _ hb16_0] at hQ; refine cast (congrArg (fun x => Q [.int (jI x)] σ) ?_) hQ; omega)
      | (rw [vq_t_n _ hb16_0] at hQ; refine cast (congrArg (fun x => Q [.int (jI x)] σ) ?_) hQ; omega)
  ·
    refine w7 vi47_19 (vwz_0 ⟨by omega, by omega⟩) (fun h19 => ?_) (fun h19 => by exfalso; omega)
    refine w6 (1) vi47_29 rfl (by decide) rfl ?_
    refine w5 vi47_32 ?_
    refine m_mk_1 hv z0 z1 ?_
    first
      | (rw [vq_t_y _ hb16_0] at hQ; refine cast (congrArg (fun x => Q [.int (jI x)] σ) ?_) hQ; omega)
      | (rw [vq_t_n _ hb16_0] at hQ; refine cast (congrArg (fun x => Q [.int (jI x)] σ) ?_) hQ; omega)
theorem m_marksOf {v : Nat} (hv : v < 2) {z : Int} (z0 : -2147483648 ≤ z) (z1 : z < 2147483648) (hQ :  Q [.int (jI (vq_mk σ.2 (σ.1 21 v) z))] σ) : vW vw_rep L xs (47, 0, [some (.ref (vw_vr v)), some (.ref 9), some (.int (jI (z))), none, none], []) σ Q := by
  refine w2 (0) vi47_0 (by decide) ?_
  refine w3 vi47_1 rfl rfl ?_
  refine w2 (0) vi47_2 (by decide) ?_
  refine w3 vi47_3 rfl rfl ?_
  refine m_mk_0 hv z0 z1 ?_
  refine cast (congrArg (fun x => Q [.int (jI x)] σ) ?_) hQ
  unfold vq_mk
  omega
theorem c_marksOf (hc : vt_code k pc = (27, 47, b, c)) {v : Nat} (hv : v < 2) {z : Int} (z0 : -2147483648 ≤ z) (z1 : z < 2147483648) (hs : Nat.ble (vj_cat sc) 8 = true) (hQ :  vW vw_rep L xs (k, pc + 3, lc, .int (jI (vq_mk σ.2 (σ.1 21 v) z)) :: sc) σ Q) : vW vw_rep L xs (k, pc, lc, .int (jI (z)) :: .ref 9 :: .ref (vw_vr v) :: sc) σ Q := by
  refine w27 (n := 3) (vs := [.int (jI (z)), .ref 9, .ref (vw_vr v)]) hc vm47.2.1 rfl (by rw [vm47.2.2.1]; rfl) hs (by simp only [List.length_cons]; omega) ⟨_, rfl⟩ (fun M hM => hM.2.2.2.2.1 _ hv) (vw_tb_lt (vw_view hv) (by omega)) vm47.1 ?_
  rw [vm47.2.2.1]
  exact m_marksOf hv z0 z1 (Q := fun v σ1 => vW vw_rep L xs (k, pc + 3, lc, v ++ sc) σ1 Q) hQ
theorem m_cm_loop {v : Nat} (hv : v < 2) {y : Int} (hQ : ∀ p : Int, -2147483648 ≤ p → p < 2147483648 → Q [.int (jI p)] σ) : ∀ (e j : Nat) (p : Int), j + e = (σ.1 16 v).length → 0 ≤ p → p ≤ j → vW vw_rep L xs (48, 5, [some (.ref (vw_vr v)), some (.ref 9), some (.int (jI (y))), some (.int (jI (p))), some (.int (jI ((j : Int))))], []) σ Q := by
  intro e
  induction e with
  | zero =>
    intro j p hj p0 p1
    refine vW_len (kk := 16) (i := v) ⟨by decide, hv⟩ (fun hl => ?_)
    have hl : (σ.1 16 v).length ≤ 720 := hl
    refine w0 vi48_5 rfl rfl ?_
    refine w1 vi48_7 rfl rfl ?_
    refine w14v (v := .ref (vw_rr 16 v)) vi48_8 (by first | omega | exact ve_ix_le _ | exact vk_lat_le _ _ _ _ | assumption) rfl ?_
    refine r_size (l := (σ.1 16 v)) vi48_11 ⟨by decide, (show v < 2 by omega)⟩ (by first | rfl | (dsimp only; repeat (first | rw [vw_sr_eq] | rw [vw_sr_ne _ _ (by omega)]))) rfl ?_
    refine w8 vi48_14 (vwc_3 ⟨by omega, by omega⟩ ⟨by omega, by omega⟩) (fun h14 => ?_) (fun h14 => by exfalso; omega)
    refine w0 vi48_44 rfl rfl ?_
    refine w42 vi48_45 vm48.2.2.2 ?_
    exact hQ p (by omega) (by omega)
  | succ e ih =>
    intro j p hj p0 p1
    refine vW_len (kk := 16) (i := v) ⟨by decide, hv⟩ (fun hl => ?_)
    have hl : (σ.1 16 v).length ≤ 720 := hl
    refine w0 vi48_5 rfl rfl ?_
    refine w1 vi48_7 rfl rfl ?_
    refine w14v (v := .ref (vw_rr 16 v)) vi48_8 (by first | omega | exact ve_ix_le _ | exact vk_lat_le _ _ _ _ | assumption) rfl ?_
    refine r_size (l := (σ.1 16 v)) vi48_11 ⟨by decide, (show v < 2 by omega)⟩ (by first | rfl | (dsimp only; repeat (first | rw [vw_sr_eq] | rw [vw_sr_ne _ _ (by omega)]))) rfl ?_
    refine w8 vi48_14 (vwc_3 ⟨by omega, by omega⟩ ⟨by omega, by omega⟩) (fun h14 => by exfalso; omega) (fun h14 => ?_)
    refine w1 vi48_17 rfl rfl ?_
    refine w1 vi48_18 rfl rfl ?_
    refine w1 vi48_19 rfl rfl ?_
    refine w14v (v := .ref (vw_rr 16 v)) vi48_20 (by first | omega | exact ve_ix_le _ | exact vk_lat_le _ _ _ _ | assumption) rfl ?_
    refine w0 vi48_23 rfl rfl ?_
    refine r_at (l := (σ.1 16 v)) vi48_25 ⟨by decide, (show v < 2 by omega)⟩ (by first | rfl | (dsimp only; repeat (first | rw [vw_sr_eq] | rw [vw_sr_ne _ _ (by omega)]))) (by first | omega | exact ve_ix_le _ | exact vk_lat_le _ _ _ _ | assumption) (by first | omega | exact ve_ix_le _ | exact vk_lat_le _ _ _ _ | assumption) rfl (fun _ _ => ?_)
    refine w0 vi48_28 rfl rfl ?_
    refine c_isMarked vi48_29 (by first | omega | exact ve_ix_le _ | exact vk_lat_le _ _ _ _ | assumption) rfl (fun hb29_k => ?_) (fun hb29_k => ?_)
    ·
      refine w7 vi48_32 (vwz_0 ⟨by omega, by omega⟩) (fun h32 => by exfalso; omega) (fun h32 => ?_)
      refine w6 (1) vi48_35 rfl (by decide) rfl ?_
      refine w6 (1) vi48_38 rfl (by decide) rfl ?_
      refine w5 vi48_41 ?_
      exact ih (j + 1) _ (by omega) (by omega) (by omega)
    ·
      refine w7 vi48_32 (vwz_0 ⟨by omega, by omega⟩) (fun h32 => ?_) (fun h32 => by exfalso; omega)
      refine w6 (1) vi48_38 rfl (by decide) rfl ?_
      refine w5 vi48_41 ?_
      exact ih (j + 1) _ (by omega) (by omega) (by omega)
theorem m_countMarked {v : Nat} (hv : v < 2) {y : Int} (hQ : ∀ p : Int, -2147483648 ≤ p → p < 2147483648 → Q [.int (jI (p))] σ) : vW vw_rep L xs (48, 0, [some (.ref (vw_vr v)), some (.ref 9), some (.int (jI (y))), none, none], []) σ Q := by
  refine w2 (0) vi48_0 (by decide) ?_
  refine w3 vi48_1 rfl rfl ?_
  refine w2 (0) vi48_2 (by decide) ?_
  refine w3 vi48_3 rfl rfl ?_
  exact m_cm_loop hv hQ _ 0 0 (Nat.zero_add _) (by omega) (by omega)
theorem c_countMarked (hc : vt_code k pc = (27, 48, b, c)) {v : Nat} (hv : v < 2) {y : Int} (hs : Nat.ble (vj_cat sc) 8 = true) (hQ : ∀ p : Int, -2147483648 ≤ p → p < 2147483648 → vW vw_rep L xs (k, pc + 3, lc, .int (jI (p)) :: sc) σ Q) : vW vw_rep L xs (k, pc, lc, .int (jI (y)) :: .ref 9 :: .ref (vw_vr v) :: sc) σ Q := by
  refine w27 (n := 3) (vs := [.int (jI (y)), .ref 9, .ref (vw_vr v)]) hc vm48.2.1 rfl (by rw [vm48.2.2.1]; rfl) hs (by simp only [List.length_cons]; omega) ⟨_, rfl⟩ (fun M hM => hM.2.2.2.2.1 _ hv) (vw_tb_lt (vw_view hv) (by omega)) vm48.1 ?_
  rw [vm48.2.2.1]
  exact m_countMarked hv (Q := fun v σ1 => vW vw_rep L xs (k, pc + 3, lc, v ++ sc) σ1 Q) hQ
end VW12
