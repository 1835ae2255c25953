/-! ===== a deed is done ===== -/
section VW17
def vCh (n : Int) (ch : Nat → List Int) : Prop := ∀ p : Nat, p < 36 → ∀ x ∈ ch p, 0 ≤ x ∧ x < n
def vPr (cm : Int) (th : Nat → Int) : Prop := (∀ i : Nat, i < 6 → th i = 1 → (i : Int) < cm) ∧ ∃ i : Nat, i < 6 ∧ th i = 1
/-- who knows what, what is under way, who is there -/
def vJ (σ : vw_S) : Prop := vKs σ ∧ (∀ i : Nat, i < 6 → vRds σ i) ∧ vCh (σ.2 1 0) (σ.1 7) ∧ vPr (σ.2 0 0) (σ.2 2) ∧ (σ.1 9 0).length = 36
/-- all that always holds -/
def vI (σ : vw_S) : Prop := vJ σ ∧ vC (σ.2 1 0) (σ.1 12 0) (σ.1 13 0) (σ.1 14 0) ∧ ∀ i : Nat, i < 6 → (σ.1 3 i).length + (σ.1 4 i).length ≤ 8
/-- the writer w has begun the deed d and nobody knows it yet -/
def vM (σ0 : vw_S) (w d : Nat) (σ : vw_S) : Prop :=
  ((d : Int) = σ0.2 1 0 ∧ d < 120) ∧ σ.2 1 0 = σ0.2 1 0 + 1 ∧ σ.2 0 0 = σ0.2 0 0 ∧ σ.2 5 = vu (σ0.2 5) d (w : Int) ∧ σ.2 6 = vu (σ0.2 6) d (vl_at (σ0.1 1 w) (w : Int) + 1) ∧ σ.2 2 = σ0.2 2 ∧
  σ.1 6 = vu (σ0.1 6) d (σ0.1 1 w) ∧ ∀ k, (k = 0 ∨ k = 1 ∨ k = 2 ∨ k = 7 ∨ k = 9) → σ.1 k = σ0.1 k
theorem vM.to {σ0 σ σ' : vw_S} {w d : Nat} (h : vM σ0 w d σ) (hn : σ'.2 1 0 = σ.2 1 0) (hc : σ'.2 0 0 = σ.2 0 0) (h5 : σ'.2 5 = σ.2 5) (h6 : σ'.2 6 = σ.2 6) (h2 : σ'.2 2 = σ.2 2) (g : ∀ k, (k = 0 ∨ k = 1 ∨ k = 2 ∨ k = 6 ∨ k = 7 ∨ k = 9) → σ'.1 k = σ.1 k) : vM σ0 w d σ' := by
  obtain ⟨a1, a2, a3, a4, a5, a6, a7, a8⟩ := h
  exact ⟨a1, hn.trans a2, hc.trans a3, h5.trans a4, h6.trans a5, h2.trans a6, (g 6 (by omega)).trans a7, fun k q => (g k (by omega)).trans (a8 k q)⟩
theorem vK_he {σ : vw_S} (hK : vKs σ) : ∀ i : Nat, i < 6 → ∀ a : Nat, a < 6 → 0 ≤ vl_at (σ.1 1 i) (a : Int) ∧ vl_at (σ.1 1 i) (a : Int) ≤ 120 := by
  obtain ⟨hn0, hc, hA, hB, hH, hO, hF, hW⟩ := hK
  intro i hi a ha
  obtain ⟨b1, b2, b3⟩ := hH i hi
  obtain ⟨c1, c2, c3, c4, c5⟩ := hO i hi
  have h1 := (vl_at_le_sum (fun a ha => (b2 a ha).1) 6 (Nat.le_refl _)).2 a ha
  have h2 := vl_pigeon 120 (σ.1 0 i) c1 (fun x hx => by have := c2 x hx; omega)
  have := (b2 a ha).1
  omega
theorem vK_len {σ : vw_S} (hK : vKs σ) {i : Nat} (hi : i < 6) : ((σ.1 0 i).length : Int) ≤ σ.2 1 0 := by
  obtain ⟨hn0, hc, hA, hB, hH, hO, hF, hW⟩ := hK
  obtain ⟨c1, c2, c3, c4, c5⟩ := hO i hi
  have := vl_pigeon (σ.2 1 0).toNat (σ.1 0 i) c1 (fun x hx => by have := c2 x hx; omega)
  omega
theorem vJ_finish {σ0 σ σ' : vw_S} {w d : Nat} (hJ : vJ σ0) (hM : vM σ0 w d σ) (hw : (w : Int) < σ0.2 0 0) (hn : σ'.2 1 0 = σ.2 1 0) (hc : σ'.2 0 0 = σ.2 0 0) (h5 : σ'.2 5 = σ.2 5) (h6 : σ'.2 6 = σ.2 6) (h2 : σ'.2 2 = σ.2 2)
    (r0 : σ'.1 0 = vu (σ.1 0) w (σ.1 0 w ++ [(d : Int)])) (r1 : σ'.1 1 = vu (σ.1 1) w (vl_put (σ.1 1 w) (σ.2 5 d) (σ.2 6 d))) (r2 : σ'.1 2 = σ.1 2) (r6 : σ'.1 6 = σ.1 6) (r9 : σ'.1 9 = σ.1 9) (r7 : vCh (σ.2 1 0) (σ'.1 7)) : vJ σ' := by
  obtain ⟨j1, j2, j3, j4, j5⟩ := hJ
  obtain ⟨⟨a0, a1⟩, a2, a3, a4, a5, a6, a7, a8⟩ := hM
  have hk := vK_do j1 hw a0 (by omega)
  have e0 := a8 0 (by omega)
  have e1 := a8 1 (by omega)
  have e2 := a8 2 (by omega)
  have e9 := a8 9 (by omega)
  have hr1 : σ'.1 1 = vu (σ0.1 1) w (vl_put (σ0.1 1 w) (w : Int) (vl_at (σ0.1 1 w) (w : Int) + 1)) := by rw [r1, e1, a4, a5, vu_eq, vu_eq]
  refine ⟨?_, fun i hi => ?_, ?_, ?_, ?_⟩
  · unfold vKs
    rw [hn, hc, h5, h6, a2, a3, a4, a5, r6, a7, r0, hr1, r2, e0, e2]
    exact hk
  · unfold vRds
    rw [r6, a7, hr1, r2, e2]
    exact vRd_do j1 hw a0 hi (j2 i hi)
  · rw [hn]; exact r7
  · rw [hc, a3, h2, a6]; exact j4
  · rw [r9, e9]; exact j5
variable {L : Nat} {xs : Nat → Int32} {σ σ2 : vw_S} {Q : List Value → vw_S → Prop} {k pc a b c kk i : Nat} {lc : List (Option Value)} {sc : List Value} {fr : vj_F} {l l2 r12 r13 sh cs tx tx2 d2 he od : List Int} {V : Nat → Nat → Int} {z y : Int}
theorem r_copyFrom {k2 i2 : Nat} (hc : vt_code k pc = (27, 34, b, c)) (hk : vw_ok kk i) (hk2 : vw_ok k2 i2) (hne : ¬ (k2 = kk ∧ i2 = i)) (hr : σ.1 k2 i2 = l) (hlen : l.length ≤ vw_cap kk) (he : (vw_sr σ.1 kk i l, σ.2) = σ2) (hs : Nat.ble (vj_cat sc) 8 = true) (t : vW vw_rep L xs (k, pc + 3, lc, sc) σ2 Q) : vW vw_rep L xs (k, pc, lc, .ref (vw_rr k2 i2) :: .ref (vw_rr kk i) :: sc) σ Q := by
  subst hr; subst he; exact c_copyFrom hc hk hk2 hne hlen hs t
theorem m_begin {w : Nat} (hw : w < 6) (hc0 : (w : Int) < σ.2 0 0) {z : Nat} (hz : z < 5) (n0 : 0 ≤ σ.2 1 0) (n1 : σ.2 1 0 < 120) (hb : vl_at (σ.1 1 w) (w : Int) ≤ 120) (hQ : ∀ (d : Nat) (σ' : vw_S), vM σ w d σ' → (∀ k, ¬ k = 6 → σ'.1 k = σ.1 k) → Q [.ref (vw_dr d)] σ') : vW vw_rep L xs (101, 0, [some (.ref 8), some (.int (jI ((w : Int)))), some (.ref (vw_cr w)), some (.ref (z + 1)), none], []) σ Q := by
  refine vW_len (kk := 1) (i := w) ⟨by decide, hw⟩ (fun hl1 => ?_)
  refine w1 vi101_0 rfl rfl ?_
  refine w14m (v := .ref 9) vi101_1  rfl ?_
  refine w1 vi101_4 rfl rfl ?_
  obtain ⟨d, hd⟩ : ∃ d : Nat, (d : Int) = σ.2 1 0 := ⟨(σ.2 1 0).toNat, by omega⟩
  refine c_open vi101_5 hz n0 n1 rfl ?_
  rw [← hd, Int.toNat_natCast]
  refine w4 vi101_8 rfl rfl ?_
  refine w1 vi101_10 rfl rfl ?_
  refine w0 vi101_12 rfl rfl ?_
  refine w15author (z := (w : Int)) vi101_13 (by first | omega | exact ve_ix_le _ | exact vk_lat_le _ _ _ _ | assumption) ⟨by omega, by omega⟩ ?_
  try dsimp only
  refine w1 vi101_16 rfl rfl ?_
  refine w1 vi101_18 rfl rfl ?_
  refine w14c (v := .ref (vw_rr 1 w)) vi101_19 (by first | omega | exact ve_ix_le _ | exact vk_lat_le _ _ _ _ | assumption) rfl ?_
  refine w0 vi101_22 rfl rfl ?_
  refine r_at (l := (σ.1 1 w)) vi101_23 ⟨by decide, (show w < 6 by omega)⟩ (by first | rfl | (dsimp only; repeat (first | rw [vw_sr_eq] | rw [vw_sr_ne _ _ (by omega)]))) (by first | omega | exact ve_ix_le _ | exact vk_lat_le _ _ _ _ | assumption) (by first | omega | exact ve_ix_le _ | exact vk_lat_le _ _ _ _ | assumption) rfl (fun _ _ => ?_)
  refine w2 (1) vi101_26 (by decide) ?_
  refine w9 vi101_27 ?_
  refine w15number (z := (vl_at (σ.1 1 w) ((w : Int))) + 1) vi101_28 (by first | omega | exact ve_ix_le _ | exact vk_lat_le _ _ _ _ | assumption) ⟨by omega, by omega⟩ ?_
  try dsimp only
  refine w1 vi101_31 rfl rfl ?_
  refine w1 vi101_33 rfl rfl ?_
  refine w1 vi101_34 rfl rfl ?_
  refine w14m (v := .ref 9) vi101_35  rfl ?_
  refine c_stamp vi101_38 (by first | omega | exact ve_ix_le _ | exact vk_lat_le _ _ _ _ | assumption) rfl (fun z38 _ _ => ?_)
  refine w2 (1) vi101_41 (by decide) ?_
  refine w9 vi101_42 ?_
  rw [jI_N (z38 + 1)]
  have hN43 := jN_in (z38 + 1)
  refine w15stamp (z := jN (z38 + 1)) vi101_43 (by first | omega | exact ve_ix_le _ | exact vk_lat_le _ _ _ _ | assumption) ⟨by omega, by omega⟩ ?_
  try dsimp only
  refine w1 vi101_46 rfl rfl ?_
  refine w14d (v := .ref (vw_rr 6 d)) vi101_48 (by first | omega | exact ve_ix_le _ | exact vk_lat_le _ _ _ _ | assumption) rfl ?_
  refine w1 vi101_51 rfl rfl ?_
  refine w14c (v := .ref (vw_rr 1 w)) vi101_52 (by first | omega | exact ve_ix_le _ | exact vk_lat_le _ _ _ _ | assumption) rfl ?_
  refine r_copyFrom (l := σ.1 1 w) (σ2 := ((vw_sr σ.1 6 d (σ.1 1 w)), (vw_sv (vw_sv (vw_sv (vw_sv (vw_sv σ.2 4 d ((z : Int))) 1 0 ((d : Int) + 1)) 5 d ((w : Int))) 6 d ((vl_at (σ.1 1 w) ((w : Int))) + 1)) 7 d (jN (z38 + 1))))) vi101_55 ⟨by decide, (show d < 121 by omega)⟩ ⟨by decide, hw⟩ (by omega) rfl hl1 rfl rfl ?_
  refine w1 vi101_58 rfl rfl ?_
  refine w44 vi101_60 vm101.2.2.2 (by first | exact ⟨by omega, by omega⟩ | exact vw_tb_lt (vw_deed (by first | omega | assumption | exact ve_ix_le _)) (by omega) | exact vw_tb_lt (vw_copy (by first | assumption | omega)) (by omega) | exact vw_tb_lt (vw_view (by first | assumption | omega)) (by omega) | exact vw_row_ref (by first | assumption | exact ⟨by decide, by decide⟩ | exact ⟨by decide, by assumption⟩)) ?_
  have hsv : ∀ k i x, ∀ V : Nat → Nat → Int, vw_sv V k i x k = vu (V k) i x := fun k i x V => vw_sv_k V k i x
  have e1 : ∀ V : Nat → Nat → Int, ∀ x, vw_sv V 1 0 x 1 0 = x := fun V x => vw_sv_eq V 1 0 x
  refine hQ d _ ⟨⟨hd, by omega⟩, ?_, ?_, ?_, ?_, ?_, ?_, fun k' q => ?_⟩ (fun k' q => ?_)
  · dsimp only
    rw [vw_sv_ne _ _ (by omega), vw_sv_ne _ _ (by omega), vw_sv_ne _ _ (by omega), vw_sv_eq]
    omega
  · dsimp only
    repeat (rw [vw_sv_ne _ _ (by omega)])
  · dsimp only
    rw [vw_sv_j _ _ _ (by omega), vw_sv_j _ _ _ (by omega), vw_sv_k, vw_sv_j _ _ _ (by omega), vw_sv_j _ _ _ (by omega)]
  · dsimp only
    rw [vw_sv_j _ _ _ (by omega), vw_sv_k, vw_sv_j _ _ _ (by omega), vw_sv_j _ _ _ (by omega), vw_sv_j _ _ _ (by omega)]
  · dsimp only
    repeat (rw [vw_sv_j _ _ _ (by omega)])
  · exact vw_sr_k _ _ _ _
  · exact vw_sr_j _ _ _ (by omega)
  · exact vw_sr_j _ _ _ q
theorem c_begin (hc : vt_code k pc = (27, 101, b, c)) {w : Nat} (hw : w < 6) (hc0 : (w : Int) < σ.2 0 0) {z : Nat} (hz : z < 5) (n0 : 0 ≤ σ.2 1 0) (n1 : σ.2 1 0 < 120) (hb : vl_at (σ.1 1 w) (w : Int) ≤ 120) (hs : Nat.ble (vj_cat sc) 8 = true) (hQ : ∀ (d : Nat) (σ' : vw_S), vM σ w d σ' → (∀ k, ¬ k = 6 → σ'.1 k = σ.1 k) → vW vw_rep L xs (k, pc + 3, lc, .ref (vw_dr d) :: sc) σ' Q) : vW vw_rep L xs (k, pc, lc, .ref (z + 1) :: .ref (vw_cr w) :: .int (jI ((w : Int))) :: .ref 8 :: sc) σ Q := by
  refine w27 (n := 4) (vs := [.ref (z + 1), .ref (vw_cr w), .int (jI ((w : Int))), .ref 8]) hc vm101.2.1 rfl (by rw [vm101.2.2.1]; rfl) hs (by simp only [List.length_cons]; omega) ⟨_, rfl⟩ (fun M hM => hM.2.2.2.2.2.1) ⟨by omega, by omega⟩ vm101.1 ?_
  rw [vm101.2.2.1]
  exact m_begin hw hc0 hz n0 n1 hb (Q := fun v σ1 => vW vw_rep L xs (k, pc + 3, lc, v ++ sc) σ1 Q) hQ
def vFn (σ : vw_S) (σ' : vw_S) : Prop := σ'.2 = σ.2 ∧ (∀ k, ¬ k = 7 → σ'.1 k = σ.1 k) ∧ vCh (σ.2 1 0) (σ'.1 7)
theorem m_fin_loop {w d m : Nat} (hw : w < 6) (hd : d < 120) (hau : σ.2 5 d = (w : Int)) (hm : σ.2 0 0 = (m : Int)) (hm6 : m ≤ 6) (hdn : (d : Int) < σ.2 1 0) (hQ : ∀ σ', vFn σ σ' → Q [] σ') : ∀ (e j : Nat) (σ1 : vw_S), j + e = m → vFn σ σ1 → vW vw_rep L xs (102, 15, [some (.ref 8), some (.ref (vw_dr d)), some (.ref (vw_cr w)), some (.int (jI ((j : Int))))], []) σ1 Q := by
  intro e
  induction e with
  | zero =>
    intro j σ1 hj hS
    refine w0 vi102_15 rfl rfl ?_
    refine w1 vi102_16 rfl rfl ?_
    refine w14m (v := .int (jI (m : Int))) vi102_17 (by show some (Value.int (jI (σ1.2 0 0))) = _; rw [hS.1, hm]) ?_
    refine w8 vi102_20 (vwc_3 ⟨by omega, by omega⟩ ⟨by omega, by omega⟩) (fun h20 => ?_) (fun h20 => by exfalso; omega)
    refine w43 vi102_61 vm102.2.2.2 ?_
    exact hQ σ1 hS
  | succ e ih =>
    intro j σ1 hj hS
    refine w0 vi102_15 rfl rfl ?_
    refine w1 vi102_16 rfl rfl ?_
    refine w14m (v := .int (jI (m : Int))) vi102_17 (by show some (Value.int (jI (σ1.2 0 0))) = _; rw [hS.1, hm]) ?_
    refine w8 vi102_20 (vwc_3 ⟨by omega, by omega⟩ ⟨by omega, by omega⟩) (fun h20 => by exfalso; omega) (fun h20 => ?_)
    refine w0 vi102_23 rfl rfl ?_
    refine w1 vi102_24 rfl rfl ?_
    refine w14d (v := .int (jI (w : Int))) vi102_25 (by omega) (by show some (Value.int (jI (σ1.2 5 d))) = _; rw [hS.1, hau]) ?_
    refine w8 vi102_28 (vwc_0 ⟨by omega, by omega⟩ ⟨by omega, by omega⟩) (fun h28 => ?_) (fun h28 => ?_)
    ·
      refine w6 (1) vi102_55 rfl (by decide) rfl ?_
      refine w5 vi102_58 ?_
      exact ih (j + 1) σ1 (by omega) hS
    ·
      refine w1 vi102_31 rfl rfl ?_
      refine w0 vi102_32 rfl rfl ?_
      refine c_isPresent vi102_33 (by first | omega | exact ve_ix_le _ | exact vk_lat_le _ _ _ _ | exact ⟨by decide, by decide⟩ | exact ⟨by decide, by assumption⟩ | exact ⟨by decide, Nat.lt_succ_of_le (by first | exact ve_ix_le _ | exact vk_lat_le _ _ _ _ | assumption)⟩ | assumption) rfl (fun hb33 => ?_) (fun hb33 => ?_)
      ·
        refine w7 vi102_36 (vwz_0 ⟨by omega, by omega⟩) (fun h36 => by exfalso; omega) (fun h36 => ?_)
        refine w1 vi102_39 rfl rfl ?_
        refine w1 vi102_40 rfl rfl ?_
        refine w14d (v := .int (jI (w : Int))) vi102_41 (by omega) (by show some (Value.int (jI (σ1.2 5 d))) = _; rw [hS.1, hau]) ?_
        refine w0 vi102_44 rfl rfl ?_
        refine c_channelOf vi102_45 (by first | omega | exact ve_ix_le _ | exact vk_lat_le _ _ _ _ | assumption) (by first | omega | exact ve_ix_le _ | exact vk_lat_le _ _ _ _ | assumption) rfl ?_
        refine w1 vi102_48 rfl rfl ?_
        refine w14d (v := .int (jI (d : Int))) vi102_49 (by omega) (by show some (Value.int (jI (if d = 120 then -1 else (d : Int)))) = _; rw [if_neg (by omega)]) ?_
        refine r_add (l := (σ1.1 7 (w * 6 + j))) (σ2 := ((vw_sr σ1.1 7 (w * 6 + j) (vl_add (vw_cap 7) (σ1.1 7 (w * 6 + j)) ((d : Int)))), σ1.2)) vi102_52 ⟨by decide, (show (w * 6 + j) < 36 by omega)⟩ (by first | rfl | (dsimp only; repeat (first | rw [vw_sr_eq] | rw [vw_sr_ne _ _ (by omega)]))) (by first | omega | exact ve_ix_le _ | exact vk_lat_le _ _ _ _ | assumption) (by first | omega | exact ve_ix_le _ | exact vk_lat_le _ _ _ _ | assumption) rfl rfl ?_
        refine w6 (1) vi102_55 rfl (by decide) rfl ?_
        refine w5 vi102_58 ?_
        refine ih (j + 1) _ (by omega) ⟨hS.1, fun k' q => (vw_sr_j _ _ _ q).trans (hS.2.1 k' q), fun p hp x hx => ?_⟩
        dsimp only at hx
        rw [vw_sr_k] at hx
        by_cases e : p = w * 6 + j
        · subst e
          rw [vu_eq] at hx
          unfold vl_add at hx
          split at hx
          · rcases List.mem_append.mp hx with g | g
            · exact hS.2.2 _ hp x g
            · rw [List.mem_singleton.mp g]
              exact ⟨by omega, hdn⟩
          · exact hS.2.2 _ hp x hx
        · rw [vu_ne _ _ e] at hx
          exact hS.2.2 p hp x hx
      ·
        refine w7 vi102_36 (vwz_0 ⟨by omega, by omega⟩) (fun h36 => ?_) (fun h36 => by exfalso; omega)
        refine w6 (1) vi102_55 rfl (by decide) rfl ?_
        refine w5 vi102_58 ?_
        exact ih (j + 1) σ1 (by omega) hS
theorem m_finish {σ0 : vw_S} {w d : Nat} (hw : w < 6) (hJ : vJ σ0) (hM : vM σ0 w d σ) (hc0 : (w : Int) < σ0.2 0 0) (hQ : ∀ σ', vJ σ' → σ'.2 1 0 = σ.2 1 0 → (∀ k, (k = 3 ∨ k = 4 ∨ k = 12 ∨ k = 13 ∨ k = 14) → σ'.1 k = σ.1 k) → Q [] σ') : vW vw_rep L xs (102, 0, [some (.ref 8), some (.ref (vw_dr d)), some (.ref (vw_cr w)), none], []) σ Q := by
  have hdd := hM.1
  refine w1 vi102_0 rfl rfl ?_
  refine w1 vi102_1 rfl rfl ?_
  refine w14c (v := .int (jI ((σ.2 3 w)))) vi102_2 (by first | omega | exact ve_ix_le _ | exact vk_lat_le _ _ _ _ | assumption) rfl ?_
  refine vW_nR (V := σ.2) rfl 3 (w) (fun _ _ => ?_)
  refine w15caretd (z := (σ.2 3 w)) vi102_5 (by first | omega | exact ve_ix_le _ | exact vk_lat_le _ _ _ _ | assumption) ⟨by omega, by omega⟩ ?_
  try dsimp only
  refine w1 vi102_8 rfl rfl ?_
  refine w1 vi102_9 rfl rfl ?_
  have hJ1 := hJ.1
  have hlen : (σ.1 0 w).length < 120 := by
    have h1 := vK_len hJ1 hw
    rw [hM.2.2.2.2.2.2.2 0 (by omega)]
    have := hM.1
    omega
  refine c_learn vi102_10 hw (by have := hM.1; omega) hlen rfl ?_
  try dsimp only
  refine w2 (0) vi102_13 (by decide) ?_
  refine w3 vi102_14 rfl rfl ?_
  have hcm := hJ.1.2.1
  obtain ⟨m, hm⟩ : ∃ m : Nat, σ0.2 0 0 = (m : Int) := ⟨(σ0.2 0 0).toNat, by omega⟩
  have hM' := hM
  obtain ⟨a1, a2, a3, a4, a5, a6, a7, a8⟩ := hM'
  have hV : ∀ k' i', ¬ k' = 8 → vw_sv σ.2 8 d (σ.2 3 w) k' i' = σ.2 k' i' := fun k' i' q => vw_sv_ne _ _ (by omega)
  have hVk : ∀ k', ¬ k' = 8 → vw_sv σ.2 8 d (σ.2 3 w) k' = σ.2 k' := fun k' q => vw_sv_j _ _ _ q
  have e5 : σ.2 5 d = (w : Int) := by rw [a4, vu_eq]
  rw [hV 5 d (by omega), hV 6 d (by omega)]
  refine m_fin_loop (σ := (vw_sr (vw_sr σ.1 0 w (σ.1 0 w ++ [(d : Int)])) 1 w (vl_put (σ.1 1 w) (σ.2 5 d) (σ.2 6 d)), vw_sv σ.2 8 d (σ.2 3 w))) (m := m) hw (by omega) ((hV 5 d (by omega)).trans e5) ((hV 0 0 (by omega)).trans (a3.trans hm)) (by omega) (show (d : Int) < vw_sv σ.2 8 d (σ.2 3 w) 1 0 by rw [hV 1 0 (by omega)]; omega) (fun σ' hS => ?_) m 0 _ (Nat.zero_add _) ⟨rfl, fun _ _ => rfl, ?_⟩
  · obtain ⟨s1, s2, s3⟩ := hS
    dsimp only at s1 s2 s3
    rw [hV 1 0 (by omega)] at s3
    have t1 : ∀ k', ¬ k' = 8 → σ'.2 k' = σ.2 k' := fun k' q => by rw [s1]; exact hVk k' q
    have u0 : σ'.1 0 = vu (σ.1 0) w (σ.1 0 w ++ [(d : Int)]) := by rw [s2 0 (by omega), vw_sr_j _ _ _ (by omega), vw_sr_k]
    have u1 : σ'.1 1 = vu (σ.1 1) w (vl_put (σ.1 1 w) (σ.2 5 d) (σ.2 6 d)) := by rw [s2 1 (by omega), vw_sr_k, vw_sr_j _ _ _ (by omega)]
    have uu : ∀ k', ¬ k' = 0 → ¬ k' = 1 → ¬ k' = 7 → σ'.1 k' = σ.1 k' := fun k' q0 q1 q7 => by rw [s2 k' q7, vw_sr_j _ _ _ q1, vw_sr_j _ _ _ q0]
    refine hQ σ' (vJ_finish hJ hM hc0 (congrFun (t1 1 (by omega)) 0) (congrFun (t1 0 (by omega)) 0) (t1 5 (by omega)) (t1 6 (by omega)) (t1 2 (by omega)) u0 u1 (uu 2 (by omega) (by omega) (by omega)) (uu 6 (by omega) (by omega) (by omega)) (uu 9 (by omega) (by omega) (by omega)) s3) (congrFun (t1 1 (by omega)) 0) (fun k' q => uu k' (by omega) (by omega) (by omega))
  · dsimp only
    rw [hV 1 0 (by omega), vw_sr_j _ _ _ (by omega), vw_sr_j _ _ _ (by omega), a8 7 (by omega), a2]
    intro p hp x hx
    have := hJ.2.2.1 p hp x hx
    omega
theorem c_finish (hc : vt_code k pc = (27, 102, b, c)) {σ0 : vw_S} {w d : Nat} (hw : w < 6) (hJ : vJ σ0) (hM : vM σ0 w d σ) (hc0 : (w : Int) < σ0.2 0 0) (hs : Nat.ble (vj_cat sc) 8 = true) (hQ : ∀ σ', vJ σ' → σ'.2 1 0 = σ.2 1 0 → (∀ k, (k = 3 ∨ k = 4 ∨ k = 12 ∨ k = 13 ∨ k = 14) → σ'.1 k = σ.1 k) → vW vw_rep L xs (k, pc + 3, lc, sc) σ' Q) : vW vw_rep L xs (k, pc, lc, .ref (vw_cr w) :: .ref (vw_dr d) :: .ref 8 :: sc) σ Q := by
  refine w27 (n := 3) (vs := [.ref (vw_cr w), .ref (vw_dr d), .ref 8]) hc vm102.2.1 rfl (by rw [vm102.2.2.1]; rfl) hs (by simp only [List.length_cons]; omega) ⟨_, rfl⟩ (fun M hM => hM.2.2.2.2.2.1) ⟨by omega, by omega⟩ vm102.1 ?_
  rw [vm102.2.2.1]
  exact m_finish hw hJ hM hc0 (Q := fun v σ1 => vW vw_rep L xs (k, pc + 3, lc, v ++ sc) σ1 Q) hQ
end VW17
