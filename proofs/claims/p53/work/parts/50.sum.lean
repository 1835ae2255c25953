/-! ===== the checksum ===== -/
section VW22
def vy_mx (s x : Int64) : Int64 := s * lN 31 + x
def vy_mi (s : Int64) (z : Int) : Int64 := vy_mx s (jI z).toInt64
def vg_w1 (σ : vw_S) (w : Nat) (a : Nat) (s : Int64) : Int64 := vy_mi s (vl_at (σ.1 1 w) (a : Int))
def vg_w2 (σ : vw_S) (w : Nat) (o : Nat) (s : Int64) : Int64 := vy_mi s (vy_seen σ.2 (σ.1 1 w) (σ.1 0 w) (vx σ w 20) (vx σ w 15) (w : Int) (o : Int))
def vg_wa (σ : vw_S) (w : Nat) (s : Int64) : Int64 := vf (vg_w1 σ w) (σ.2 0 0).toNat (vy_mi (vy_mi s (w : Int)) ((σ.1 0 w).length : Int))
def vg_wb (σ : vw_S) (w : Nat) (s : Int64) : Int64 := vy_mi (vy_mi (vy_mi (vy_mi (vg_wa σ w s) ((σ.1 2 w).length : Int)) ((σ.1 3 w).length : Int)) ((σ.1 4 w).length : Int)) (vp_pos (vx σ w 20) (vx σ w 15) (σ.2 3 w))
def vg_w (σ : vw_S) (w : Nat) (s : Int64) : Int64 := vf (vg_w2 σ w) (σ.2 0 0).toNat (vg_wb σ w s)
def vg_t1 (σ : vw_S) (w : Nat) (j : Nat) (s : Int64) : Int64 := vy_mi s (vy_desc σ.2 (σ.1 12 0) (σ.1 13 0) (vx σ w 15) (vx σ w 20) (j : Int))
def vg_t2 (σ : vw_S) (w : Nat) (j : Nat) (s : Int64) : Int64 := vy_mi s (vq_mk σ.2 (vx σ w 21) (vl_at (vx σ w 16) (j : Int)))
def vg_ta (σ : vw_S) (w : Nat) (s : Int64) : Int64 := vy_mi (vy_mi (vy_mi (vy_mi s ((vx σ w 16).length : Int)) (vy_all σ)) (vy_words (σ.1 12 0) (vx σ w 16) (vx σ w 16).length).1) ((vx σ w 15).length : Int)
def vg_tb (σ : vw_S) (w : Nat) (s : Int64) : Int64 := vf (vg_t1 σ w) (vx σ w 15).length (vg_ta σ w s)
def vg_t (σ : vw_S) (w : Nat) (s : Int64) : Int64 := vf (vg_t2 σ w) (vx σ w 16).length (vg_tb σ w s)
def vg_o1 (σ : vw_S) (w : Nat) (o : Nat) (s : Int64) : Int64 := if o = w ∨ ¬ σ.2 2 o = 1 then s else vy_mi (vy_mx (vy_mi s ((σ.1 7 (w * 6 + o)).length : Int)) (if vl_at (σ.1 9 0) (min (w : Int) (o : Int) * 6 + max (w : Int) (o : Int)) = 1 then lN 1 else lN 0)) (vk_bey (σ.1 1 w) (σ.1 1 o) 6)
def vg_o (σ : vw_S) (w : Nat) (s : Int64) : Int64 := vf (vg_o1 σ w) 6 s
noncomputable def vg_d0 (σ : vw_S) : Int64 := vy_mx (vy_mi (vy_mi (lN 58011) (σ.2 0 0)) (σ.2 1 0)) (@ite Int64 (vy_agr σ) (Classical.propDecidable _) (lN 1) (lN 0))
def vg_d1 (σ : vw_S) (w : Nat) (s : Int64) : Int64 := if σ.2 2 w = 1 then vg_o σ w (vg_t σ w (vg_w σ w s)) else s
noncomputable def vg_d (σ : vw_S) : Int64 := vf (vg_d1 σ) 6 (vg_d0 σ)
theorem vy_all_same {σ σ1 : vw_S} (h : vw_same σ σ1) : vy_all σ1 = vy_all σ := by
  unfold vy_all
  rw [h.1, h.row (k := 0) (by unfold vw_sc; omega), vq_vw_same h]
theorem vg_w_same {σ σ1 : vw_S} (h : vw_same σ σ1) : vg_w σ1 = vg_w σ := by
  funext w s
  unfold vg_w vg_wb vg_wa
  have e1 : vg_w1 σ1 w = vg_w1 σ w := by
    funext a s
    unfold vg_w1
    rw [h.2 1 w (by unfold vw_sc; omega)]
  have e2 : vg_w2 σ1 w = vg_w2 σ w := by
    funext a s
    unfold vg_w2
    rw [h.1, h.2 1 w (by unfold vw_sc; omega), h.2 0 w (by unfold vw_sc; omega), vx_same h]
  rw [e1, e2, h.1, h.2 0 w (by unfold vw_sc; omega), h.2 2 w (by unfold vw_sc; omega), h.2 3 w (by unfold vw_sc; omega), h.2 4 w (by unfold vw_sc; omega), vx_same h]
theorem vg_t_same {σ σ1 : vw_S} (h : vw_same σ σ1) : vg_t σ1 = vg_t σ := by
  funext w s
  unfold vg_t vg_tb vg_ta
  have e1 : vg_t1 σ1 w = vg_t1 σ w := by
    funext a s
    unfold vg_t1
    rw [h.1, h.2 12 0 (by unfold vw_sc; omega), h.2 13 0 (by unfold vw_sc; omega), vx_same h]
  have e2 : vg_t2 σ1 w = vg_t2 σ w := by
    funext a s
    unfold vg_t2
    rw [h.1, vx_same h]
  rw [e1, e2, h.2 12 0 (by unfold vw_sc; omega), vx_same h, vy_all_same h]
theorem vg_o_same {σ σ1 : vw_S} (h : vw_same σ σ1) : vg_o σ1 = vg_o σ := by
  funext w s
  unfold vg_o
  have e1 : vg_o1 σ1 w = vg_o1 σ w := by
    funext a s
    unfold vg_o1
    rw [h.1, h.2 7 (w * 6 + a) (by unfold vw_sc; omega), h.2 9 0 (by unfold vw_sc; omega), h.2 1 w (by unfold vw_sc; omega), h.2 1 a (by unfold vw_sc; omega)]
  rw [e1]
theorem vy_agr_same {σ σ1 : vw_S} (h : vw_same σ σ1) : vy_agr σ1 = vy_agr σ := by
  unfold vy_agr
  rw [h.1, h.row (k := 1) (by unfold vw_sc; omega)]
theorem vg_d_same {σ σ1 : vw_S} (h : vw_same σ σ1) : vg_d σ1 = vg_d σ := by
  unfold vg_d
  have e1 : vg_d1 σ1 = vg_d1 σ := by
    funext a s
    unfold vg_d1
    rw [h.1, vg_w_same h, vg_t_same h, vg_o_same h]
  have e0 : vg_d0 σ1 = vg_d0 σ := by
    unfold vg_d0
    rw [h.1]
    have := vy_agr_same h
    congr 1
    by_cases q : vy_agr σ
    · rw [if_pos q, if_pos (this ▸ q)]
    · rw [if_neg q, if_neg (this ▸ q)]
  rw [e1, e0]
variable {L : Nat} {xs : Nat → Int32} {σ σ2 : vw_S} {Q : List Value → vw_S → Prop} {k pc a b c kk i : Nat} {lc : List (Option Value)} {sc : List Value} {fr : vj_F} {l l2 r12 r13 sh cs tx tx2 d2 he od dec : List Int} {V : Nat → Nat → Int} {z y : Int}
theorem c_marksR (hc : vt_code k pc = (27, 47, b, c)) {v : Nat} (hv : v < 2) (hV : σ.2 = V) (h21 : σ.1 21 v = dec) (z0 : -2147483648 ≤ z) (z1 : z < 2147483648) (hs : Nat.ble (vj_cat sc) 8 = true) (t : vW vw_rep L xs (k, pc + 3, lc, .int (jI (vq_mk V dec z)) :: sc) σ Q) : vW vw_rep L xs (k, pc, lc, .int (jI z) :: .ref 9 :: .ref (vw_vr v) :: sc) σ Q := by
  subst hV; subst h21; exact c_marksOf hc hv z0 z1 hs t
theorem m_mix {s x : Int64} (hQ :  Q [.long (vy_mx (s) (x))] σ) : vW vw_rep L xs (119, 0, [some (.long (s)), none, some (.long (x)), none], []) σ Q := by
  refine w52 vi119_0 rfl rfl ?_
  refine w51 vi119_1 ?_
  refine w49 vi119_4 ?_
  refine w52 vi119_5 rfl rfl ?_
  refine w48 vi119_6 ?_
  refine w45 vi119_7 vm119.2.2.2 ?_
  first | exact hQ | exact h1 (by assumption) | exact h0 (by assumption) | exact h1 (by omega) | exact h0 (by omega)
theorem c_mix (hc : vt_code k pc = (29, 119, b, c)) {s x : Int64} (hs : Nat.ble (vj_cat sc) 8 = true) (hQ :  vW vw_rep L xs (k, pc + 3, lc, .long (vy_mx (s) (x)) :: sc) σ Q) : vW vw_rep L xs (k, pc, lc, .long (x) :: .long (s) :: sc) σ Q := by
  refine w29 (n := 2) (vs := [.long (x), .long (s)]) hc vm119.2.1 rfl (by rw [vm119.2.2.1]; rfl) hs (by simp only [List.length_cons]; omega) ?_
  rw [vm119.2.2.1]
  exact m_mix  (Q := fun v σ1 => vW vw_rep L xs (k, pc + 3, lc, v ++ sc) σ1 Q) hQ
theorem m_mw1_loop {w m : Nat} (hw : w < 6) {σ1 : vw_S} (s1 : vw_same σ σ1) (e1 : ∀ k, 15 ≤ k → k ≤ 21 → σ1.1 k 0 = vx σ w k) (hm : σ.2 0 0 = (m : Int)) (hm6 : m ≤ 6) {s : Int64} {s0 : Int64} (hQ : vW vw_rep L xs (120, 68, [some (.ref 8), some (.long (s)), none, some (.int (jI ((w : Int)))), some (.ref (vw_cr w)), some (.ref (vw_vr 0)), some (.long (vf (vg_w1 σ w) (m) s0)), none, some (.int (jI ((m : Int))))], []) σ1 Q) : ∀ (e j : Nat), j + e = m → vW vw_rep L xs (120, 35, [some (.ref 8), some (.long (s)), none, some (.int (jI ((w : Int)))), some (.ref (vw_cr w)), some (.ref (vw_vr 0)), some (.long (vf (vg_w1 σ w) j s0)), none, some (.int (jI ((j : Int))))], []) σ1 Q := by
  intro e
  induction e with
  | zero =>
    intro j hj
    refine w0 vi120_35 rfl rfl ?_
    refine w1 vi120_37 rfl rfl ?_
    refine w14m (v := .int (jI ((σ.2 0 0)))) vi120_38  (by rw [s1.1]; rfl) ?_
    refine vW_nR (V := σ.2) s1.1 0 (0) (fun _ _ => ?_)
    refine w8 vi120_41 (vwc_3 ⟨by omega, by omega⟩ ⟨by omega, by omega⟩) (fun h41 => ?_) (fun h41 => by exfalso; omega)
    rw [show j = m by omega]
    exact hQ
  | succ e ih =>
    intro j hj
    refine w0 vi120_35 rfl rfl ?_
    refine w1 vi120_37 rfl rfl ?_
    refine w14m (v := .int (jI ((σ.2 0 0)))) vi120_38  (by rw [s1.1]; rfl) ?_
    refine vW_nR (V := σ.2) s1.1 0 (0) (fun _ _ => ?_)
    refine w8 vi120_41 (vwc_3 ⟨by omega, by omega⟩ ⟨by omega, by omega⟩) (fun h41 => by exfalso; omega) (fun h41 => ?_)
    refine w52 vi120_44 rfl rfl ?_
    refine w1 vi120_46 rfl rfl ?_
    refine w14c (v := .ref (vw_rr 1 w)) vi120_48 (by first | omega | exact ve_ix_le _ | exact vk_lat_le _ _ _ _ | assumption) rfl ?_
    refine w0 vi120_51 rfl rfl ?_
    refine r_at (l := (σ.1 1 w)) vi120_53 ⟨by decide, (show w < 6 by omega)⟩ (s1.2 1 w (by unfold vw_sc; omega)) (by first | omega | exact ve_ix_le _ | exact vk_lat_le _ _ _ _ | assumption) (by first | omega | exact ve_ix_le _ | exact vk_lat_le _ _ _ _ | assumption) rfl (fun _ _ => ?_)
    refine w47 vi120_56 ?_
    refine c_mix vi120_57 rfl ?_
    refine w53 (lc' := [some (.ref 8), some (.long (s)), none, some (.int (jI ((w : Int)))), some (.ref (vw_cr w)), some (.ref (vw_vr 0)), some (.long (vy_mi (vf (vg_w1 σ w) j s0) (vl_at (σ.1 1 w) ((j : Int))))), none, some (.int (jI ((j : Int))))]) vi120_60 rfl rfl ?_
    refine w6 (lc' := [some (.ref 8), some (.long (s)), none, some (.int (jI ((w : Int)))), some (.ref (vw_cr w)), some (.ref (vw_vr 0)), some (.long (vy_mi (vf (vg_w1 σ w) j s0) (vl_at (σ.1 1 w) ((j : Int))))), none, some (.int (jI ((j : Int) + 1)))]) (1) vi120_62 rfl (by decide) rfl ?_
    refine w5 vi120_65 ?_
    exact ih (j + 1) (by omega)
theorem m_mw2_loop {w m : Nat} (hw : w < 6) {σ1 : vw_S} (s1 : vw_same σ σ1) (e1 : ∀ k, 15 ≤ k → k ≤ 21 → σ1.1 k 0 = vx σ w k) (hm : σ.2 0 0 = (m : Int)) (hm6 : m ≤ 6) {s : Int64} {s0 : Int64} (hQ : vW vw_rep L xs (120, 171, [some (.ref 8), some (.long (s)), none, some (.int (jI ((w : Int)))), some (.ref (vw_cr w)), some (.ref (vw_vr 0)), some (.long (vf (vg_w2 σ w) (m) s0)), none, some (.int (jI ((m : Int))))], []) σ1 Q) : ∀ (e j : Nat), j + e = m → vW vw_rep L xs (120, 137, [some (.ref 8), some (.long (s)), none, some (.int (jI ((w : Int)))), some (.ref (vw_cr w)), some (.ref (vw_vr 0)), some (.long (vf (vg_w2 σ w) j s0)), none, some (.int (jI ((j : Int))))], []) σ1 Q := by
  intro e
  induction e with
  | zero =>
    intro j hj
    refine w0 vi120_137 rfl rfl ?_
    refine w1 vi120_139 rfl rfl ?_
    refine w14m (v := .int (jI ((σ.2 0 0)))) vi120_140  (by rw [s1.1]; rfl) ?_
    refine vW_nR (V := σ.2) s1.1 0 (0) (fun _ _ => ?_)
    refine w8 vi120_143 (vwc_3 ⟨by omega, by omega⟩ ⟨by omega, by omega⟩) (fun h143 => ?_) (fun h143 => by exfalso; omega)
    rw [show j = m by omega]
    exact hQ
  | succ e ih =>
    intro j hj
    refine w0 vi120_137 rfl rfl ?_
    refine w1 vi120_139 rfl rfl ?_
    refine w14m (v := .int (jI ((σ.2 0 0)))) vi120_140  (by rw [s1.1]; rfl) ?_
    refine vW_nR (V := σ.2) s1.1 0 (0) (fun _ _ => ?_)
    refine w8 vi120_143 (vwc_3 ⟨by omega, by omega⟩ ⟨by omega, by omega⟩) (fun h143 => by exfalso; omega) (fun h143 => ?_)
    refine w52 vi120_146 rfl rfl ?_
    refine w1 vi120_148 rfl rfl ?_
    refine w1 vi120_149 rfl rfl ?_
    refine w0 vi120_151 rfl rfl ?_
    refine w1 vi120_152 rfl rfl ?_
    refine w0 vi120_154 rfl rfl ?_
    refine c_seenR vi120_156 (by first | omega | exact ve_ix_le _ | exact vk_lat_le _ _ _ _ | assumption) (by first | omega | exact ve_ix_le _ | exact vk_lat_le _ _ _ _ | assumption) (by first | omega | exact ve_ix_le _ | exact vk_lat_le _ _ _ _ | assumption) (by first | omega | exact ve_ix_le _ | exact vk_lat_le _ _ _ _ | assumption) s1.1 (s1.2 1 w (by unfold vw_sc; omega)) (s1.2 0 w (by unfold vw_sc; omega)) (e1 20 (by decide) (by decide)) (e1 15 (by decide) (by decide)) rfl ?_
    refine w47 vi120_159 ?_
    refine c_mix vi120_160 rfl ?_
    refine w53 (lc' := [some (.ref 8), some (.long (s)), none, some (.int (jI ((w : Int)))), some (.ref (vw_cr w)), some (.ref (vw_vr 0)), some (.long (vy_mi (vf (vg_w2 σ w) j s0) (vy_seen σ.2 (σ.1 1 w) (σ.1 0 w) (vx σ w 20) (vx σ w 15) (w : Int) (j : Int)))), none, some (.int (jI ((j : Int))))]) vi120_163 rfl rfl ?_
    refine w6 (lc' := [some (.ref 8), some (.long (s)), none, some (.int (jI ((w : Int)))), some (.ref (vw_cr w)), some (.ref (vw_vr 0)), some (.long (vy_mi (vf (vg_w2 σ w) j s0) (vy_seen σ.2 (σ.1 1 w) (σ.1 0 w) (vx σ w 20) (vx σ w 15) (w : Int) (j : Int)))), none, some (.int (jI ((j : Int) + 1)))]) (1) vi120_165 rfl (by decide) rfl ?_
    refine w5 vi120_168 ?_
    exact ih (j + 1) (by omega)
theorem m_mixWriter {w : Nat} (hw : w < 6) (n0 : 0 ≤ σ.2 1 0) (n1 : σ.2 1 0 ≤ 120) (hcm : 1 ≤ σ.2 0 0 ∧ σ.2 0 0 ≤ 6) {s : Int64} (hQ : ∀ σ', vw_same σ σ' → Q [.long (vg_w σ w s)] σ') : vW vw_rep L xs (120, 0, [some (.ref 8), some (.long (s)), none, some (.int (jI ((w : Int)))), some (.ref (vw_cr w)), none, none, none, none], []) σ Q := by
  obtain ⟨m, hm⟩ : ∃ m : Nat, σ.2 0 0 = (m : Int) := ⟨(σ.2 0 0).toNat, by omega⟩
  have hm6 : m ≤ 6 := by omega
  have hmt : (σ.2 0 0).toNat = m := by omega
  refine w1 vi120_0 rfl rfl ?_
  refine w1 vi120_1 rfl rfl ?_
  refine c_see vi120_3 (by first | omega | exact ve_ix_le _ | exact vk_lat_le _ _ _ _ | assumption) n0 n1 rfl (fun σ1 g1 => ?_)
  obtain ⟨s1, e1⟩ := vx_see (vw_same.refl σ) g1
  refine w4 (lc' := [some (.ref 8), some (.long (s)), none, some (.int (jI ((w : Int)))), some (.ref (vw_cr w)), some (.ref (vw_vr 0)), none, none, none]) vi120_6 rfl rfl ?_
  refine w52 vi120_8 rfl rfl ?_
  refine w0 vi120_9 rfl rfl ?_
  refine w47 vi120_10 ?_
  refine c_mix vi120_11 rfl ?_
  refine w53 (lc' := [some (.ref 8), some (.long (s)), none, some (.int (jI ((w : Int)))), some (.ref (vw_cr w)), some (.ref (vw_vr 0)), some (.long (vy_mi (s) ((w : Int)))), none, none]) vi120_14 rfl rfl ?_
  refine w52 vi120_16 rfl rfl ?_
  refine w1 vi120_18 rfl rfl ?_
  refine w14c (v := .ref (vw_rr 0 w)) vi120_20 (by first | omega | exact ve_ix_le _ | exact vk_lat_le _ _ _ _ | assumption) rfl ?_
  refine r_size (l := (σ.1 0 w)) vi120_23 ⟨by decide, (show w < 6 by omega)⟩ (s1.2 0 w (by unfold vw_sc; omega)) rfl ?_
  refine w47 vi120_26 ?_
  refine c_mix vi120_27 rfl ?_
  refine w53 (lc' := [some (.ref 8), some (.long (s)), none, some (.int (jI ((w : Int)))), some (.ref (vw_cr w)), some (.ref (vw_vr 0)), some (.long (vy_mi (vy_mi (s) ((w : Int))) (((σ.1 0 w).length : Int)))), none, none]) vi120_30 rfl rfl ?_
  refine w2 (0) vi120_32 (by decide) ?_
  refine w3 (lc' := [some (.ref 8), some (.long (s)), none, some (.int (jI ((w : Int)))), some (.ref (vw_cr w)), some (.ref (vw_vr 0)), some (.long (vy_mi (vy_mi (s) ((w : Int))) (((σ.1 0 w).length : Int)))), none, some (.int (jI (0)))]) vi120_33 rfl rfl ?_
  refine m_mw1_loop (s := s) (s0 := vy_mi (vy_mi s (w : Int)) ((σ.1 0 w).length : Int)) hw s1 e1 hm hm6 ?_ m 0 (Nat.zero_add _)
  have ewa : vf (vg_w1 σ w) m (vy_mi (vy_mi s (w : Int)) ((σ.1 0 w).length : Int)) = vg_wa σ w s := by
    unfold vg_wa
    rw [hmt]
  rw [ewa]
  refine w52 vi120_68 rfl rfl ?_
  refine w1 vi120_70 rfl rfl ?_
  refine w14c (v := .ref (vw_rr 2 w)) vi120_72 (by first | omega | exact ve_ix_le _ | exact vk_lat_le _ _ _ _ | assumption) rfl ?_
  refine r_size (l := (σ.1 2 w)) vi120_75 ⟨by decide, (show w < 6 by omega)⟩ (s1.2 2 w (by unfold vw_sc; omega)) rfl ?_
  refine w47 vi120_78 ?_
  refine c_mix vi120_79 rfl ?_
  refine w53 (lc' := [some (.ref 8), some (.long (s)), none, some (.int (jI ((w : Int)))), some (.ref (vw_cr w)), some (.ref (vw_vr 0)), some (.long (vy_mi (vg_wa σ w s) (((σ.1 2 w).length : Int)))), none, some (.int (jI ((m : Int))))]) vi120_82 rfl rfl ?_
  refine w52 vi120_84 rfl rfl ?_
  refine w1 vi120_86 rfl rfl ?_
  refine w14c (v := .ref (vw_rr 3 w)) vi120_88 (by first | omega | exact ve_ix_le _ | exact vk_lat_le _ _ _ _ | assumption) rfl ?_
  refine r_size (l := (σ.1 3 w)) vi120_91 ⟨by decide, (show w < 6 by omega)⟩ (s1.2 3 w (by unfold vw_sc; omega)) rfl ?_
  refine w47 vi120_94 ?_
  refine c_mix vi120_95 rfl ?_
  refine w53 (lc' := [some (.ref 8), some (.long (s)), none, some (.int (jI ((w : Int)))), some (.ref (vw_cr w)), some (.ref (vw_vr 0)), some (.long (vy_mi (vy_mi (vg_wa σ w s) (((σ.1 2 w).length : Int))) (((σ.1 3 w).length : Int)))), none, some (.int (jI ((m : Int))))]) vi120_98 rfl rfl ?_
  refine w52 vi120_100 rfl rfl ?_
  refine w1 vi120_102 rfl rfl ?_
  refine w14c (v := .ref (vw_rr 4 w)) vi120_104 (by first | omega | exact ve_ix_le _ | exact vk_lat_le _ _ _ _ | assumption) rfl ?_
  refine r_size (l := (σ.1 4 w)) vi120_107 ⟨by decide, (show w < 6 by omega)⟩ (s1.2 4 w (by unfold vw_sc; omega)) rfl ?_
  refine w47 vi120_110 ?_
  refine c_mix vi120_111 rfl ?_
  refine w53 (lc' := [some (.ref 8), some (.long (s)), none, some (.int (jI ((w : Int)))), some (.ref (vw_cr w)), some (.ref (vw_vr 0)), some (.long (vy_mi (vy_mi (vy_mi (vg_wa σ w s) (((σ.1 2 w).length : Int))) (((σ.1 3 w).length : Int))) (((σ.1 4 w).length : Int)))), none, some (.int (jI ((m : Int))))]) vi120_114 rfl rfl ?_
  refine w52 vi120_116 rfl rfl ?_
  refine w1 vi120_118 rfl rfl ?_
  refine w1 vi120_120 rfl rfl ?_
  refine w14c (v := .int (jI ((σ.2 3 w)))) vi120_122 (by first | omega | exact ve_ix_le _ | exact vk_lat_le _ _ _ _ | assumption) (by rw [s1.1]; rfl) ?_
  refine vW_nR (V := σ.2) s1.1 3 (w) (fun _ _ => ?_)
  refine c_positionOfR vi120_125 (by first | omega | exact ve_ix_le _ | exact vk_lat_le _ _ _ _ | assumption) (e1 20 (by decide) (by decide)) (e1 15 (by decide) (by decide)) (by first | omega | exact ve_ix_le _ | exact vk_lat_le _ _ _ _ | assumption) (by first | omega | exact ve_ix_le _ | exact vk_lat_le _ _ _ _ | assumption) rfl ?_
  refine w47 vi120_128 ?_
  refine c_mix vi120_129 rfl ?_
  refine w53 (lc' := [some (.ref 8), some (.long (s)), none, some (.int (jI ((w : Int)))), some (.ref (vw_cr w)), some (.ref (vw_vr 0)), some (.long (vy_mi (vy_mi (vy_mi (vy_mi (vg_wa σ w s) (((σ.1 2 w).length : Int))) (((σ.1 3 w).length : Int))) (((σ.1 4 w).length : Int))) (vp_pos (vx σ w 20) (vx σ w 15) ((σ.2 3 w))))), none, some (.int (jI ((m : Int))))]) vi120_132 rfl rfl ?_
  refine w2 (0) vi120_134 (by decide) ?_
  refine w3 (lc' := [some (.ref 8), some (.long (s)), none, some (.int (jI ((w : Int)))), some (.ref (vw_cr w)), some (.ref (vw_vr 0)), some (.long (vy_mi (vy_mi (vy_mi (vy_mi (vg_wa σ w s) (((σ.1 2 w).length : Int))) (((σ.1 3 w).length : Int))) (((σ.1 4 w).length : Int))) (vp_pos (vx σ w 20) (vx σ w 15) ((σ.2 3 w))))), none, some (.int (jI (0)))]) vi120_135 rfl rfl ?_
  refine m_mw2_loop (s := s) (s0 := vg_wb σ w s) hw s1 e1 hm hm6 ?_ m 0 (Nat.zero_add _)
  refine w52 vi120_171 rfl rfl ?_
  refine w45 vi120_173 vm120.2.2.2 ?_
  have q := hQ σ1 s1
  unfold vg_w at q
  rw [hmt] at q
  exact q
theorem c_mixWriter (hc : vt_code k pc = (27, 120, b, c)) {w : Nat} (hw : w < 6) (n0 : 0 ≤ σ.2 1 0) (n1 : σ.2 1 0 ≤ 120) (hcm : 1 ≤ σ.2 0 0 ∧ σ.2 0 0 ≤ 6) {s : Int64} (hs : Nat.ble (vj_cat sc) 8 = true) (hQ : ∀ σ', vw_same σ σ' → vW vw_rep L xs (k, pc + 3, lc, .long (vg_w σ w s) :: sc) σ' Q) : vW vw_rep L xs (k, pc, lc, .ref (vw_cr w) :: .int (jI ((w : Int))) :: .long (s) :: .ref 8 :: sc) σ Q := by
  refine w27 (n := 4) (vs := [.ref (vw_cr w), .int (jI ((w : Int))), .long (s), .ref 8]) hc vm120.2.1 rfl (by rw [vm120.2.2.1]; rfl) hs (by simp only [List.length_cons]; omega) ⟨_, rfl⟩ (fun M hM => hM.2.2.2.2.2.1) ⟨by omega, by omega⟩ vm120.1 ?_
  rw [vm120.2.2.1]
  exact m_mixWriter hw n0 n1 hcm (Q := fun v σ1 => vW vw_rep L xs (k, pc + 3, lc, v ++ sc) σ1 Q) hQ
theorem m_mt1_loop {w : Nat} (hw : w < 6) {σ1 : vw_S} (s1 : vw_same σ σ1) (e1 : ∀ k, 15 ≤ k → k ≤ 21 → σ1.1 k 0 = vx σ w k) (hlc : (vx σ w 15).length ≤ 720) (hlt : (vx σ w 16).length ≤ 720) {s : Int64} {s0 : Int64} (hQ : vW vw_rep L xs (121, 106, [some (.ref 8), some (.long (s)), none, some (.int (jI ((w : Int)))), some (.ref (vw_cr w)), some (.ref (vw_vr 0)), some (.long (vf (vg_t1 σ w) ((vx σ w 15).length) s0)), none, some (.int (jI (((vx σ w 15).length : Nat))))], []) σ1 Q) : ∀ (e j : Nat), j + e = (vx σ w 15).length → vW vw_rep L xs (121, 71, [some (.ref 8), some (.long (s)), none, some (.int (jI ((w : Int)))), some (.ref (vw_cr w)), some (.ref (vw_vr 0)), some (.long (vf (vg_t1 σ w) j s0)), none, some (.int (jI ((j : Int))))], []) σ1 Q := by
  intro e
  induction e with
  | zero =>
    intro j hj
    refine w0 vi121_71 rfl rfl ?_
    refine w1 vi121_73 rfl rfl ?_
    refine w14v (v := .ref (vw_rr 15 0)) vi121_75 (by first | omega | exact ve_ix_le _ | exact vk_lat_le _ _ _ _ | assumption) rfl ?_
    refine r_size (l := (vx σ w 15)) vi121_78 ⟨by decide, (show 0 < 2 by omega)⟩ (e1 15 (by decide) (by decide)) rfl ?_
    refine w8 vi121_81 (vwc_3 ⟨by omega, by omega⟩ ⟨by omega, by omega⟩) (fun h81 => ?_) (fun h81 => by exfalso; omega)
    rw [show j = (vx σ w 15).length by omega]
    exact hQ
  | succ e ih =>
    intro j hj
    refine w0 vi121_71 rfl rfl ?_
    refine w1 vi121_73 rfl rfl ?_
    refine w14v (v := .ref (vw_rr 15 0)) vi121_75 (by first | omega | exact ve_ix_le _ | exact vk_lat_le _ _ _ _ | assumption) rfl ?_
    refine r_size (l := (vx σ w 15)) vi121_78 ⟨by decide, (show 0 < 2 by omega)⟩ (e1 15 (by decide) (by decide)) rfl ?_
    refine w8 vi121_81 (vwc_3 ⟨by omega, by omega⟩ ⟨by omega, by omega⟩) (fun h81 => by exfalso; omega) (fun h81 => ?_)
    refine w52 vi121_84 rfl rfl ?_
    refine w1 vi121_86 rfl rfl ?_
    refine w1 vi121_87 rfl rfl ?_
    refine w0 vi121_89 rfl rfl ?_
    refine c_describeCellR vi121_91 (by first | omega | exact ve_ix_le _ | exact vk_lat_le _ _ _ _ | assumption) s1.1 (s1.2 12 0 (by unfold vw_sc; omega)) (s1.2 13 0 (by unfold vw_sc; omega)) (e1 15 (by decide) (by decide)) (e1 20 (by decide) (by decide)) (by first | omega | exact ve_ix_le _ | exact vk_lat_le _ _ _ _ | assumption) (by first | omega | exact ve_ix_le _ | exact vk_lat_le _ _ _ _ | assumption) rfl ?_
    refine w47 vi121_94 ?_
    refine c_mix vi121_95 rfl ?_
    refine w53 (lc' := [some (.ref 8), some (.long (s)), none, some (.int (jI ((w : Int)))), some (.ref (vw_cr w)), some (.ref (vw_vr 0)), some (.long (vy_mi (vf (vg_t1 σ w) j s0) (vy_desc σ.2 (σ.1 12 0) (σ.1 13 0) (vx σ w 15) (vx σ w 20) ((j : Int))))), none, some (.int (jI ((j : Int))))]) vi121_98 rfl rfl ?_
    refine w6 (lc' := [some (.ref 8), some (.long (s)), none, some (.int (jI ((w : Int)))), some (.ref (vw_cr w)), some (.ref (vw_vr 0)), some (.long (vy_mi (vf (vg_t1 σ w) j s0) (vy_desc σ.2 (σ.1 12 0) (σ.1 13 0) (vx σ w 15) (vx σ w 20) ((j : Int))))), none, some (.int (jI ((j : Int) + 1)))]) (1) vi121_100 rfl (by decide) rfl ?_
    refine w5 vi121_103 ?_
    exact ih (j + 1) (by omega)
theorem m_mt2_loop {w : Nat} (hw : w < 6) {σ1 : vw_S} (s1 : vw_same σ σ1) (e1 : ∀ k, 15 ≤ k → k ≤ 21 → σ1.1 k 0 = vx σ w k) (hlc : (vx σ w 15).length ≤ 720) (hlt : (vx σ w 16).length ≤ 720) {s : Int64} {s0 : Int64} (hQ : vW vw_rep L xs (121, 155, [some (.ref 8), some (.long (s)), none, some (.int (jI ((w : Int)))), some (.ref (vw_cr w)), some (.ref (vw_vr 0)), some (.long (vf (vg_t2 σ w) ((vx σ w 16).length) s0)), none, some (.int (jI (((vx σ w 16).length : Nat))))], []) σ1 Q) : ∀ (e j : Nat), j + e = (vx σ w 16).length → vW vw_rep L xs (121, 109, [some (.ref 8), some (.long (s)), none, some (.int (jI ((w : Int)))), some (.ref (vw_cr w)), some (.ref (vw_vr 0)), some (.long (vf (vg_t2 σ w) j s0)), none, some (.int (jI ((j : Int))))], []) σ1 Q := by
  intro e
  induction e with
  | zero =>
    intro j hj
    refine w0 vi121_109 rfl rfl ?_
    refine w1 vi121_111 rfl rfl ?_
    refine w14v (v := .ref (vw_rr 16 0)) vi121_113 (by first | omega | exact ve_ix_le _ | exact vk_lat_le _ _ _ _ | assumption) rfl ?_
    refine r_size (l := (vx σ w 16)) vi121_116 ⟨by decide, (show 0 < 2 by omega)⟩ (e1 16 (by decide) (by decide)) rfl ?_
    refine w8 vi121_119 (vwc_3 ⟨by omega, by omega⟩ ⟨by omega, by omega⟩) (fun h119 => ?_) (fun h119 => by exfalso; omega)
    rw [show j = (vx σ w 16).length by omega]
    exact hQ
  | succ e ih =>
    intro j hj
    refine w0 vi121_109 rfl rfl ?_
    refine w1 vi121_111 rfl rfl ?_
    refine w14v (v := .ref (vw_rr 16 0)) vi121_113 (by first | omega | exact ve_ix_le _ | exact vk_lat_le _ _ _ _ | assumption) rfl ?_
    refine r_size (l := (vx σ w 16)) vi121_116 ⟨by decide, (show 0 < 2 by omega)⟩ (e1 16 (by decide) (by decide)) rfl ?_
    refine w8 vi121_119 (vwc_3 ⟨by omega, by omega⟩ ⟨by omega, by omega⟩) (fun h119 => by exfalso; omega) (fun h119 => ?_)
    refine w52 vi121_122 rfl rfl ?_
    refine w1 vi121_124 rfl rfl ?_
    refine w1 vi121_126 rfl rfl ?_
    refine w14m (v := .ref 9) vi121_127  rfl ?_
    refine w1 vi121_130 rfl rfl ?_
    refine w14v (v := .ref (vw_rr 16 0)) vi121_132 (by first | omega | exact ve_ix_le _ | exact vk_lat_le _ _ _ _ | assumption) rfl ?_
    refine w0 vi121_135 rfl rfl ?_
    refine r_at (l := (vx σ w 16)) vi121_137 ⟨by decide, (show 0 < 2 by omega)⟩ (e1 16 (by decide) (by decide)) (by first | omega | exact ve_ix_le _ | exact vk_lat_le _ _ _ _ | assumption) (by first | omega | exact ve_ix_le _ | exact vk_lat_le _ _ _ _ | assumption) rfl (fun _ _ => ?_)
    refine c_marksR vi121_140 (by first | omega | exact ve_ix_le _ | exact vk_lat_le _ _ _ _ | assumption) s1.1 (e1 21 (by decide) (by decide)) (by first | omega | exact ve_ix_le _ | exact vk_lat_le _ _ _ _ | assumption) (by first | omega | exact ve_ix_le _ | exact vk_lat_le _ _ _ _ | assumption) rfl ?_
    refine w47 vi121_143 ?_
    refine c_mix vi121_144 rfl ?_
    refine w53 (lc' := [some (.ref 8), some (.long (s)), none, some (.int (jI ((w : Int)))), some (.ref (vw_cr w)), some (.ref (vw_vr 0)), some (.long (vy_mi (vf (vg_t2 σ w) j s0) (vq_mk σ.2 (vx σ w 21) (vl_at (vx σ w 16) ((j : Int)))))), none, some (.int (jI ((j : Int))))]) vi121_147 rfl rfl ?_
    refine w6 (lc' := [some (.ref 8), some (.long (s)), none, some (.int (jI ((w : Int)))), some (.ref (vw_cr w)), some (.ref (vw_vr 0)), some (.long (vy_mi (vf (vg_t2 σ w) j s0) (vq_mk σ.2 (vx σ w 21) (vl_at (vx σ w 16) ((j : Int)))))), none, some (.int (jI ((j : Int) + 1)))]) (1) vi121_149 rfl (by decide) rfl ?_
    refine w5 vi121_152 ?_
    exact ih (j + 1) (by omega)
theorem m_mixText {w : Nat} (hw : w < 6) (n0 : 0 ≤ σ.2 1 0) (n1 : σ.2 1 0 ≤ 120) {s : Int64} (hQ : ∀ σ', vw_same σ σ' → Q [.long (vg_t σ w s)] σ') : vW vw_rep L xs (121, 0, [some (.ref 8), some (.long (s)), none, some (.int (jI ((w : Int)))), some (.ref (vw_cr w)), none, none, none, none], []) σ Q := by
  refine w1 vi121_0 rfl rfl ?_
  refine w1 vi121_1 rfl rfl ?_
  refine c_see vi121_3 (by first | omega | exact ve_ix_le _ | exact vk_lat_le _ _ _ _ | assumption) n0 n1 rfl (fun σ1 g1 => ?_)
  obtain ⟨s1, e1⟩ := vx_see (vw_same.refl σ) g1
  refine w4 (lc' := [some (.ref 8), some (.long (s)), none, some (.int (jI ((w : Int)))), some (.ref (vw_cr w)), some (.ref (vw_vr 0)), none, none, none]) vi121_6 rfl rfl ?_
  refine w52 vi121_8 rfl rfl ?_
  refine w1 vi121_9 rfl rfl ?_
  refine w14v (v := .ref (vw_rr 16 0)) vi121_11 (by first | omega | exact ve_ix_le _ | exact vk_lat_le _ _ _ _ | assumption) rfl ?_
  refine r_size (l := (vx σ w 16)) vi121_14 ⟨by decide, (show 0 < 2 by omega)⟩ (e1 16 (by decide) (by decide)) rfl ?_
  refine w47 vi121_17 ?_
  refine c_mix vi121_18 rfl ?_
  refine w53 (lc' := [some (.ref 8), some (.long (s)), none, some (.int (jI ((w : Int)))), some (.ref (vw_cr w)), some (.ref (vw_vr 0)), some (.long (vy_mi (s) (((vx σ w 16).length : Int)))), none, none]) vi121_21 rfl rfl ?_
  refine w52 vi121_23 rfl rfl ?_
  refine w1 vi121_25 rfl rfl ?_
  refine c_countAll vi121_26 (by rw [s1.1]; exact n0) (by rw [s1.1]; exact n1) rfl (fun σ2 s12 g2 => ?_)
  have s2 := s1.trans s12
  have e2 : ∀ k, 15 ≤ k → k ≤ 21 → σ2.1 k 0 = vx σ w k := fun k q0 q1 => (g2 k q0 q1).trans (e1 k q0 q1)
  rw [vy_all_same s1]
  refine w47 vi121_29 ?_
  refine c_mix vi121_30 rfl ?_
  refine w53 (lc' := [some (.ref 8), some (.long (s)), none, some (.int (jI ((w : Int)))), some (.ref (vw_cr w)), some (.ref (vw_vr 0)), some (.long (vy_mi (vy_mi (s) (((vx σ w 16).length : Int))) (vy_all σ))), none, none]) vi121_33 rfl rfl ?_
  refine w52 vi121_35 rfl rfl ?_
  refine w1 vi121_37 rfl rfl ?_
  refine w1 vi121_38 rfl rfl ?_
  refine w14v (v := .ref (vw_rr 16 0)) vi121_40 (by first | omega | exact ve_ix_le _ | exact vk_lat_le _ _ _ _ | assumption) rfl ?_
  refine c_wordsR vi121_43 ⟨by decide, (show 0 < 2 by omega)⟩ (s2.2 12 0 (by unfold vw_sc; omega)) (e2 16 (by decide) (by decide)) rfl ?_
  refine w47 vi121_46 ?_
  refine c_mix vi121_47 rfl ?_
  refine w53 (lc' := [some (.ref 8), some (.long (s)), none, some (.int (jI ((w : Int)))), some (.ref (vw_cr w)), some (.ref (vw_vr 0)), some (.long (vy_mi (vy_mi (vy_mi (s) (((vx σ w 16).length : Int))) (vy_all σ)) ((vy_words (σ.1 12 0) (vx σ w 16) (vx σ w 16).length).1))), none, none]) vi121_50 rfl rfl ?_
  refine w52 vi121_52 rfl rfl ?_
  refine w1 vi121_54 rfl rfl ?_
  refine w14v (v := .ref (vw_rr 15 0)) vi121_56 (by first | omega | exact ve_ix_le _ | exact vk_lat_le _ _ _ _ | assumption) rfl ?_
  refine r_size (l := (vx σ w 15)) vi121_59 ⟨by decide, (show 0 < 2 by omega)⟩ (e2 15 (by decide) (by decide)) rfl ?_
  refine w47 vi121_62 ?_
  refine c_mix vi121_63 rfl ?_
  refine w53 (lc' := [some (.ref 8), some (.long (s)), none, some (.int (jI ((w : Int)))), some (.ref (vw_cr w)), some (.ref (vw_vr 0)), some (.long (vy_mi (vy_mi (vy_mi (vy_mi (s) (((vx σ w 16).length : Int))) (vy_all σ)) ((vy_words (σ.1 12 0) (vx σ w 16) (vx σ w 16).length).1)) (((vx σ w 15).length : Int)))), none, none]) vi121_66 rfl rfl ?_
  refine w2 (0) vi121_68 (by decide) ?_
  refine w3 (lc' := [some (.ref 8), some (.long (s)), none, some (.int (jI ((w : Int)))), some (.ref (vw_cr w)), some (.ref (vw_vr 0)), some (.long (vy_mi (vy_mi (vy_mi (vy_mi (s) (((vx σ w 16).length : Int))) (vy_all σ)) ((vy_words (σ.1 12 0) (vx σ w 16) (vx σ w 16).length).1)) (((vx σ w 15).length : Int)))), none, some (.int (jI (0)))]) vi121_69 rfl rfl ?_
  refine vW_len (kk := 15) (i := 0) ⟨by decide, by decide⟩ (fun hlc => ?_)
  have hlc : (σ2.1 15 0).length ≤ 720 := hlc
  rw [e2 15 (by decide) (by decide)] at hlc
  refine vW_len (kk := 16) (i := 0) ⟨by decide, by decide⟩ (fun hlt => ?_)
  have hlt : (σ2.1 16 0).length ≤ 720 := hlt
  rw [e2 16 (by decide) (by decide)] at hlt
  refine m_mt1_loop (s := s) (s0 := vg_ta σ w s) hw s2 e2 hlc hlt ?_ _ 0 (Nat.zero_add _)
  refine w2 (0) vi121_106 (by decide) ?_
  refine w3 (lc' := [some (.ref 8), some (.long (s)), none, some (.int (jI ((w : Int)))), some (.ref (vw_cr w)), some (.ref (vw_vr 0)), some (.long (vg_tb σ w s)), none, some (.int (jI (0)))]) vi121_107 rfl rfl ?_
  refine m_mt2_loop (s := s) (s0 := vg_tb σ w s) hw s2 e2 hlc hlt ?_ _ 0 (Nat.zero_add _)
  refine w52 vi121_155 rfl rfl ?_
  refine w45 vi121_157 vm121.2.2.2 ?_
  exact hQ σ2 s2
theorem c_mixText (hc : vt_code k pc = (27, 121, b, c)) {w : Nat} (hw : w < 6) (n0 : 0 ≤ σ.2 1 0) (n1 : σ.2 1 0 ≤ 120) {s : Int64} (hs : Nat.ble (vj_cat sc) 8 = true) (hQ : ∀ σ', vw_same σ σ' → vW vw_rep L xs (k, pc + 3, lc, .long (vg_t σ w s) :: sc) σ' Q) : vW vw_rep L xs (k, pc, lc, .ref (vw_cr w) :: .int (jI ((w : Int))) :: .long (s) :: .ref 8 :: sc) σ Q := by
  refine w27 (n := 4) (vs := [.ref (vw_cr w), .int (jI ((w : Int))), .long (s), .ref 8]) hc vm121.2.1 rfl (by rw [vm121.2.2.1]; rfl) hs (by simp only [List.length_cons]; omega) ⟨_, rfl⟩ (fun M hM => hM.2.2.2.2.2.1) ⟨by omega, by omega⟩ vm121.1 ?_
  rw [vm121.2.2.1]
  exact m_mixText hw n0 n1 (Q := fun v σ1 => vW vw_rep L xs (k, pc + 3, lc, v ++ sc) σ1 Q) hQ
theorem m_mo_loop {w : Nat} (hw : w < 6) (hb : ∀ i : Nat, i < 6 → ∀ a : Nat, a < 6 → 0 ≤ vl_at (σ.1 1 i) (a : Int) ∧ vl_at (σ.1 1 i) (a : Int) ≤ 120) {s : Int64} (hQ : Q [.long (vg_o σ w s)] σ) : ∀ (e j : Nat) (u : Option Value), j + e = 6 → vW vw_rep L xs (122, 6, [some (.ref 8), some (.long (s)), none, some (.int (jI ((w : Int)))), some (.ref (vw_cr w)), some (.long (vf (vg_o1 σ w) j s)), none, some (.int (jI ((j : Int)))), u], []) σ Q := by
  intro e
  induction e with
  | zero =>
    intro j u hj
    refine w0 vi122_6 rfl rfl ?_
    refine w1 vi122_8 rfl rfl ?_
    refine w14m (v := .ref 622) vi122_9  rfl ?_
    refine w26cop vi122_12 ?_
    refine w8 vi122_13 (vwc_3 ⟨by omega, by omega⟩ ⟨by omega, by omega⟩) (fun h13 => ?_) (fun h13 => by exfalso; omega)
    refine w52 vi122_108 rfl rfl ?_
    refine w45 vi122_110 vm122.2.2.2 ?_
    rw [show j = 6 by omega]
    exact hQ
  | succ e ih =>
    intro j u hj
    refine w0 vi122_6 rfl rfl ?_
    refine w1 vi122_8 rfl rfl ?_
    refine w14m (v := .ref 622) vi122_9  rfl ?_
    refine w26cop vi122_12 ?_
    refine w8 vi122_13 (vwc_3 ⟨by omega, by omega⟩ ⟨by omega, by omega⟩) (fun h13 => by exfalso; omega) (fun h13 => ?_)
    refine w1 vi122_16 rfl rfl ?_
    refine w14m (v := .ref 622) vi122_17  rfl ?_
    refine w0 vi122_20 rfl rfl ?_
    refine w20cop vi122_22 (by omega) (by omega) ?_
    rw [Int.toNat_natCast]
    refine w4 vi122_23 rfl rfl ?_
    refine w0 vi122_25 rfl rfl ?_
    refine w0 vi122_27 rfl rfl ?_
    refine w8 vi122_28 (vwc_0 ⟨by omega, by omega⟩ ⟨by omega, by omega⟩) (fun h28 => ?_) (fun h28 => ?_)
    ·
      refine w6 (1) vi122_102 rfl (by decide) rfl ?_
      refine w5 vi122_105 ?_
      have q := ih (j + 1) (some (.ref (vw_cr j))) (by omega)
      have e1 : vf (vg_o1 σ w) (j + 1) s = vg_o1 σ w j (vf (vg_o1 σ w) j s) := rfl
      rw [e1] at q
      have e2 : vg_o1 σ w j (vf (vg_o1 σ w) j s) = vf (vg_o1 σ w) j s := by
        unfold vg_o1
        first
          | (rw [if_pos (by omega)])
          | (rw [if_neg (by omega), if_pos (by assumption)])
          | (rw [if_neg (by omega), if_neg (by assumption)])
      rw [e2] at q
      exact q
    ·
      refine w1 vi122_31 rfl rfl ?_
      refine w60 vi122_33 ?_
      refine w1 vi122_36 rfl rfl ?_
      refine w14c (v := .int (jI ((σ.2 2 j)))) vi122_38 (by first | omega | exact ve_ix_le _ | exact vk_lat_le _ _ _ _ | assumption) rfl ?_
      refine vW_nR (V := σ.2) rfl 2 (j) (fun _ _ => ?_)
      refine vW_thR (V := σ.2) rfl (j) (fun hth => ?_)
      refine w7 vi122_41 (vwz_1 ⟨by omega, by omega⟩) (fun h41 => ?_) (fun h41 => ?_)
      ·
        refine w52 vi122_47 rfl rfl ?_
        refine w1 vi122_49 rfl rfl ?_
        refine w0 vi122_50 rfl rfl ?_
        refine w0 vi122_51 rfl rfl ?_
        refine c_channelOf vi122_53 (by first | omega | exact ve_ix_le _ | exact vk_lat_le _ _ _ _ | assumption) (by first | omega | exact ve_ix_le _ | exact vk_lat_le _ _ _ _ | assumption) rfl ?_
        refine r_size (l := (σ.1 7 (w * 6 + j))) vi122_56 ⟨by decide, (show (w * 6 + j) < 36 by omega)⟩ (by first | rfl | (dsimp only; repeat (first | rw [vw_sr_eq] | rw [vw_sr_ne _ _ (by omega)]))) rfl ?_
        refine w47 vi122_59 ?_
        refine c_mix vi122_60 rfl ?_
        refine w53 vi122_63 rfl rfl ?_
        refine w52 vi122_65 rfl rfl ?_
        refine w1 vi122_67 rfl rfl ?_
        refine w0 vi122_68 rfl rfl ?_
        refine w0 vi122_69 rfl rfl ?_
        refine c_isCutPair vi122_71 (by first | omega | exact ve_ix_le _ | exact vk_lat_le _ _ _ _ | exact ⟨by decide, by decide⟩ | exact ⟨by decide, by assumption⟩ | exact ⟨by decide, Nat.lt_succ_of_le (by first | exact ve_ix_le _ | exact vk_lat_le _ _ _ _ | assumption)⟩ | assumption) (by first | omega | exact ve_ix_le _ | exact vk_lat_le _ _ _ _ | exact ⟨by decide, by decide⟩ | exact ⟨by decide, by assumption⟩ | exact ⟨by decide, Nat.lt_succ_of_le (by first | exact ve_ix_le _ | exact vk_lat_le _ _ _ _ | assumption)⟩ | assumption) rfl (fun hb71 => ?_) (fun hb71 => ?_)
        ·
          refine w7 vi122_74 (vwz_0 ⟨by omega, by omega⟩) (fun h74 => by exfalso; omega) (fun h74 => ?_)
          refine w51 vi122_77 ?_
          refine w5 vi122_78 ?_
          refine c_mix vi122_82 rfl ?_
          refine w53 vi122_85 rfl rfl ?_
          refine w52 vi122_87 rfl rfl ?_
          refine w1 vi122_89 rfl rfl ?_
          refine w1 vi122_91 rfl rfl ?_
          have hbey93 := vk_bey_in (hb w (by first | omega | exact ve_ix_le _ | exact vk_lat_le _ _ _ _ | assumption)) (hb j (by first | omega | exact ve_ix_le _ | exact vk_lat_le _ _ _ _ | assumption)) 6 (Nat.le_refl _)
          refine c_beyondR vi122_93 (by first | omega | exact ve_ix_le _ | exact vk_lat_le _ _ _ _ | assumption) (by first | omega | exact ve_ix_le _ | exact vk_lat_le _ _ _ _ | assumption) (by first | rfl | (dsimp only; repeat (first | rw [vw_sr_eq] | rw [vw_sr_ne _ _ (by omega)]))) (by first | rfl | (dsimp only; repeat (first | rw [vw_sr_eq] | rw [vw_sr_ne _ _ (by omega)]))) (hb _ (by first | omega | exact ve_ix_le _ | exact vk_lat_le _ _ _ _ | assumption)) (hb _ (by first | omega | exact ve_ix_le _ | exact vk_lat_le _ _ _ _ | assumption)) rfl ?_
          refine w47 vi122_96 ?_
          refine c_mix vi122_97 rfl ?_
          refine w53 vi122_100 rfl rfl ?_
          refine w6 (1) vi122_102 rfl (by decide) rfl ?_
          refine w5 vi122_105 ?_
          have q := ih (j + 1) (some (.ref (vw_cr j))) (by omega)
          have e1 : vf (vg_o1 σ w) (j + 1) s = vg_o1 σ w j (vf (vg_o1 σ w) j s) := rfl
          rw [e1] at q
          have e2 : vg_o1 σ w j (vf (vg_o1 σ w) j s) = vy_mi (vy_mx (vy_mi (vf (vg_o1 σ w) j s) (((σ.1 7 (w * 6 + j)).length : Int))) (lN 1)) (vk_bey (σ.1 1 w) (σ.1 1 j) 6) := by
            unfold vg_o1
            first
              | (rw [if_pos (by omega)])
              | (rw [if_neg (by omega), if_pos (by assumption)])
              | (rw [if_neg (by omega), if_neg (by assumption)])
          rw [e2] at q
          exact q
        ·
          refine w7 vi122_74 (vwz_0 ⟨by omega, by omega⟩) (fun h74 => ?_) (fun h74 => by exfalso; omega)
          refine w51 vi122_81 ?_
          refine c_mix vi122_82 rfl ?_
          refine w53 vi122_85 rfl rfl ?_
          refine w52 vi122_87 rfl rfl ?_
          refine w1 vi122_89 rfl rfl ?_
          refine w1 vi122_91 rfl rfl ?_
          have hbey93 := vk_bey_in (hb w (by first | omega | exact ve_ix_le _ | exact vk_lat_le _ _ _ _ | assumption)) (hb j (by first | omega | exact ve_ix_le _ | exact vk_lat_le _ _ _ _ | assumption)) 6 (Nat.le_refl _)
          refine c_beyondR vi122_93 (by first | omega | exact ve_ix_le _ | exact vk_lat_le _ _ _ _ | assumption) (by first | omega | exact ve_ix_le _ | exact vk_lat_le _ _ _ _ | assumption) (by first | rfl | (dsimp only; repeat (first | rw [vw_sr_eq] | rw [vw_sr_ne _ _ (by omega)]))) (by first | rfl | (dsimp only; repeat (first | rw [vw_sr_eq] | rw [vw_sr_ne _ _ (by omega)]))) (hb _ (by first | omega | exact ve_ix_le _ | exact vk_lat_le _ _ _ _ | assumption)) (hb _ (by first | omega | exact ve_ix_le _ | exact vk_lat_le _ _ _ _ | assumption)) rfl ?_
          refine w47 vi122_96 ?_
          refine c_mix vi122_97 rfl ?_
          refine w53 vi122_100 rfl rfl ?_
          refine w6 (1) vi122_102 rfl (by decide) rfl ?_
          refine w5 vi122_105 ?_
          have q := ih (j + 1) (some (.ref (vw_cr j))) (by omega)
          have e1 : vf (vg_o1 σ w) (j + 1) s = vg_o1 σ w j (vf (vg_o1 σ w) j s) := rfl
          rw [e1] at q
          have e2 : vg_o1 σ w j (vf (vg_o1 σ w) j s) = vy_mi (vy_mx (vy_mi (vf (vg_o1 σ w) j s) (((σ.1 7 (w * 6 + j)).length : Int))) (lN 0)) (vk_bey (σ.1 1 w) (σ.1 1 j) 6) := by
            unfold vg_o1
            first
              | (rw [if_pos (by omega)])
              | (rw [if_neg (by omega), if_pos (by assumption)])
              | (rw [if_neg (by omega), if_neg (by assumption)])
          rw [e2] at q
          exact q
      ·
        refine w5 vi122_44 ?_
        refine w6 (1) vi122_102 rfl (by decide) rfl ?_
        refine w5 vi122_105 ?_
        have q := ih (j + 1) (some (.ref (vw_cr j))) (by omega)
        have e1 : vf (vg_o1 σ w) (j + 1) s = vg_o1 σ w j (vf (vg_o1 σ w) j s) := rfl
        rw [e1] at q
        have e2 : vg_o1 σ w j (vf (vg_o1 σ w) j s) = vf (vg_o1 σ w) j s := by
          unfold vg_o1
          first
            | (rw [if_pos (by omega)])
            | (rw [if_neg (by omega), if_pos (by assumption)])
            | (rw [if_neg (by omega), if_neg (by assumption)])
        rw [e2] at q
        exact q
theorem m_mixOthers {w : Nat} (hw : w < 6) (hb : ∀ i : Nat, i < 6 → ∀ a : Nat, a < 6 → 0 ≤ vl_at (σ.1 1 i) (a : Int) ∧ vl_at (σ.1 1 i) (a : Int) ≤ 120) {s : Int64} (hQ :  Q [.long (vg_o σ w s)] σ) : vW vw_rep L xs (122, 0, [some (.ref 8), some (.long (s)), none, some (.int (jI ((w : Int)))), some (.ref (vw_cr w)), none, none, none, none], []) σ Q := by
  refine w52 vi122_0 rfl rfl ?_
  refine w53 vi122_1 rfl rfl ?_
  refine w2 (0) vi122_3 (by decide) ?_
  refine w3 vi122_4 rfl rfl ?_
  exact m_mo_loop hw hb hQ 6 0 _ rfl
theorem c_mixOthers (hc : vt_code k pc = (27, 122, b, c)) {w : Nat} (hw : w < 6) (hb : ∀ i : Nat, i < 6 → ∀ a : Nat, a < 6 → 0 ≤ vl_at (σ.1 1 i) (a : Int) ∧ vl_at (σ.1 1 i) (a : Int) ≤ 120) {s : Int64} (hs : Nat.ble (vj_cat sc) 8 = true) (hQ :  vW vw_rep L xs (k, pc + 3, lc, .long (vg_o σ w s) :: sc) σ Q) : vW vw_rep L xs (k, pc, lc, .ref (vw_cr w) :: .int (jI ((w : Int))) :: .long (s) :: .ref 8 :: sc) σ Q := by
  refine w27 (n := 4) (vs := [.ref (vw_cr w), .int (jI ((w : Int))), .long (s), .ref 8]) hc vm122.2.1 rfl (by rw [vm122.2.2.1]; rfl) hs (by simp only [List.length_cons]; omega) ⟨_, rfl⟩ (fun M hM => hM.2.2.2.2.2.1) ⟨by omega, by omega⟩ vm122.1 ?_
  rw [vm122.2.2.1]
  exact m_mixOthers hw hb (Q := fun v σ1 => vW vw_rep L xs (k, pc + 3, lc, v ++ sc) σ1 Q) hQ
theorem m_dg_loop (n0 : 0 ≤ σ.2 1 0) (n1 : σ.2 1 0 ≤ 120) (hcm : 1 ≤ σ.2 0 0 ∧ σ.2 0 0 ≤ 6) (hb : ∀ i : Nat, i < 6 → ∀ a : Nat, a < 6 → 0 ≤ vl_at (σ.1 1 i) (a : Int) ∧ vl_at (σ.1 1 i) (a : Int) ≤ 120) (hQ : ∀ σ', vw_same σ σ' → Q [.long (vg_d σ)] σ') : ∀ (e j : Nat) (σ1 : vw_S) (u : Option Value), j + e = 6 → vw_same σ σ1 → vW vw_rep L xs (90, 46, [some (.ref 8), some (.long (vf (vg_d1 σ) j (vg_d0 σ))), none, some (.int (jI ((j : Int)))), u], []) σ1 Q := by
  intro e
  induction e with
  | zero =>
    intro j σ1 u hj s1
    refine w0 vi90_46 rfl rfl ?_
    refine w1 vi90_47 rfl rfl ?_
    refine w14m (v := .ref 622) vi90_48  rfl ?_
    refine w26cop vi90_51 ?_
    refine w8 vi90_52 (vwc_3 ⟨by omega, by omega⟩ ⟨by omega, by omega⟩) (fun h52 => ?_) (fun h52 => by exfalso; omega)
    refine w52 vi90_109 rfl rfl ?_
    refine w45 vi90_110 vm90.2.2.2 ?_
    rw [show j = 6 by omega]
    exact hQ σ1 s1
  | succ e ih =>
    intro j σ1 u hj s1
    refine w0 vi90_46 rfl rfl ?_
    refine w1 vi90_47 rfl rfl ?_
    refine w14m (v := .ref 622) vi90_48  rfl ?_
    refine w26cop vi90_51 ?_
    refine w8 vi90_52 (vwc_3 ⟨by omega, by omega⟩ ⟨by omega, by omega⟩) (fun h52 => by exfalso; omega) (fun h52 => ?_)
    refine w1 vi90_55 rfl rfl ?_
    refine w14m (v := .ref 622) vi90_56  rfl ?_
    refine w0 vi90_59 rfl rfl ?_
    refine w20cop vi90_60 (by omega) (by omega) ?_
    rw [Int.toNat_natCast]
    refine w4 vi90_61 rfl rfl ?_
    refine w1 vi90_63 rfl rfl ?_
    refine w60 vi90_65 ?_
    refine w1 vi90_68 rfl rfl ?_
    refine w14c (v := .int (jI ((σ.2 2 j)))) vi90_70 (by first | omega | exact ve_ix_le _ | exact vk_lat_le _ _ _ _ | assumption) (by rw [s1.1]; rfl) ?_
    refine vW_nR (V := σ.2) s1.1 2 (j) (fun _ _ => ?_)
    refine vW_thR (V := σ.2) s1.1 (j) (fun hth => ?_)
    refine w7 vi90_73 (vwz_0 ⟨by omega, by omega⟩) (fun h73 => ?_) (fun h73 => ?_)
    ·
      refine w6 (1) vi90_103 rfl (by decide) rfl ?_
      refine w5 vi90_106 ?_
      have q := ih (j + 1) σ1 (some (.ref (vw_cr j))) (by omega) s1
      have e1 : vf (vg_d1 σ) (j + 1) (vg_d0 σ) = vg_d1 σ j (vf (vg_d1 σ) j (vg_d0 σ)) := rfl
      rw [e1] at q
      unfold vg_d1 at q
      first
        | (rw [if_pos (by omega)] at q; exact q)
        | (rw [if_neg (by omega)] at q; exact q)
    ·
      refine w1 vi90_76 rfl rfl ?_
      refine w52 vi90_77 rfl rfl ?_
      refine w0 vi90_78 rfl rfl ?_
      refine w1 vi90_79 rfl rfl ?_
      refine c_mixWriter vi90_81 (show j < 6 by omega) (by rw [s1.1]; exact n0) (by rw [s1.1]; exact n1) (by rw [s1.1]; exact hcm) rfl (fun σ2 t2 => ?_)
      have s2 := s1.trans t2
      rw [vg_w_same s1]
      refine w53 vi90_84 rfl rfl ?_
      refine w1 vi90_85 rfl rfl ?_
      refine w52 vi90_86 rfl rfl ?_
      refine w0 vi90_87 rfl rfl ?_
      refine w1 vi90_88 rfl rfl ?_
      refine c_mixText vi90_90 (show j < 6 by omega) (by rw [s2.1]; exact n0) (by rw [s2.1]; exact n1) rfl (fun σ3 t3 => ?_)
      have s3 := s2.trans t3
      rw [vg_t_same s2]
      refine w53 vi90_93 rfl rfl ?_
      refine w1 vi90_94 rfl rfl ?_
      refine w52 vi90_95 rfl rfl ?_
      refine w0 vi90_96 rfl rfl ?_
      refine w1 vi90_97 rfl rfl ?_
      refine c_mixOthers vi90_99 (show j < 6 by omega) (fun i hi a ha => by rw [s3.2 1 i (by unfold vw_sc; omega)]; exact hb i hi a ha) rfl ?_
      rw [vg_o_same s3]
      refine w53 vi90_102 rfl rfl ?_
      refine w6 (1) vi90_103 rfl (by decide) rfl ?_
      refine w5 vi90_106 ?_
      have q := ih (j + 1) σ3 (some (.ref (vw_cr j))) (by omega) s3
      have e1 : vf (vg_d1 σ) (j + 1) (vg_d0 σ) = vg_d1 σ j (vf (vg_d1 σ) j (vg_d0 σ)) := rfl
      rw [e1] at q
      unfold vg_d1 at q
      first
        | (rw [if_pos (by omega)] at q; exact q)
        | (rw [if_neg (by omega)] at q; exact q)
theorem m_digest (n0 : 0 ≤ σ.2 1 0) (n1 : σ.2 1 0 ≤ 120) (hcm : 1 ≤ σ.2 0 0 ∧ σ.2 0 0 ≤ 6) (hb : ∀ i : Nat, i < 6 → ∀ a : Nat, a < 6 → 0 ≤ vl_at (σ.1 1 i) (a : Int) ∧ vl_at (σ.1 1 i) (a : Int) ≤ 120) (hQ : ∀ σ', vw_same σ σ' → Q [.long (vg_d σ)] σ') : vW vw_rep L xs (90, 0, [some (.ref 8), none, none, none, none], []) σ Q := by
  refine w51 vi90_0 ?_
  refine w53 (lc' := [some (.ref 8), some (.long (lN 58011)), none, none, none]) vi90_3 rfl rfl ?_
  refine w52 vi90_4 rfl rfl ?_
  refine w1 vi90_5 rfl rfl ?_
  refine w14m (v := .int (jI ((σ.2 0 0)))) vi90_6  rfl ?_
  refine vW_nR (V := σ.2) rfl 0 (0) (fun _ _ => ?_)
  refine w47 vi90_9 ?_
  refine c_mix vi90_10 rfl ?_
  refine w53 (lc' := [some (.ref 8), some (.long (vy_mi (lN 58011) ((σ.2 0 0)))), none, none, none]) vi90_13 rfl rfl ?_
  refine w52 vi90_14 rfl rfl ?_
  refine w1 vi90_15 rfl rfl ?_
  refine w14m (v := .ref 9) vi90_16  rfl ?_
  refine c_countDeedsR (z := (σ.2 1 0)) vi90_19 rfl rfl ?_
  refine w47 vi90_22 ?_
  refine c_mix vi90_23 rfl ?_
  refine w53 (lc' := [some (.ref 8), some (.long (vy_mi (vy_mi (lN 58011) ((σ.2 0 0))) ((σ.2 1 0)))), none, none, none]) vi90_26 rfl rfl ?_
  refine w52 vi90_27 rfl rfl ?_
  refine w1 vi90_28 rfl rfl ?_
  refine c_agree vi90_29 hb rfl (fun hag => ?_) (fun hag => ?_)
  ·
    refine w7 vi90_32 (vwz_0 ⟨by omega, by omega⟩) (fun h32 => by exfalso; omega) (fun h32 => ?_)
    refine w51 vi90_35 ?_
    refine w5 vi90_36 ?_
    refine c_mix vi90_40 rfl ?_
    refine w53 (lc' := [some (.ref 8), some (.long (vy_mx (vy_mi (vy_mi (lN 58011) ((σ.2 0 0))) ((σ.2 1 0))) (lN 1))), none, none, none]) vi90_43 rfl rfl ?_
    refine w2 (0) vi90_44 (by decide) ?_
    refine w3 (lc' := [some (.ref 8), some (.long (vy_mx (vy_mi (vy_mi (lN 58011) ((σ.2 0 0))) ((σ.2 1 0))) (lN 1))), none, some (.int (jI (0))), none]) vi90_45 rfl rfl ?_
    have e0 : vg_d0 σ = vy_mx (vy_mi (vy_mi (lN 58011) (σ.2 0 0)) (σ.2 1 0)) (lN 1) := by
      unfold vg_d0
      first
        | rw [if_pos hag]
        | rw [if_neg hag]
    have q := m_dg_loop (L := L) (xs := xs) n0 n1 hcm hb hQ 6 0 σ none rfl (vw_same.refl σ)
    have e1 : vf (vg_d1 σ) 0 (vg_d0 σ) = vg_d0 σ := rfl
    rw [e1, e0] at q
    exact q
  ·
    refine w7 vi90_32 (vwz_0 ⟨by omega, by omega⟩) (fun h32 => ?_) (fun h32 => by exfalso; omega)
    refine w51 vi90_39 ?_
    refine c_mix vi90_40 rfl ?_
    refine w53 (lc' := [some (.ref 8), some (.long (vy_mx (vy_mi (vy_mi (lN 58011) ((σ.2 0 0))) ((σ.2 1 0))) (lN 0))), none, none, none]) vi90_43 rfl rfl ?_
    refine w2 (0) vi90_44 (by decide) ?_
    refine w3 (lc' := [some (.ref 8), some (.long (vy_mx (vy_mi (vy_mi (lN 58011) ((σ.2 0 0))) ((σ.2 1 0))) (lN 0))), none, some (.int (jI (0))), none]) vi90_45 rfl rfl ?_
    have e0 : vg_d0 σ = vy_mx (vy_mi (vy_mi (lN 58011) (σ.2 0 0)) (σ.2 1 0)) (lN 0) := by
      unfold vg_d0
      first
        | rw [if_pos hag]
        | rw [if_neg hag]
    have q := m_dg_loop (L := L) (xs := xs) n0 n1 hcm hb hQ 6 0 σ none rfl (vw_same.refl σ)
    have e1 : vf (vg_d1 σ) 0 (vg_d0 σ) = vg_d0 σ := rfl
    rw [e1, e0] at q
    exact q
theorem c_digest (hc : vt_code k pc = (27, 90, b, c)) (n0 : 0 ≤ σ.2 1 0) (n1 : σ.2 1 0 ≤ 120) (hcm : 1 ≤ σ.2 0 0 ∧ σ.2 0 0 ≤ 6) (hb : ∀ i : Nat, i < 6 → ∀ a : Nat, a < 6 → 0 ≤ vl_at (σ.1 1 i) (a : Int) ∧ vl_at (σ.1 1 i) (a : Int) ≤ 120) (hs : Nat.ble (vj_cat sc) 8 = true) (hQ : ∀ σ', vw_same σ σ' → vW vw_rep L xs (k, pc + 3, lc, .long (vg_d σ) :: sc) σ' Q) : vW vw_rep L xs (k, pc, lc, .ref 8 :: sc) σ Q := by
  refine w27 (n := 1) (vs := [.ref 8]) hc vm90.2.1 rfl (by rw [vm90.2.2.1]; rfl) hs (by simp only [List.length_cons]; omega) ⟨_, rfl⟩ (fun M hM => hM.2.2.2.2.2.1) ⟨by omega, by omega⟩ vm90.1 ?_
  rw [vm90.2.2.1]
  exact m_digest n0 n1 hcm hb (Q := fun v σ1 => vW vw_rep L xs (k, pc + 3, lc, v ++ sc) σ1 Q) hQ
end VW22
