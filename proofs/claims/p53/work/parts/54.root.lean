/-! ===== what the law asks ===== -/
section VW26
variable {L : Nat} {xs : Nat → Int32} {σ σ1 : vw_S} {Q : List Value → vw_S → Prop} {k pc a b c kk i : Nat} {lc : List (Option Value)} {sc : List Value} {fr : vj_F} {l l2 r12 r13 sh cs tx tx2 d2 he od dec : List Int} {V : Nat → Nat → Int} {z y : Int}
theorem vI_n {σ : vw_S} (h : vI σ) : 0 ≤ σ.2 1 0 ∧ σ.2 1 0 ≤ 120 := h.1.1.1
theorem vI_c {σ : vw_S} (h : vI σ) : 1 ≤ σ.2 0 0 ∧ σ.2 0 0 ≤ 6 := h.1.1.2.1
theorem vI_he {σ : vw_S} (h : vI σ) : ∀ i : Nat, i < 6 → ∀ a : Nat, a < 6 → 0 ≤ vl_at (σ.1 1 i) (a : Int) ∧ vl_at (σ.1 1 i) (a : Int) ≤ 120 := vK_he h.1.1
theorem k_writers (hc : vt_code k pc = (27, 63, b, c)) (s : vw_same σ σ1) (hI : vI σ)  (hs : Nat.ble (vj_cat sc) 8 = true) (t : vW vw_rep L xs (k, pc + 3, lc, .int (jI (σ.2 0 0)) :: sc) σ1 Q) : vW vw_rep L xs (k, pc, lc, .ref 8 :: sc) σ1 Q := by
  have e : (.int (jI (σ1.2 0 0)) : Value) = .int (jI (σ.2 0 0)) := by
    simp only [vx_same s, vy_all_same s, vg_d_same s, s.1, s.2 12 0 (by unfold vw_sc; omega), s.2 13 0 (by unfold vw_sc; omega), s.2 9 0 (by unfold vw_sc; omega)]
  refine c_writers hc  hs ?_
  rw [e]
  exact t
theorem k_deedsOf (hc : vt_code k pc = (27, 66, b, c)) (s : vw_same σ σ1) (hI : vI σ) {o : Nat} (ho : o < 6) (ho0 : (o : Int) < σ.2 0 0) (hs : Nat.ble (vj_cat sc) 8 = true) (t : vW vw_rep L xs (k, pc + 3, lc, .int (jI (vl_at (σ.1 1 o) (o : Int))) :: sc) σ1 Q) : vW vw_rep L xs (k, pc, lc, .int (jI ((o : Int))) :: .ref 8 :: sc) σ1 Q := by
  have e : (.int (jI (vl_at (σ1.1 1 o) (o : Int))) : Value) = .int (jI (vl_at (σ.1 1 o) (o : Int))) := by
    simp only [vx_same s, vy_all_same s, vg_d_same s, s.1, s.2 12 0 (by unfold vw_sc; omega), s.2 13 0 (by unfold vw_sc; omega), s.2 9 0 (by unfold vw_sc; omega), s.2 1 o (by unfold vw_sc; omega)]
  refine c_deedsOf hc (by first | exact ho | (rw [s.1]; exact ho) | (rw [vx_same s]; exact ho) | (rw [s.2 0 w (by unfold vw_sc; omega)]; exact ho)) (by first | exact ho0 | (rw [s.1]; exact ho0) | (rw [vx_same s]; exact ho0) | (rw [s.2 0 w (by unfold vw_sc; omega)]; exact ho0)) hs ?_
  rw [e]
  exact t
theorem k_known (hc : vt_code k pc = (27, 67, b, c)) (s : vw_same σ σ1) (hI : vI σ) {w : Nat} (hw : w < 6) (hc0 : (w : Int) < σ.2 0 0) (hp : σ.2 2 w = 1) (hs : Nat.ble (vj_cat sc) 8 = true) (t : vW vw_rep L xs (k, pc + 3, lc, .int (jI (((σ.1 0 w).length : Int))) :: sc) σ1 Q) : vW vw_rep L xs (k, pc, lc, .int (jI ((w : Int))) :: .ref 8 :: sc) σ1 Q := by
  have e : (.int (jI (((σ1.1 0 w).length : Int))) : Value) = .int (jI (((σ.1 0 w).length : Int))) := by
    simp only [vx_same s, vy_all_same s, vg_d_same s, s.1, s.2 12 0 (by unfold vw_sc; omega), s.2 13 0 (by unfold vw_sc; omega), s.2 9 0 (by unfold vw_sc; omega), s.2 0 w (by unfold vw_sc; omega), s.2 1 w (by unfold vw_sc; omega), s.2 3 w (by unfold vw_sc; omega), s.2 4 w (by unfold vw_sc; omega)]
  refine c_known hc (by first | exact hw | (rw [s.1]; exact hw) | (rw [vx_same s]; exact hw) | (rw [s.2 0 w (by unfold vw_sc; omega)]; exact hw)) (by first | exact hc0 | (rw [s.1]; exact hc0) | (rw [vx_same s]; exact hc0) | (rw [s.2 0 w (by unfold vw_sc; omega)]; exact hc0)) (by first | exact hp | (rw [s.1]; exact hp) | (rw [vx_same s]; exact hp) | (rw [s.2 0 w (by unfold vw_sc; omega)]; exact hp)) hs ?_
  rw [e]
  exact t
theorem k_knownOf (hc : vt_code k pc = (27, 68, b, c)) (s : vw_same σ σ1) (hI : vI σ) {w : Nat} (hw : w < 6) (hc0 : (w : Int) < σ.2 0 0) (hp : σ.2 2 w = 1) {o : Nat} (ho : o < 6) (ho0 : (o : Int) < σ.2 0 0) (hs : Nat.ble (vj_cat sc) 8 = true) (t : vW vw_rep L xs (k, pc + 3, lc, .int (jI (vl_at (σ.1 1 w) (o : Int))) :: sc) σ1 Q) : vW vw_rep L xs (k, pc, lc, .int (jI ((o : Int))) :: .int (jI ((w : Int))) :: .ref 8 :: sc) σ1 Q := by
  have e : (.int (jI (vl_at (σ1.1 1 w) (o : Int))) : Value) = .int (jI (vl_at (σ.1 1 w) (o : Int))) := by
    simp only [vx_same s, vy_all_same s, vg_d_same s, s.1, s.2 12 0 (by unfold vw_sc; omega), s.2 13 0 (by unfold vw_sc; omega), s.2 9 0 (by unfold vw_sc; omega), s.2 0 w (by unfold vw_sc; omega), s.2 1 w (by unfold vw_sc; omega), s.2 3 w (by unfold vw_sc; omega), s.2 4 w (by unfold vw_sc; omega)]
  refine c_knownOf hc (by first | exact hw | (rw [s.1]; exact hw) | (rw [vx_same s]; exact hw) | (rw [s.2 0 w (by unfold vw_sc; omega)]; exact hw)) (by first | exact hc0 | (rw [s.1]; exact hc0) | (rw [vx_same s]; exact hc0) | (rw [s.2 0 w (by unfold vw_sc; omega)]; exact hc0)) (by first | exact hp | (rw [s.1]; exact hp) | (rw [vx_same s]; exact hp) | (rw [s.2 0 w (by unfold vw_sc; omega)]; exact hp)) (by first | exact ho | (rw [s.1]; exact ho) | (rw [vx_same s]; exact ho) | (rw [s.2 0 w (by unfold vw_sc; omega)]; exact ho)) (by first | exact ho0 | (rw [s.1]; exact ho0) | (rw [vx_same s]; exact ho0) | (rw [s.2 0 w (by unfold vw_sc; omega)]; exact ho0)) hs ?_
  rw [e]
  exact t
theorem k_undoable (hc : vt_code k pc = (27, 73, b, c)) (s : vw_same σ σ1) (hI : vI σ) {w : Nat} (hw : w < 6) (hc0 : (w : Int) < σ.2 0 0) (hp : σ.2 2 w = 1) (hs : Nat.ble (vj_cat sc) 8 = true) (t : vW vw_rep L xs (k, pc + 3, lc, .int (jI (((σ.1 3 w).length : Int))) :: sc) σ1 Q) : vW vw_rep L xs (k, pc, lc, .int (jI ((w : Int))) :: .ref 8 :: sc) σ1 Q := by
  have e : (.int (jI (((σ1.1 3 w).length : Int))) : Value) = .int (jI (((σ.1 3 w).length : Int))) := by
    simp only [vx_same s, vy_all_same s, vg_d_same s, s.1, s.2 12 0 (by unfold vw_sc; omega), s.2 13 0 (by unfold vw_sc; omega), s.2 9 0 (by unfold vw_sc; omega), s.2 0 w (by unfold vw_sc; omega), s.2 1 w (by unfold vw_sc; omega), s.2 3 w (by unfold vw_sc; omega), s.2 4 w (by unfold vw_sc; omega)]
  refine c_undoable hc (by first | exact hw | (rw [s.1]; exact hw) | (rw [vx_same s]; exact hw) | (rw [s.2 0 w (by unfold vw_sc; omega)]; exact hw)) (by first | exact hc0 | (rw [s.1]; exact hc0) | (rw [vx_same s]; exact hc0) | (rw [s.2 0 w (by unfold vw_sc; omega)]; exact hc0)) (by first | exact hp | (rw [s.1]; exact hp) | (rw [vx_same s]; exact hp) | (rw [s.2 0 w (by unfold vw_sc; omega)]; exact hp)) hs ?_
  rw [e]
  exact t
theorem k_missing (hc : vt_code k pc = (27, 71, b, c)) (s : vw_same σ σ1) (hI : vI σ) {w : Nat} (hw : w < 6) (hc0 : (w : Int) < σ.2 0 0) (hp : σ.2 2 w = 1) {o : Nat} (ho : o < 6) (ho0 : (o : Int) < σ.2 0 0) (hop : σ.2 2 o = 1) (hs : Nat.ble (vj_cat sc) 8 = true) (t : vW vw_rep L xs (k, pc + 3, lc, .int (jI (vk_bey (σ.1 1 w) (σ.1 1 o) 6)) :: sc) σ1 Q) : vW vw_rep L xs (k, pc, lc, .int (jI ((o : Int))) :: .int (jI ((w : Int))) :: .ref 8 :: sc) σ1 Q := by
  have e : (.int (jI (vk_bey (σ1.1 1 w) (σ1.1 1 o) 6)) : Value) = .int (jI (vk_bey (σ.1 1 w) (σ.1 1 o) 6)) := by
    simp only [vx_same s, vy_all_same s, vg_d_same s, s.1, s.2 12 0 (by unfold vw_sc; omega), s.2 13 0 (by unfold vw_sc; omega), s.2 9 0 (by unfold vw_sc; omega), s.2 0 w (by unfold vw_sc; omega), s.2 1 w (by unfold vw_sc; omega), s.2 3 w (by unfold vw_sc; omega), s.2 4 w (by unfold vw_sc; omega), s.2 1 o (by unfold vw_sc; omega)]
  refine c_missing hc (by first | exact hw | (rw [s.1]; exact hw)) (by first | exact hc0 | (rw [s.1]; exact hc0)) (by first | exact hp | (rw [s.1]; exact hp)) (by first | exact ho | (rw [s.1]; exact ho)) (by first | exact ho0 | (rw [s.1]; exact ho0)) (by first | exact hop | (rw [s.1]; exact hop)) (fun i hi a ha => by rw [s.2 1 i (by unfold vw_sc; omega)]; exact vI_he hI i hi a ha) hs ?_
  rw [e]
  exact t
theorem k_caret (hc : vt_code k pc = (27, 75, b, c)) (s : vw_same σ σ1) (hI : vI σ) {w : Nat} (hw : w < 6) (hc0 : (w : Int) < σ.2 0 0) (hp : σ.2 2 w = 1) (hs : Nat.ble (vj_cat sc) 8 = true) (t : ∀ σ', vw_same σ σ' → vW vw_rep L xs (k, pc + 3, lc, .int (jI (vp_pos (vx σ w 20) (vx σ w 15) (σ.2 3 w))) :: sc) σ' Q) : vW vw_rep L xs (k, pc, lc, .int (jI ((w : Int))) :: .ref 8 :: sc) σ1 Q := by
  have e : (.int (jI (vp_pos (vx σ1 w 20) (vx σ1 w 15) (σ1.2 3 w))) : Value) = .int (jI (vp_pos (vx σ w 20) (vx σ w 15) (σ.2 3 w))) := by
    simp only [vx_same s, vy_all_same s, vg_d_same s, s.1, s.2 12 0 (by unfold vw_sc; omega), s.2 13 0 (by unfold vw_sc; omega), s.2 9 0 (by unfold vw_sc; omega), s.2 0 w (by unfold vw_sc; omega), s.2 1 w (by unfold vw_sc; omega), s.2 3 w (by unfold vw_sc; omega), s.2 4 w (by unfold vw_sc; omega)]
  refine c_caret hc (by first | exact hw | (rw [s.1]; exact hw) | (rw [vx_same s]; exact hw) | (rw [s.2 0 w (by unfold vw_sc; omega)]; exact hw)) (by first | exact hc0 | (rw [s.1]; exact hc0) | (rw [vx_same s]; exact hc0) | (rw [s.2 0 w (by unfold vw_sc; omega)]; exact hc0)) (by first | exact hp | (rw [s.1]; exact hp) | (rw [vx_same s]; exact hp) | (rw [s.2 0 w (by unfold vw_sc; omega)]; exact hp)) (by rw [s.1]; exact (vI_n hI).1) (by rw [s.1]; exact (vI_n hI).2) hs (fun σ' s' => ?_)
  rw [e]
  exact t σ' (s.trans s')
theorem k_caretSeen (hc : vt_code k pc = (27, 76, b, c)) (s : vw_same σ σ1) (hI : vI σ) {w : Nat} (hw : w < 6) (hc0 : (w : Int) < σ.2 0 0) (hp : σ.2 2 w = 1) {o : Nat} (ho : o < 6) (ho0 : (o : Int) < σ.2 0 0) (hs : Nat.ble (vj_cat sc) 8 = true) (t : ∀ σ', vw_same σ σ' → vW vw_rep L xs (k, pc + 3, lc, .int (jI (vy_seen σ.2 (σ.1 1 w) (σ.1 0 w) (vx σ w 20) (vx σ w 15) (w : Int) (o : Int))) :: sc) σ' Q) : vW vw_rep L xs (k, pc, lc, .int (jI ((o : Int))) :: .int (jI ((w : Int))) :: .ref 8 :: sc) σ1 Q := by
  have e : (.int (jI (vy_seen σ1.2 (σ1.1 1 w) (σ1.1 0 w) (vx σ1 w 20) (vx σ1 w 15) (w : Int) (o : Int))) : Value) = .int (jI (vy_seen σ.2 (σ.1 1 w) (σ.1 0 w) (vx σ w 20) (vx σ w 15) (w : Int) (o : Int))) := by
    simp only [vx_same s, vy_all_same s, vg_d_same s, s.1, s.2 12 0 (by unfold vw_sc; omega), s.2 13 0 (by unfold vw_sc; omega), s.2 9 0 (by unfold vw_sc; omega), s.2 0 w (by unfold vw_sc; omega), s.2 1 w (by unfold vw_sc; omega), s.2 3 w (by unfold vw_sc; omega), s.2 4 w (by unfold vw_sc; omega)]
  refine c_caretSeen hc (by first | exact hw | (rw [s.1]; exact hw) | (rw [vx_same s]; exact hw) | (rw [s.2 0 w (by unfold vw_sc; omega)]; exact hw)) (by first | exact hc0 | (rw [s.1]; exact hc0) | (rw [vx_same s]; exact hc0) | (rw [s.2 0 w (by unfold vw_sc; omega)]; exact hc0)) (by first | exact hp | (rw [s.1]; exact hp) | (rw [vx_same s]; exact hp) | (rw [s.2 0 w (by unfold vw_sc; omega)]; exact hp)) (by first | exact ho | (rw [s.1]; exact ho) | (rw [vx_same s]; exact ho) | (rw [s.2 0 w (by unfold vw_sc; omega)]; exact ho)) (by first | exact ho0 | (rw [s.1]; exact ho0) | (rw [vx_same s]; exact ho0) | (rw [s.2 0 w (by unfold vw_sc; omega)]; exact ho0)) (by rw [s.1]; exact (vI_n hI).1) (by rw [s.1]; exact (vI_n hI).2) hs (fun σ' s' => ?_)
  rw [e]
  exact t σ' (s.trans s')
theorem k_length (hc : vt_code k pc = (27, 77, b, c)) (s : vw_same σ σ1) (hI : vI σ) {w : Nat} (hw : w < 6) (hc0 : (w : Int) < σ.2 0 0) (hp : σ.2 2 w = 1) (hs : Nat.ble (vj_cat sc) 8 = true) (t : ∀ σ', vw_same σ σ' → vW vw_rep L xs (k, pc + 3, lc, .int (jI (((vx σ w 16).length : Int))) :: sc) σ' Q) : vW vw_rep L xs (k, pc, lc, .int (jI ((w : Int))) :: .ref 8 :: sc) σ1 Q := by
  have e : (.int (jI (((vx σ1 w 16).length : Int))) : Value) = .int (jI (((vx σ w 16).length : Int))) := by
    simp only [vx_same s, vy_all_same s, vg_d_same s, s.1, s.2 12 0 (by unfold vw_sc; omega), s.2 13 0 (by unfold vw_sc; omega), s.2 9 0 (by unfold vw_sc; omega), s.2 0 w (by unfold vw_sc; omega), s.2 1 w (by unfold vw_sc; omega), s.2 3 w (by unfold vw_sc; omega), s.2 4 w (by unfold vw_sc; omega)]
  refine c_length hc (by first | exact hw | (rw [s.1]; exact hw) | (rw [vx_same s]; exact hw) | (rw [s.2 0 w (by unfold vw_sc; omega)]; exact hw)) (by first | exact hc0 | (rw [s.1]; exact hc0) | (rw [vx_same s]; exact hc0) | (rw [s.2 0 w (by unfold vw_sc; omega)]; exact hc0)) (by first | exact hp | (rw [s.1]; exact hp) | (rw [vx_same s]; exact hp) | (rw [s.2 0 w (by unfold vw_sc; omega)]; exact hp)) (by rw [s.1]; exact (vI_n hI).1) (by rw [s.1]; exact (vI_n hI).2) hs (fun σ' s' => ?_)
  rw [e]
  exact t σ' (s.trans s')
theorem k_cellsOf (hc : vt_code k pc = (27, 78, b, c)) (s : vw_same σ σ1) (hI : vI σ) {w : Nat} (hw : w < 6) (hc0 : (w : Int) < σ.2 0 0) (hp : σ.2 2 w = 1) (hs : Nat.ble (vj_cat sc) 8 = true) (t : ∀ σ', vw_same σ σ' → vW vw_rep L xs (k, pc + 3, lc, .int (jI (((vx σ w 15).length : Int))) :: sc) σ' Q) : vW vw_rep L xs (k, pc, lc, .int (jI ((w : Int))) :: .ref 8 :: sc) σ1 Q := by
  have e : (.int (jI (((vx σ1 w 15).length : Int))) : Value) = .int (jI (((vx σ w 15).length : Int))) := by
    simp only [vx_same s, vy_all_same s, vg_d_same s, s.1, s.2 12 0 (by unfold vw_sc; omega), s.2 13 0 (by unfold vw_sc; omega), s.2 9 0 (by unfold vw_sc; omega), s.2 0 w (by unfold vw_sc; omega), s.2 1 w (by unfold vw_sc; omega), s.2 3 w (by unfold vw_sc; omega), s.2 4 w (by unfold vw_sc; omega)]
  refine c_cellsOf hc (by first | exact hw | (rw [s.1]; exact hw) | (rw [vx_same s]; exact hw) | (rw [s.2 0 w (by unfold vw_sc; omega)]; exact hw)) (by first | exact hc0 | (rw [s.1]; exact hc0) | (rw [vx_same s]; exact hc0) | (rw [s.2 0 w (by unfold vw_sc; omega)]; exact hc0)) (by first | exact hp | (rw [s.1]; exact hp) | (rw [vx_same s]; exact hp) | (rw [s.2 0 w (by unfold vw_sc; omega)]; exact hp)) (by rw [s.1]; exact (vI_n hI).1) (by rw [s.1]; exact (vI_n hI).2) hs (fun σ' s' => ?_)
  rw [e]
  exact t σ' (s.trans s')
theorem k_letterAt (hc : vt_code k pc = (27, 79, b, c)) (s : vw_same σ σ1) (hI : vI σ) {w : Nat} (hw : w < 6) (hc0 : (w : Int) < σ.2 0 0) (hp : σ.2 2 w = 1) {z : Int} (z0 : 0 ≤ z) (z1 : z < (vx σ w 16).length) (hs : Nat.ble (vj_cat sc) 8 = true) (t : ∀ σ', vw_same σ σ' → vW vw_rep L xs (k, pc + 3, lc, .int (jI (vl_at (σ.1 12 0) (vl_at (vx σ w 16) z))) :: sc) σ' Q) : vW vw_rep L xs (k, pc, lc, .int (jI (z)) :: .int (jI ((w : Int))) :: .ref 8 :: sc) σ1 Q := by
  have e : (.int (jI (vl_at (σ1.1 12 0) (vl_at (vx σ1 w 16) z))) : Value) = .int (jI (vl_at (σ.1 12 0) (vl_at (vx σ w 16) z))) := by
    simp only [vx_same s, vy_all_same s, vg_d_same s, s.1, s.2 12 0 (by unfold vw_sc; omega), s.2 13 0 (by unfold vw_sc; omega), s.2 9 0 (by unfold vw_sc; omega), s.2 0 w (by unfold vw_sc; omega), s.2 1 w (by unfold vw_sc; omega), s.2 3 w (by unfold vw_sc; omega), s.2 4 w (by unfold vw_sc; omega)]
  refine c_letterAt hc (by first | exact hw | (rw [s.1]; exact hw) | (rw [vx_same s]; exact hw) | (rw [s.2 0 w (by unfold vw_sc; omega)]; exact hw)) (by first | exact hc0 | (rw [s.1]; exact hc0) | (rw [vx_same s]; exact hc0) | (rw [s.2 0 w (by unfold vw_sc; omega)]; exact hc0)) (by first | exact hp | (rw [s.1]; exact hp) | (rw [vx_same s]; exact hp) | (rw [s.2 0 w (by unfold vw_sc; omega)]; exact hp)) (by rw [s.1]; exact (vI_n hI).1) (by rw [s.1]; exact (vI_n hI).2) (by first | exact z0 | (rw [s.1]; exact z0) | (rw [vx_same s]; exact z0) | (rw [s.2 0 w (by unfold vw_sc; omega)]; exact z0)) (by first | exact z1 | (rw [s.1]; exact z1) | (rw [vx_same s]; exact z1) | (rw [s.2 0 w (by unfold vw_sc; omega)]; exact z1)) hs (fun σ' s' => ?_)
  rw [e]
  exact t σ' (s.trans s')
theorem k_authorAt (hc : vt_code k pc = (27, 80, b, c)) (s : vw_same σ σ1) (hI : vI σ) {w : Nat} (hw : w < 6) (hc0 : (w : Int) < σ.2 0 0) (hp : σ.2 2 w = 1) {z : Int} (z0 : 0 ≤ z) (z1 : z < (vx σ w 16).length) (hs : Nat.ble (vj_cat sc) 8 = true) (t : ∀ σ', vw_same σ σ' → vW vw_rep L xs (k, pc + 3, lc, .int (jI (σ.2 5 (ve_ix (vl_at (σ.1 13 0) (vl_at (vx σ w 16) z))))) :: sc) σ' Q) : vW vw_rep L xs (k, pc, lc, .int (jI (z)) :: .int (jI ((w : Int))) :: .ref 8 :: sc) σ1 Q := by
  have e : (.int (jI (σ1.2 5 (ve_ix (vl_at (σ1.1 13 0) (vl_at (vx σ1 w 16) z))))) : Value) = .int (jI (σ.2 5 (ve_ix (vl_at (σ.1 13 0) (vl_at (vx σ w 16) z))))) := by
    simp only [vx_same s, vy_all_same s, vg_d_same s, s.1, s.2 12 0 (by unfold vw_sc; omega), s.2 13 0 (by unfold vw_sc; omega), s.2 9 0 (by unfold vw_sc; omega), s.2 0 w (by unfold vw_sc; omega), s.2 1 w (by unfold vw_sc; omega), s.2 3 w (by unfold vw_sc; omega), s.2 4 w (by unfold vw_sc; omega)]
  refine c_authorAt hc (by first | exact hw | (rw [s.1]; exact hw) | (rw [vx_same s]; exact hw) | (rw [s.2 0 w (by unfold vw_sc; omega)]; exact hw)) (by first | exact hc0 | (rw [s.1]; exact hc0) | (rw [vx_same s]; exact hc0) | (rw [s.2 0 w (by unfold vw_sc; omega)]; exact hc0)) (by first | exact hp | (rw [s.1]; exact hp) | (rw [vx_same s]; exact hp) | (rw [s.2 0 w (by unfold vw_sc; omega)]; exact hp)) (by rw [s.1]; exact (vI_n hI).1) (by rw [s.1]; exact (vI_n hI).2) (by first | exact z0 | (rw [s.1]; exact z0) | (rw [vx_same s]; exact z0) | (rw [s.2 0 w (by unfold vw_sc; omega)]; exact z0)) (by first | exact z1 | (rw [s.1]; exact z1) | (rw [vx_same s]; exact z1) | (rw [s.2 0 w (by unfold vw_sc; omega)]; exact z1)) hs (fun σ' s' => ?_)
  rw [e]
  exact t σ' (s.trans s')
theorem k_cellAt (hc : vt_code k pc = (27, 81, b, c)) (s : vw_same σ σ1) (hI : vI σ) {w : Nat} (hw : w < 6) (hc0 : (w : Int) < σ.2 0 0) (hp : σ.2 2 w = 1) {z : Int} (z0 : 0 ≤ z) (z1 : z < (vx σ w 15).length) (zc : (vx σ w 15).length ≤ 720) (hs : Nat.ble (vj_cat sc) 8 = true) (t : ∀ σ', vw_same σ σ' → vW vw_rep L xs (k, pc + 3, lc, .int (jI (vy_desc σ.2 (σ.1 12 0) (σ.1 13 0) (vx σ w 15) (vx σ w 20) z)) :: sc) σ' Q) : vW vw_rep L xs (k, pc, lc, .int (jI (z)) :: .int (jI ((w : Int))) :: .ref 8 :: sc) σ1 Q := by
  have e : (.int (jI (vy_desc σ1.2 (σ1.1 12 0) (σ1.1 13 0) (vx σ1 w 15) (vx σ1 w 20) z)) : Value) = .int (jI (vy_desc σ.2 (σ.1 12 0) (σ.1 13 0) (vx σ w 15) (vx σ w 20) z)) := by
    simp only [vx_same s, vy_all_same s, vg_d_same s, s.1, s.2 12 0 (by unfold vw_sc; omega), s.2 13 0 (by unfold vw_sc; omega), s.2 9 0 (by unfold vw_sc; omega), s.2 0 w (by unfold vw_sc; omega), s.2 1 w (by unfold vw_sc; omega), s.2 3 w (by unfold vw_sc; omega), s.2 4 w (by unfold vw_sc; omega)]
  refine c_cellAt hc (by first | exact hw | (rw [s.1]; exact hw) | (rw [vx_same s]; exact hw) | (rw [s.2 0 w (by unfold vw_sc; omega)]; exact hw)) (by first | exact hc0 | (rw [s.1]; exact hc0) | (rw [vx_same s]; exact hc0) | (rw [s.2 0 w (by unfold vw_sc; omega)]; exact hc0)) (by first | exact hp | (rw [s.1]; exact hp) | (rw [vx_same s]; exact hp) | (rw [s.2 0 w (by unfold vw_sc; omega)]; exact hp)) (by rw [s.1]; exact (vI_n hI).1) (by rw [s.1]; exact (vI_n hI).2) (by first | exact z0 | (rw [s.1]; exact z0) | (rw [vx_same s]; exact z0) | (rw [s.2 0 w (by unfold vw_sc; omega)]; exact z0)) (by first | exact z1 | (rw [s.1]; exact z1) | (rw [vx_same s]; exact z1) | (rw [s.2 0 w (by unfold vw_sc; omega)]; exact z1)) (by first | exact zc | (rw [s.1]; exact zc) | (rw [vx_same s]; exact zc) | (rw [s.2 0 w (by unfold vw_sc; omega)]; exact zc)) hs (fun σ' s' => ?_)
  rw [e]
  exact t σ' (s.trans s')
theorem k_lengthIn (hc : vt_code k pc = (27, 82, b, c)) (s : vw_same σ σ1) (hI : vI σ) {w : Nat} (hw : w < 6) (hc0 : (w : Int) < σ.2 0 0) (hp : σ.2 2 w = 1) {n : Nat} (hn1 : n ≤ (σ.1 0 w).length) (hs : Nat.ble (vj_cat sc) 8 = true) (t : ∀ σ', vw_same σ σ' → vW vw_rep L xs (k, pc + 3, lc, .int (jI (((vq_vw σ (σ.1 0 w) n (-1) 16).length : Int))) :: sc) σ' Q) : vW vw_rep L xs (k, pc, lc, .int (jI ((n : Int))) :: .int (jI ((w : Int))) :: .ref 8 :: sc) σ1 Q := by
  have e : (.int (jI (((vq_vw σ1 (σ1.1 0 w) n (-1) 16).length : Int))) : Value) = .int (jI (((vq_vw σ (σ.1 0 w) n (-1) 16).length : Int))) := by
    simp only [vx_same s, vy_all_same s, vg_d_same s, s.1, s.2 12 0 (by unfold vw_sc; omega), s.2 13 0 (by unfold vw_sc; omega), s.2 9 0 (by unfold vw_sc; omega), s.2 0 w (by unfold vw_sc; omega), s.2 1 w (by unfold vw_sc; omega), s.2 3 w (by unfold vw_sc; omega), s.2 4 w (by unfold vw_sc; omega), vq_vw_same s]
  refine c_lengthIn hc (by first | exact hw | (rw [s.1]; exact hw) | (rw [vx_same s]; exact hw) | (rw [s.2 0 w (by unfold vw_sc; omega)]; exact hw)) (by first | exact hc0 | (rw [s.1]; exact hc0) | (rw [vx_same s]; exact hc0) | (rw [s.2 0 w (by unfold vw_sc; omega)]; exact hc0)) (by first | exact hp | (rw [s.1]; exact hp) | (rw [vx_same s]; exact hp) | (rw [s.2 0 w (by unfold vw_sc; omega)]; exact hp)) (by rw [s.1]; exact (vI_n hI).1) (by rw [s.1]; exact (vI_n hI).2) (by first | exact hn1 | (rw [s.1]; exact hn1) | (rw [vx_same s]; exact hn1) | (rw [s.2 0 w (by unfold vw_sc; omega)]; exact hn1)) hs (fun σ' s' => ?_)
  rw [e]
  exact t σ' (s.trans s')
theorem k_lengthOfAll (hc : vt_code k pc = (27, 87, b, c)) (s : vw_same σ σ1) (hI : vI σ) {w : Nat} (hw : w < 6) (hc0 : (w : Int) < σ.2 0 0) (hp : σ.2 2 w = 1) (hs : Nat.ble (vj_cat sc) 8 = true) (t : ∀ σ', vw_same σ σ' → vW vw_rep L xs (k, pc + 3, lc, .int (jI (vy_all σ)) :: sc) σ' Q) : vW vw_rep L xs (k, pc, lc, .int (jI ((w : Int))) :: .ref 8 :: sc) σ1 Q := by
  have e : (.int (jI (vy_all σ1)) : Value) = .int (jI (vy_all σ)) := by
    simp only [vx_same s, vy_all_same s, vg_d_same s, s.1, s.2 12 0 (by unfold vw_sc; omega), s.2 13 0 (by unfold vw_sc; omega), s.2 9 0 (by unfold vw_sc; omega), s.2 0 w (by unfold vw_sc; omega), s.2 1 w (by unfold vw_sc; omega), s.2 3 w (by unfold vw_sc; omega), s.2 4 w (by unfold vw_sc; omega)]
  refine c_lengthOfAll hc (by first | exact hw | (rw [s.1]; exact hw) | (rw [vx_same s]; exact hw) | (rw [s.2 0 w (by unfold vw_sc; omega)]; exact hw)) (by first | exact hc0 | (rw [s.1]; exact hc0) | (rw [vx_same s]; exact hc0) | (rw [s.2 0 w (by unfold vw_sc; omega)]; exact hc0)) (by first | exact hp | (rw [s.1]; exact hp) | (rw [vx_same s]; exact hp) | (rw [s.2 0 w (by unfold vw_sc; omega)]; exact hp)) (by rw [s.1]; exact (vI_n hI).1) (by rw [s.1]; exact (vI_n hI).2) hs (fun σ' s' => ?_)
  rw [e]
  exact t σ' (s.trans s')
theorem k_shareOf (hc : vt_code k pc = (27, 84, b, c)) (s : vw_same σ σ1) (hI : vI σ) {w : Nat} (hw : w < 6) (hc0 : (w : Int) < σ.2 0 0) (hp : σ.2 2 w = 1) {o : Nat} (ho : o < 6) (ho0 : (o : Int) < σ.2 0 0) (hs : Nat.ble (vj_cat sc) 8 = true) (t : ∀ σ', vw_same σ σ' → vW vw_rep L xs (k, pc + 3, lc, .double (vy_sh (vy_own σ.2 (σ.1 13 0) (vx σ w 16) (o : Int) (vx σ w 16).length) (vx σ w 16).length) :: sc) σ' Q) : vW vw_rep L xs (k, pc, lc, .int (jI ((o : Int))) :: .int (jI ((w : Int))) :: .ref 8 :: sc) σ1 Q := by
  have e : (.double (vy_sh (vy_own σ1.2 (σ1.1 13 0) (vx σ1 w 16) (o : Int) (vx σ1 w 16).length) (vx σ1 w 16).length) : Value) = .double (vy_sh (vy_own σ.2 (σ.1 13 0) (vx σ w 16) (o : Int) (vx σ w 16).length) (vx σ w 16).length) := by
    simp only [vx_same s, vy_all_same s, vg_d_same s, s.1, s.2 12 0 (by unfold vw_sc; omega), s.2 13 0 (by unfold vw_sc; omega), s.2 9 0 (by unfold vw_sc; omega), s.2 0 w (by unfold vw_sc; omega), s.2 1 w (by unfold vw_sc; omega), s.2 3 w (by unfold vw_sc; omega), s.2 4 w (by unfold vw_sc; omega)]
  refine c_shareOf hc (by first | exact hw | (rw [s.1]; exact hw) | (rw [vx_same s]; exact hw) | (rw [s.2 0 w (by unfold vw_sc; omega)]; exact hw)) (by first | exact hc0 | (rw [s.1]; exact hc0) | (rw [vx_same s]; exact hc0) | (rw [s.2 0 w (by unfold vw_sc; omega)]; exact hc0)) (by first | exact hp | (rw [s.1]; exact hp) | (rw [vx_same s]; exact hp) | (rw [s.2 0 w (by unfold vw_sc; omega)]; exact hp)) (by first | exact ho | (rw [s.1]; exact ho) | (rw [vx_same s]; exact ho) | (rw [s.2 0 w (by unfold vw_sc; omega)]; exact ho)) (by first | exact ho0 | (rw [s.1]; exact ho0) | (rw [vx_same s]; exact ho0) | (rw [s.2 0 w (by unfold vw_sc; omega)]; exact ho0)) (by rw [s.1]; exact (vI_n hI).1) (by rw [s.1]; exact (vI_n hI).2) hs (fun σ' s' => ?_)
  rw [e]
  exact t σ' (s.trans s')
theorem k_apart (hc : vt_code k pc = (27, 85, b, c)) (s : vw_same σ σ1) (hI : vI σ) {w : Nat} (hw : w < 6) (hc0 : (w : Int) < σ.2 0 0) (hp : σ.2 2 w = 1) (hs : Nat.ble (vj_cat sc) 8 = true) (t : ∀ σ', vw_same σ σ' → vW vw_rep L xs (k, pc + 3, lc, .int (jI 0) :: sc) σ' Q) : vW vw_rep L xs (k, pc, lc, .int (jI (w : Int)) :: .int (jI (w : Int)) :: .ref 8 :: sc) σ1 Q :=
  c_apart hc hw (by rw [s.1]; exact hc0) (by rw [s.1]; exact hp) (by rw [s.1]; exact (vI_n hI).1) (by rw [s.1]; exact (vI_n hI).2) hs (fun σ' s' => t σ' (s.trans s'))
theorem k_longestBy (hc : vt_code k pc = (27, 83, b, c)) (s : vw_same σ σ1) (hI : vI σ) {w : Nat} (hw : w < 6) (hc0 : (w : Int) < σ.2 0 0) (hp : σ.2 2 w = 1) {o : Nat} (ho : o < 6) (ho0 : (o : Int) < σ.2 0 0) (hs : Nat.ble (vj_cat sc) 8 = true) (t : ∀ (z : Int) (σ' : vw_S), vw_same σ σ' → 0 ≤ z → z ≤ (vx σ w 16).length → vW vw_rep L xs (k, pc + 3, lc, .int (jI z) :: sc) σ' Q) : vW vw_rep L xs (k, pc, lc, .int (jI (o : Int)) :: .int (jI (w : Int)) :: .ref 8 :: sc) σ1 Q :=
  c_longestBy hc hw (by rw [s.1]; exact hc0) (by rw [s.1]; exact hp) ho (by rw [s.1]; exact ho0) (by rw [s.1]; exact (vI_n hI).1) (by rw [s.1]; exact (vI_n hI).2) hs (fun z σ' s' z0 z1 _ => t z σ' (s.trans s') z0 (by rw [vx_same s] at z1; exact z1))
theorem k_lengthUndone (hc : vt_code k pc = (27, 88, b, c)) (s : vw_same σ σ1) (hI : vI σ) {w : Nat} (hw : w < 6) (hc0 : (w : Int) < σ.2 0 0) (hp : σ.2 2 w = 1) (hs : Nat.ble (vj_cat sc) 8 = true) (t : ∀ (z : Int) (σ' : vw_S), vw_same σ σ' → -1 ≤ z → z ≤ 720 → (z = -1 ↔ (σ.1 3 w).length = 0) → vW vw_rep L xs (k, pc + 3, lc, .int (jI z) :: sc) σ' Q) : vW vw_rep L xs (k, pc, lc, .int (jI (w : Int)) :: .ref 8 :: sc) σ1 Q :=
  c_lengthUndone hc hw (by rw [s.1]; exact hc0) (by rw [s.1]; exact hp) (by rw [s.1]; exact (vI_n hI).1) (by rw [s.1]; exact (vI_n hI).2) hs (fun z σ' s' z0 z1 z2 => t z σ' (s.trans s') z0 z1 (by rw [s.2 3 w (by unfold vw_sc; omega)] at z2; exact z2))
theorem k_isPresent (hc : vt_code k pc = (27, 64, b, c)) (s : vw_same σ σ1) {w : Nat} (hw : w < 6) (hs : Nat.ble (vj_cat sc) 8 = true) (h1 : σ.2 2 w = 1 → vW vw_rep L xs (k, pc + 3, lc, .int (jI 1) :: sc) σ1 Q) (h0 : ¬ σ.2 2 w = 1 → vW vw_rep L xs (k, pc + 3, lc, .int (jI 0) :: sc) σ1 Q) : vW vw_rep L xs (k, pc, lc, .int (jI (w : Int)) :: .ref 8 :: sc) σ1 Q :=
  c_isPresent hc hw hs (fun h => h1 (by rw [s.1] at h; exact h)) (fun h => h0 (by rw [s.1] at h; exact h))
def vy_same (σ : vw_S) (w o : Nat) : Prop := vy_eq σ.2 (σ.1 12 0) (σ.1 13 0) (vx σ w 16) (vx σ o 16) (vx σ w 21) (vx σ o 21)
theorem k_areAlike (hc : vt_code k pc = (27, 86, b, c)) (s : vw_same σ σ1) (hI : vI σ) {w : Nat} (hw : w < 6) (hc0 : (w : Int) < σ.2 0 0) (hp : σ.2 2 w = 1) {o : Nat} (ho : o < 6) (ho0 : (o : Int) < σ.2 0 0) (hop : σ.2 2 o = 1) (hs : Nat.ble (vj_cat sc) 8 = true) (h1 : vy_same σ w o → ∀ σ', vw_same σ σ' → vW vw_rep L xs (k, pc + 3, lc, .int (jI 1) :: sc) σ' Q) (h0 : ¬ vy_same σ w o → ∀ σ', vw_same σ σ' → vW vw_rep L xs (k, pc + 3, lc, .int (jI 0) :: sc) σ' Q) : vW vw_rep L xs (k, pc, lc, .int (jI (o : Int)) :: .int (jI (w : Int)) :: .ref 8 :: sc) σ1 Q := by
  have e : vy_eq σ1.2 (σ1.1 12 0) (σ1.1 13 0) (vx σ1 w 16) (vx σ1 o 16) (vx σ1 w 21) (vx σ1 o 21) = vy_same σ w o := by
    unfold vy_same
    rw [vx_same s, vx_same s, s.1, s.2 12 0 (by unfold vw_sc; omega), s.2 13 0 (by unfold vw_sc; omega)]
  exact c_areAlike hc hw (by rw [s.1]; exact hc0) (by rw [s.1]; exact hp) ho (by rw [s.1]; exact ho0) (by rw [s.1]; exact hop) (by rw [s.1]; exact (vI_n hI).1) (by rw [s.1]; exact (vI_n hI).2) hs (fun h σ' s' => h1 (e ▸ h) σ' (s.trans s')) (fun h σ' s' => h0 (e ▸ h) σ' (s.trans s'))
theorem k_digest (hc : vt_code k pc = (27, 90, b, c)) (s : vw_same σ σ1) (hI : vI σ) (hs : Nat.ble (vj_cat sc) 8 = true) (t : ∀ σ', vw_same σ σ' → vW vw_rep L xs (k, pc + 3, lc, .long (vg_d σ) :: sc) σ' Q) : vW vw_rep L xs (k, pc, lc, .ref 8 :: sc) σ1 Q := by
  refine c_digest hc (by rw [s.1]; exact (vI_n hI).1) (by rw [s.1]; exact (vI_n hI).2) (by rw [s.1]; exact vI_c hI) (fun i hi a ha => by rw [s.2 1 i (by unfold vw_sc; omega)]; exact vI_he hI i hi a ha) hs (fun σ' s' => ?_)
  rw [vg_d_same s]
  exact t σ' (s.trans s')
theorem k_flaws (hc : vt_code k pc = (27, 89, b, c)) (s : vw_same σ σ1) (hI : vI σ) (hs : Nat.ble (vj_cat sc) 8 = true) (t : vW vw_rep L xs (k, pc + 3, lc, .int (jI 0) :: sc) σ1 Q) : vW vw_rep L xs (k, pc, lc, .ref 8 :: sc) σ1 Q :=
  c_flaws hc (vI_same hI s) hs t
/-! ### pure -/
theorem vI_cell {σ : vw_S} (hI : vI σ) {x : Int} (x0 : 0 ≤ x) (x1 : x < ((σ.1 12 0).length : Int)) : (0 ≤ vl_at (σ.1 12 0) x ∧ vl_at (σ.1 12 0) x < 27) ∧ (0 ≤ σ.2 5 (ve_ix (vl_at (σ.1 13 0) x)) ∧ σ.2 5 (ve_ix (vl_at (σ.1 13 0) x)) < σ.2 0 0) := by
  obtain ⟨c1, c2, c3, c4, c5, c6, c7⟩ := hI.2.1
  have hn := vI_n hI
  have h1 := c4 _ (vl_at_mem (l := σ.1 12 0) (z := x) x0 x1)
  have h2 := c5 _ (vl_at_mem (l := σ.1 13 0) (z := x) x0 (by omega))
  rw [ve_ix_in (by omega) (by omega)]
  have h3 := hI.1.1.2.2.1 (vl_at (σ.1 13 0) x).toNat (by omega)
  exact ⟨h1, h3.1⟩
theorem vx_zero {σ : vw_S} (hI : vI σ) (l : List Int) : vq_vw σ l 0 (-1) 16 = [] := by
  have hl : (σ.1 12 0).length ≤ 720 := by
    have h1 := hI.2.1.2.2.1
    have h2 := hI.1.1.1
    omega
  obtain ⟨a1, a2, a3⟩ := vq_ga_all (Kn := vq_vw σ l 0 (-1) 17) (ef := vq_vw σ l 0 (-1) 18) (er := vq_vw σ l 0 (-1) 19) hI.2.1 hl
  have e15 : (vq_ga (σ.1 13 0) (σ.1 14 0) (vq_vw σ l 0 (-1) 17) (vq_vw σ l 0 (-1) 18) (vq_vw σ l 0 (-1) 19) (σ.1 12 0).length (σ.1 12 0).length).1 = vq_vw σ l 0 (-1) 15 := rfl
  have e16 : (vq_ga (σ.1 13 0) (σ.1 14 0) (vq_vw σ l 0 (-1) 17) (vq_vw σ l 0 (-1) 18) (vq_vw σ l 0 (-1) 19) (σ.1 12 0).length (σ.1 12 0).length).2.1 = vq_vw σ l 0 (-1) 16 := rfl
  rw [e15] at a1 a3
  rw [e16] at a3
  have h15 : vq_vw σ l 0 (-1) 15 = [] := by
    rcases hq : vq_vw σ l 0 (-1) 15 with _ | ⟨x, t⟩
    · rfl
    · exfalso
      have h1 := (a1 x (by rw [hq]; exact List.mem_cons_self)).2
      have e17 : vq_vw σ l 0 (-1) 17 = vl_fill 120 (σ.2 1 0) 0 := rfl
      rw [e17] at h1
      have hn := vI_n hI
      by_cases q : 0 ≤ vd_pl (ve_ix (vl_at (σ.1 13 0) x)) ∧ vd_pl (ve_ix (vl_at (σ.1 13 0) x)) < σ.2 1 0
      · rw [vl_fill_at q.1 q.2 (by omega)] at h1
        omega
      · have hlen := vl_fill_len (c := 120) (m := σ.2 1 0) (y := 0) hn.1 (by omega)
        rw [vl_at_no (by omega)] at h1
        omega
  rw [a3, h15]
  rfl
theorem vy_same_refl (σ : vw_S) (w : Nat) : vy_same σ w w := ⟨rfl, fun _ _ => ⟨rfl, rfl, rfl⟩⟩
theorem vk_sum_cm {σ : vw_S} (hI : vI σ) {w : Nat} (hw : w < 6) {cm : Nat} (hcm : σ.2 0 0 = (cm : Int)) : vk_sum (σ.1 1 w) cm = vk_sum (σ.1 1 w) 6 := by
  have hc := vI_c hI
  have key : ∀ n, cm + n ≤ 6 → vk_sum (σ.1 1 w) (cm + n) = vk_sum (σ.1 1 w) cm := by
    intro n
    induction n with
    | zero => intro _; rfl
    | succ n ih =>
      intro hn
      have e : vk_sum (σ.1 1 w) (cm + (n + 1)) = vk_sum (σ.1 1 w) (cm + n) + vl_at (σ.1 1 w) ((cm + n : Nat) : Int) := rfl
      have h1 := (hI.1.1.2.2.2.2.1 w hw).2.1 (cm + n) (by omega)
      have h2 := ((hI.1.1.2.2.2.2.1 (cm + n) (by omega)).2.2 (by omega)).2 (cm + n) (by omega)
      rw [e, ih (by omega)]
      omega
  have := key (6 - cm) (by omega)
  rw [show cm + (6 - cm) = 6 by omega] at this
  exact this.symm
/-- the shares add up -/
def vy_O (f : Nat → Nat) (m : Nat) : Nat := vf (fun a s => s + f a) m 0
theorem vy_O_own (V : Nat → Nat → Int) (r13 tx : List Int) {cm : Nat} : ∀ n : Nat, (∀ j : Nat, j < n → 0 ≤ V 5 (ve_ix (vl_at r13 (vl_at tx (j : Int)))) ∧ V 5 (ve_ix (vl_at r13 (vl_at tx (j : Int)))) < (cm : Int)) → vy_O (fun a => vy_own V r13 tx (a : Int) n) cm = n := by
  intro n
  induction n with
  | zero =>
    intro _
    have : ∀ m, vy_O (fun a => vy_own V r13 tx (a : Int) 0) m = 0 := by
      intro m
      induction m with
      | zero => rfl
      | succ m ih => exact ih
    exact this cm
  | succ n ih =>
    intro h
    have h1 := ih (fun j hj => h j (by omega))
    have h2 := h n (by omega)
    have key : ∀ m : Nat, vy_O (fun a => vy_own V r13 tx (a : Int) (n + 1)) m = vy_O (fun a => vy_own V r13 tx (a : Int) n) m + (if V 5 (ve_ix (vl_at r13 (vl_at tx (n : Int)))) < (m : Int) then 1 else 0) := by
      intro m
      induction m with
      | zero => rw [if_neg (by omega)]; rfl
      | succ m ih2 =>
        have e1 : vy_O (fun a => vy_own V r13 tx (a : Int) (n + 1)) (m + 1) = vy_O (fun a => vy_own V r13 tx (a : Int) (n + 1)) m + vy_own V r13 tx (m : Int) (n + 1) := rfl
        have e2 : vy_O (fun a => vy_own V r13 tx (a : Int) n) (m + 1) = vy_O (fun a => vy_own V r13 tx (a : Int) n) m + vy_own V r13 tx (m : Int) n := rfl
        have e3 : vy_own V r13 tx (m : Int) (n + 1) = if V 5 (ve_ix (vl_at r13 (vl_at tx (n : Int)))) = (m : Int) then vy_own V r13 tx (m : Int) n + 1 else vy_own V r13 tx (m : Int) n := rfl
        rw [e1, e2, e3, ih2]
        by_cases q : V 5 (ve_ix (vl_at r13 (vl_at tx (n : Int)))) = (m : Int)
        · rw [if_pos q, if_neg (by omega), if_pos (by omega)]; omega
        · rw [if_neg q]
          by_cases q2 : V 5 (ve_ix (vl_at r13 (vl_at tx (n : Int)))) < (m : Int)
          · rw [if_pos q2, if_pos (by omega)]; omega
          · rw [if_neg q2, if_neg (by omega)]; omega
    rw [key cm, h1, if_pos h2.2]
theorem vy_O_g {f : Nat → Nat} {n : Nat} (n0 : 0 < n) : ∀ m : Nat, vy_O (fun a => f a * 2 ^ 14 / n) m * n ≤ vy_O f m * 2 ^ 14 ∧ vy_O f m * 2 ^ 14 ≤ (vy_O (fun a => f a * 2 ^ 14 / n) m + m) * n := by
  intro m
  induction m with
  | zero => exact ⟨Nat.le_of_eq (Nat.zero_mul _ |>.trans (Nat.zero_mul _).symm), Nat.zero_le _ |> fun _ => by show 0 * 2 ^ 14 ≤ _; omega⟩
  | succ m ih =>
    have e1 : vy_O (fun a => f a * 2 ^ 14 / n) (m + 1) = vy_O (fun a => f a * 2 ^ 14 / n) m + f m * 2 ^ 14 / n := rfl
    have e2 : vy_O f (m + 1) = vy_O f m + f m := rfl
    have h1 := Nat.div_mul_le_self (f m * 2 ^ 14) n
    have h2 := Nat.lt_mul_div_succ (f m * 2 ^ 14) n0
    rw [e1, e2]
    generalize vy_O (fun a => f a * 2 ^ 14 / n) m = G at ih ⊢
    generalize vy_O f m = O at ih ⊢
    generalize f m * 2 ^ 14 / n = g at h1 h2 ⊢
    obtain ⟨i1, i2⟩ := ih
    refine ⟨?_, ?_⟩
    · rw [Nat.add_mul, Nat.add_mul]; omega
    · have e3 : (G + g + (m + 1)) * n = (G + m) * n + n * (g + 1) := by rw [Nat.mul_comm n, ← Nat.add_mul]; congr 1; omega
      rw [e3, Nat.add_mul O (f m) (2 ^ 14)]
      exact Nat.add_le_add i2 (Nat.le_of_lt h2)
theorem vz_cmp {c c2 : Nat} {q q2 : Int} {x y : UInt64} (hx : FP.Core.decode FP.Core.b64 x.toNat = .fin false c q) (hy : FP.Core.decode FP.Core.b64 y.toNat = .fin false c2 q2) : (c2 * 2 ^ (q2 - min q q2).toNat < c * 2 ^ (q - min q q2).toNat → FP.dcmp x y = some .gt) ∧ (c * 2 ^ (q - min q q2).toNat < c2 * 2 ^ (q2 - min q q2).toNat → FP.dcmp x y = some .lt) := by
  have e : FP.dcmp x y = some (compareOfLessAndEq ((c * 2 ^ (q - min q q2).toNat : Nat) : Int) ((c2 * 2 ^ (q2 - min q q2).toNat : Nat) : Int)) := by
    show FP.Core.order (FP.Core.decode FP.Core.b64 x.toNat) (FP.Core.decode FP.Core.b64 y.toNat) = _
    rw [hx, hy]
    rfl
  refine ⟨fun h => ?_, fun h => ?_⟩
  · rw [e]
    unfold compareOfLessAndEq
    rw [if_neg (by omega), if_neg (by omega)]
  · rw [e]
    unfold compareOfLessAndEq
    rw [if_pos (by omega)]
theorem vz_gt {x : UInt64} {g h : Nat} (hx : vz_d x g h) (hg : 16378 ≤ g) : FP.dcmp x (UInt64.ofNat 4607173411600762667) = some .gt := by
  obtain ⟨c, q, d1, ⟨o1, o2, o3, o4⟩, b1, b2, b3⟩ := hx
  have hy : FP.Core.decode FP.Core.b64 (UInt64.ofNat 4607173411600762667).toNat = .fin false 8998192055486251 (-53) := by decide +kernel
  refine (vz_cmp d1 hy).1 ?_
  obtain ⟨m, hm⟩ : ∃ m : Nat, min q (-53) = -53 - (m : Int) := ⟨(-53 - min q (-53)).toNat, by omega⟩
  rw [hm, show (-53 - (-53 - (m : Int))).toNat = m by omega]
  have e1 : (q - (-53 - (m : Int))).toNat + (-14 - q).toNat = m + 39 := by omega
  have h1 := Nat.mul_le_mul_right (2 ^ (q - (-53 - (m : Int))).toNat) b2
  rw [Nat.mul_assoc, ← Nat.pow_add, Nat.add_comm (-14 - q).toNat, e1, Nat.pow_add] at h1
  have h2 : 8998192055486251 * 2 ^ m < g * (2 ^ m * 2 ^ 39) := by
    have e3 : g * (2 ^ m * 2 ^ 39) = g * 549755813888 * 2 ^ m := by rw [show (2 : Nat) ^ 39 = 549755813888 by decide]; ac_rfl
    rw [e3]
    exact (Nat.mul_lt_mul_right (Nat.two_pow_pos _)).mpr (by omega)
  omega
theorem vz_lt {x : UInt64} {g h : Nat} (hx : vz_d x g h) (hh : h ≤ 16390) : FP.dcmp x (UInt64.ofNat 4607186922399644778) = some .lt := by
  obtain ⟨c, q, d1, ⟨o1, o2, o3, o4⟩, b1, b2, b3⟩ := hx
  have hy : FP.Core.decode FP.Core.b64 (UInt64.ofNat 4607186922399644778).toNat = .fin false 4508103226997866 (-52) := by decide +kernel
  refine (vz_cmp d1 hy).2 ?_
  obtain ⟨m, hm⟩ : ∃ m : Nat, min q (-52) = -52 - (m : Int) := ⟨(-52 - min q (-52)).toNat, by omega⟩
  rw [hm, show (-52 - (-52 - (m : Int))).toNat = m by omega]
  have e1 : (q - (-52 - (m : Int))).toNat + (-14 - q).toNat = m + 38 := by omega
  have h1 := Nat.mul_le_mul_right (2 ^ (q - (-52 - (m : Int))).toNat) b3
  rw [Nat.mul_assoc, ← Nat.pow_add, Nat.add_comm (-14 - q).toNat, e1, Nat.pow_add] at h1
  have h2 : h * (2 ^ m * 2 ^ 38) < 4508103226997866 * 2 ^ m := by
    have e3 : h * (2 ^ m * 2 ^ 38) = h * 274877906944 * 2 ^ m := by rw [show (2 : Nat) ^ 38 = 274877906944 by decide]; ac_rfl
    rw [e3]
    exact (Nat.mul_lt_mul_right (Nat.two_pow_pos _)).mpr (by omega)
  omega
end VW26
