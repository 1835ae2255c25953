/-! ===== what is asked ===== -/
section VW16
/-- what the writer i sees -/
def vx (σ : vw_S) (i k : Nat) : List Int := vq_vw σ (σ.1 0 i) (σ.1 0 i).length (-1) k
theorem vx_same {σ σ1 : vw_S} (h : vw_same σ σ1) (i : Nat) : vx σ1 i = vx σ i := by
  unfold vx
  rw [h.2 0 i (by unfold vw_sc; omega), vq_vw_same h]
theorem vx_see {σ σ0 σ1 : vw_S} {v i : Nat} (h : vw_same σ0 σ) (g : vq_rd σ v (σ.1 0 i) (σ.1 0 i).length (-1) σ1) : vw_same σ0 σ1 ∧ ∀ k, 15 ≤ k → k ≤ 21 → σ1.1 k v = vx σ0 i k :=
  ⟨h.trans g.same, fun k q0 q1 => (g.2.2 k q0 q1).trans (congrFun (vx_same h i) k)⟩
variable {L : Nat} {xs : Nat → Int32} {σ σ2 : vw_S} {Q : List Value → vw_S → Prop} {k pc a b c kk i : Nat} {lc : List (Option Value)} {sc : List Value} {fr : vj_F} {l l2 r12 r13 sh cs tx tx2 d d2 he od : List Int} {V : Nat → Nat → Int} {z y : Int}
theorem c_positionOfR (hc : vt_code k pc = (27, 45, b, c)) {v : Nat} (hv : v < 2) (h20 : σ.1 20 v = sh) (h15 : σ.1 15 v = cs) (z0 : -2147483648 ≤ z) (z1 : z < 2147483648) (hs : Nat.ble (vj_cat sc) 8 = true) (t : vW vw_rep L xs (k, pc + 3, lc, .int (jI (vp_pos sh cs z)) :: sc) σ Q) : vW vw_rep L xs (k, pc, lc, .int (jI z) :: .ref (vw_vr v) :: sc) σ Q := by
  subst h20; subst h15; exact c_positionOf hc hv z0 z1 hs t
theorem c_textCellR (hc : vt_code k pc = (29, 100, b, c)) {v : Nat} (hv : v < 2) (h16 : σ.1 16 v = tx) (z0 : 0 ≤ z) (z1 : z < tx.length) (hs : Nat.ble (vj_cat sc) 8 = true) (t : -2147483648 ≤ vl_at tx z → vl_at tx z < 2147483648 → vW vw_rep L xs (k, pc + 3, lc, .int (jI (vl_at tx z)) :: sc) σ Q) : vW vw_rep L xs (k, pc, lc, .int (jI z) :: .ref (vw_vr v) :: sc) σ Q := by
  subst h16; exact c_textCell hc hv z0 z1 hs t
theorem c_describeCellR (hc : vt_code k pc = (27, 115, b, c)) {v : Nat} (hv : v < 2) (hV : σ.2 = V) (h12 : σ.1 12 0 = r12) (h13 : σ.1 13 0 = r13) (h15 : σ.1 15 v = cs) (h20 : σ.1 20 v = sh) (z0 : -2147483648 ≤ z) (z1 : z < 2147483648) (hs : Nat.ble (vj_cat sc) 8 = true) (t : vW vw_rep L xs (k, pc + 3, lc, .int (jI (vy_desc V r12 r13 cs sh z)) :: sc) σ Q) : vW vw_rep L xs (k, pc, lc, .int (jI z) :: .ref (vw_vr v) :: .ref 8 :: sc) σ Q := by
  subst hV; subst h12; subst h13; subst h15; subst h20; exact c_describeCell hc hv z0 z1 hs t
theorem c_seenR (hc : vt_code k pc = (27, 114, b, c)) {v w i o : Nat} (hv : v < 2) (hw : w < 6) (hi : i < 6) (ho : o < 6) (hV : σ.2 = V) (h1 : σ.1 1 i = he) (h0 : σ.1 0 i = od) (h20 : σ.1 20 v = sh) (h15 : σ.1 15 v = cs) (hs : Nat.ble (vj_cat sc) 8 = true) (t : vW vw_rep L xs (k, pc + 3, lc, .int (jI (vy_seen V he od sh cs (w : Int) (o : Int))) :: sc) σ Q) : vW vw_rep L xs (k, pc, lc, .int (jI (o : Int)) :: .ref (vw_cr i) :: .int (jI (w : Int)) :: .ref (vw_vr v) :: .ref 8 :: sc) σ Q := by
  subst hV; subst h1; subst h0; subst h20; subst h15; exact c_seenPosition hc hv hw hi ho hs t
theorem c_wordsR (hc : vt_code k pc = (27, 116, b, c)) (hk : vw_ok kk i) (h12 : σ.1 12 0 = r12) (hr : σ.1 kk i = tx) (hs : Nat.ble (vj_cat sc) 8 = true) (t : vW vw_rep L xs (k, pc + 3, lc, .int (jI (vy_words r12 tx tx.length).1) :: sc) σ Q) : vW vw_rep L xs (k, pc, lc, .ref (vw_rr kk i) :: .ref 8 :: sc) σ Q := by
  subst h12; subst hr; exact c_countWords hc hk hs t
theorem c_sameR (hc : vt_code k pc = (27, 118, b, c)) (hV : σ.2 = V) (h12 : σ.1 12 0 = r12) (h13 : σ.1 13 0 = r13) (h16 : σ.1 16 0 = tx) (h16' : σ.1 16 1 = tx2) (h21 : σ.1 21 0 = d) (h21' : σ.1 21 1 = d2) (hs : Nat.ble (vj_cat sc) 8 = true) (h1 : vy_eq V r12 r13 tx tx2 d d2 → vW vw_rep L xs (k, pc + 3, lc, .int (jI 1) :: sc) σ Q) (h0 : ¬ vy_eq V r12 r13 tx tx2 d d2 → vW vw_rep L xs (k, pc + 3, lc, .int (jI 0) :: sc) σ Q) : vW vw_rep L xs (k, pc, lc, .ref (vw_vr 1) :: .ref (vw_vr 0) :: .ref 8 :: sc) σ Q := by
  subst hV; subst h12; subst h13; subst h16; subst h16'; subst h21; subst h21'; exact c_showTheSame hc hs h1 h0
theorem c_beyondR (hc : vt_code k pc = (27, 13, b, c)) {i i2 : Nat} (hi : i < 6) (hi2 : i2 < 6) (h1 : σ.1 1 i = l) (h2 : σ.1 1 i2 = l2) (hb : ∀ a : Nat, a < 6 → 0 ≤ vl_at l (a : Int) ∧ vl_at l (a : Int) ≤ 120) (hb2 : ∀ a : Nat, a < 6 → 0 ≤ vl_at l2 (a : Int) ∧ vl_at l2 (a : Int) ≤ 120) (hs : Nat.ble (vj_cat sc) 8 = true) (t : vW vw_rep L xs (k, pc + 3, lc, .int (jI (vk_bey l l2 6)) :: sc) σ Q) : vW vw_rep L xs (k, pc, lc, .ref (vw_cr i2) :: .ref (vw_cr i) :: sc) σ Q := by
  subst h1; subst h2; exact c_beyond hc hi hi2 hb hb2 hs t
theorem vk_bey_in {l l2 : List Int} (h : ∀ a : Nat, a < 6 → 0 ≤ vl_at l (a : Int) ∧ vl_at l (a : Int) ≤ 120) (h2 : ∀ a : Nat, a < 6 → 0 ≤ vl_at l2 (a : Int) ∧ vl_at l2 (a : Int) ≤ 120) : ∀ n : Nat, n ≤ 6 → (0 ≤ vk_bey l l2 n ∧ vk_bey l l2 n ≤ 120 * n) ∧ (vk_bey l l2 n = 0 ↔ ∀ a : Nat, a < n → vl_at l (a : Int) ≤ vl_at l2 (a : Int)) := by
  intro n
  induction n with
  | zero => intro _; exact ⟨⟨Int.le_refl _, Int.le_refl _⟩, fun _ a ha => absurd ha (Nat.not_lt_zero _), fun _ => rfl⟩
  | succ n ih =>
    intro hn
    obtain ⟨⟨i1, i2⟩, i3⟩ := ih (by omega)
    have e : vk_bey l l2 (n + 1) = vk_bey l l2 n + max 0 (vl_at l (n : Int) - vl_at l2 (n : Int)) := rfl
    have q1 := h n (by omega)
    have q2 := h2 n (by omega)
    refine ⟨by omega, fun g a ha => ?_, fun g => ?_⟩
    · by_cases q : a = n
      · subst q; omega
      · exact (i3.mp (by omega)) a (by omega)
    · have g1 := i3.mpr (fun a ha => g a (by omega))
      have g2 := g n (by omega)
      omega
theorem m_writers  (hQ :  Q [.int (jI (σ.2 0 0))] σ) : vW vw_rep L xs (63, 0, [some (.ref 8)], []) σ Q := by
  refine w1 vi63_0 rfl rfl ?_
  refine w14m (v := .int (jI ((σ.2 0 0)))) vi63_1  rfl ?_
  refine vW_nR (V := σ.2) rfl 0 (0) (fun _ _ => ?_)
  refine w42 vi63_4 vm63.2.2.2 ?_
  first | exact hQ | exact h1 (by assumption) | exact h0 (by assumption) | exact h1 (by omega) | exact h0 (by omega)
theorem c_writers (hc : vt_code k pc = (27, 63, b, c))  (hs : Nat.ble (vj_cat sc) 8 = true) (hQ :  vW vw_rep L xs (k, pc + 3, lc, .int (jI (σ.2 0 0)) :: sc) σ Q) : vW vw_rep L xs (k, pc, lc, .ref 8 :: sc) σ Q := by
  refine w27 (n := 1) (vs := [.ref 8]) hc vm63.2.1 rfl (by rw [vm63.2.2.1]; rfl) hs (by simp only [List.length_cons]; omega) ⟨_, rfl⟩ (fun M hM => hM.2.2.2.2.2.1) ⟨by omega, by omega⟩ vm63.1 ?_
  rw [vm63.2.2.1]
  exact m_writers  (Q := fun v σ1 => vW vw_rep L xs (k, pc + 3, lc, v ++ sc) σ1 Q) hQ
theorem m_deeds  (hQ :  Q [.int (jI (σ.2 1 0))] σ) : vW vw_rep L xs (65, 0, [some (.ref 8)], []) σ Q := by
  refine w1 vi65_0 rfl rfl ?_
  refine w14m (v := .ref 9) vi65_1  rfl ?_
  refine c_countDeedsR (z := (σ.2 1 0)) vi65_4 rfl rfl ?_
  refine w42 vi65_7 vm65.2.2.2 ?_
  first | exact hQ | exact h1 (by assumption) | exact h0 (by assumption) | exact h1 (by omega) | exact h0 (by omega)
theorem c_deeds (hc : vt_code k pc = (27, 65, b, c))  (hs : Nat.ble (vj_cat sc) 8 = true) (hQ :  vW vw_rep L xs (k, pc + 3, lc, .int (jI (σ.2 1 0)) :: sc) σ Q) : vW vw_rep L xs (k, pc, lc, .ref 8 :: sc) σ Q := by
  refine w27 (n := 1) (vs := [.ref 8]) hc vm65.2.1 rfl (by rw [vm65.2.2.1]; rfl) hs (by simp only [List.length_cons]; omega) ⟨_, rfl⟩ (fun M hM => hM.2.2.2.2.2.1) ⟨by omega, by omega⟩ vm65.1 ?_
  rw [vm65.2.2.1]
  exact m_deeds  (Q := fun v σ1 => vW vw_rep L xs (k, pc + 3, lc, v ++ sc) σ1 Q) hQ
theorem m_deedsOf {o : Nat} (ho : o < 6) (ho0 : (o : Int) < σ.2 0 0) (hQ :  Q [.int (jI (vl_at (σ.1 1 o) (o : Int)))] σ) : vW vw_rep L xs (66, 0, [some (.ref 8), some (.int (jI ((o : Int))))], []) σ Q := by
  refine w1 vi66_0 rfl rfl ?_
  refine w0 vi66_1 rfl rfl ?_
  refine c_copyThatCame vi66_2 (by first | omega | exact ve_ix_le _ | exact vk_lat_le _ _ _ _ | assumption) (by first | omega | exact ve_ix_le _ | exact vk_lat_le _ _ _ _ | assumption) rfl ?_
  refine w14c (v := .ref (vw_rr 1 o)) vi66_5 (by first | omega | exact ve_ix_le _ | exact vk_lat_le _ _ _ _ | assumption) rfl ?_
  refine w0 vi66_8 rfl rfl ?_
  refine r_at (l := (σ.1 1 o)) vi66_9 ⟨by decide, (show o < 6 by omega)⟩ (by first | rfl | (dsimp only; repeat (first | rw [vw_sr_eq] | rw [vw_sr_ne _ _ (by omega)]))) (by first | omega | exact ve_ix_le _ | exact vk_lat_le _ _ _ _ | assumption) (by first | omega | exact ve_ix_le _ | exact vk_lat_le _ _ _ _ | assumption) rfl (fun _ _ => ?_)
  refine w42 vi66_12 vm66.2.2.2 ?_
  first | exact hQ | exact h1 (by assumption) | exact h0 (by assumption) | exact h1 (by omega) | exact h0 (by omega)
theorem c_deedsOf (hc : vt_code k pc = (27, 66, b, c)) {o : Nat} (ho : o < 6) (ho0 : (o : Int) < σ.2 0 0) (hs : Nat.ble (vj_cat sc) 8 = true) (hQ :  vW vw_rep L xs (k, pc + 3, lc, .int (jI (vl_at (σ.1 1 o) (o : Int))) :: sc) σ Q) : vW vw_rep L xs (k, pc, lc, .int (jI ((o : Int))) :: .ref 8 :: sc) σ Q := by
  refine w27 (n := 2) (vs := [.int (jI ((o : Int))), .ref 8]) hc vm66.2.1 rfl (by rw [vm66.2.2.1]; rfl) hs (by simp only [List.length_cons]; omega) ⟨_, rfl⟩ (fun M hM => hM.2.2.2.2.2.1) ⟨by omega, by omega⟩ vm66.1 ?_
  rw [vm66.2.2.1]
  exact m_deedsOf ho ho0 (Q := fun v σ1 => vW vw_rep L xs (k, pc + 3, lc, v ++ sc) σ1 Q) hQ
theorem m_known {w : Nat} (hw : w < 6) (hc0 : (w : Int) < σ.2 0 0) (hp : σ.2 2 w = 1) (hQ :  Q [.int (jI (((σ.1 0 w).length : Int)))] σ) : vW vw_rep L xs (67, 0, [some (.ref 8), some (.int (jI ((w : Int))))], []) σ Q := by
  refine w1 vi67_0 rfl rfl ?_
  refine w0 vi67_1 rfl rfl ?_
  refine c_presentCopy vi67_2 (by first | omega | exact ve_ix_le _ | exact vk_lat_le _ _ _ _ | assumption) (by first | omega | exact ve_ix_le _ | exact vk_lat_le _ _ _ _ | assumption) (by first | omega | exact ve_ix_le _ | exact vk_lat_le _ _ _ _ | assumption) rfl ?_
  refine w14c (v := .ref (vw_rr 0 w)) vi67_5 (by first | omega | exact ve_ix_le _ | exact vk_lat_le _ _ _ _ | assumption) rfl ?_
  refine r_size (l := (σ.1 0 w)) vi67_8 ⟨by decide, (show w < 6 by omega)⟩ (by first | rfl | (dsimp only; repeat (first | rw [vw_sr_eq] | rw [vw_sr_ne _ _ (by omega)]))) rfl ?_
  refine w42 vi67_11 vm67.2.2.2 ?_
  first | exact hQ | exact h1 (by assumption) | exact h0 (by assumption) | exact h1 (by omega) | exact h0 (by omega)
theorem c_known (hc : vt_code k pc = (27, 67, b, c)) {w : Nat} (hw : w < 6) (hc0 : (w : Int) < σ.2 0 0) (hp : σ.2 2 w = 1) (hs : Nat.ble (vj_cat sc) 8 = true) (hQ :  vW vw_rep L xs (k, pc + 3, lc, .int (jI (((σ.1 0 w).length : Int))) :: sc) σ Q) : vW vw_rep L xs (k, pc, lc, .int (jI ((w : Int))) :: .ref 8 :: sc) σ Q := by
  refine w27 (n := 2) (vs := [.int (jI ((w : Int))), .ref 8]) hc vm67.2.1 rfl (by rw [vm67.2.2.1]; rfl) hs (by simp only [List.length_cons]; omega) ⟨_, rfl⟩ (fun M hM => hM.2.2.2.2.2.1) ⟨by omega, by omega⟩ vm67.1 ?_
  rw [vm67.2.2.1]
  exact m_known hw hc0 hp (Q := fun v σ1 => vW vw_rep L xs (k, pc + 3, lc, v ++ sc) σ1 Q) hQ
theorem m_knownOf {w : Nat} (hw : w < 6) (hc0 : (w : Int) < σ.2 0 0) (hp : σ.2 2 w = 1) {o : Nat} (ho : o < 6) (ho0 : (o : Int) < σ.2 0 0) (hQ :  Q [.int (jI (vl_at (σ.1 1 w) (o : Int)))] σ) : vW vw_rep L xs (68, 0, [some (.ref 8), some (.int (jI ((w : Int)))), some (.int (jI ((o : Int)))), none], []) σ Q := by
  refine w1 vi68_0 rfl rfl ?_
  refine w0 vi68_1 rfl rfl ?_
  refine c_presentCopy vi68_2 (by first | omega | exact ve_ix_le _ | exact vk_lat_le _ _ _ _ | assumption) (by first | omega | exact ve_ix_le _ | exact vk_lat_le _ _ _ _ | assumption) (by first | omega | exact ve_ix_le _ | exact vk_lat_le _ _ _ _ | assumption) rfl ?_
  refine w4 vi68_5 rfl rfl ?_
  refine w1 vi68_6 rfl rfl ?_
  refine w0 vi68_7 rfl rfl ?_
  refine c_copyThatCame vi68_8 (by first | omega | exact ve_ix_le _ | exact vk_lat_le _ _ _ _ | assumption) (by first | omega | exact ve_ix_le _ | exact vk_lat_le _ _ _ _ | assumption) rfl ?_
  refine w39 vi68_11 rfl ?_
  refine w1 vi68_12 rfl rfl ?_
  refine w14c (v := .ref (vw_rr 1 w)) vi68_13 (by first | omega | exact ve_ix_le _ | exact vk_lat_le _ _ _ _ | assumption) rfl ?_
  refine w0 vi68_16 rfl rfl ?_
  refine r_at (l := (σ.1 1 w)) vi68_17 ⟨by decide, (show w < 6 by omega)⟩ (by first | rfl | (dsimp only; repeat (first | rw [vw_sr_eq] | rw [vw_sr_ne _ _ (by omega)]))) (by first | omega | exact ve_ix_le _ | exact vk_lat_le _ _ _ _ | assumption) (by first | omega | exact ve_ix_le _ | exact vk_lat_le _ _ _ _ | assumption) rfl (fun _ _ => ?_)
  refine w42 vi68_20 vm68.2.2.2 ?_
  first | exact hQ | exact h1 (by assumption) | exact h0 (by assumption) | exact h1 (by omega) | exact h0 (by omega)
theorem c_knownOf (hc : vt_code k pc = (27, 68, b, c)) {w : Nat} (hw : w < 6) (hc0 : (w : Int) < σ.2 0 0) (hp : σ.2 2 w = 1) {o : Nat} (ho : o < 6) (ho0 : (o : Int) < σ.2 0 0) (hs : Nat.ble (vj_cat sc) 8 = true) (hQ :  vW vw_rep L xs (k, pc + 3, lc, .int (jI (vl_at (σ.1 1 w) (o : Int))) :: sc) σ Q) : vW vw_rep L xs (k, pc, lc, .int (jI ((o : Int))) :: .int (jI ((w : Int))) :: .ref 8 :: sc) σ Q := by
  refine w27 (n := 3) (vs := [.int (jI ((o : Int))), .int (jI ((w : Int))), .ref 8]) hc vm68.2.1 rfl (by rw [vm68.2.2.1]; rfl) hs (by simp only [List.length_cons]; omega) ⟨_, rfl⟩ (fun M hM => hM.2.2.2.2.2.1) ⟨by omega, by omega⟩ vm68.1 ?_
  rw [vm68.2.2.1]
  exact m_knownOf hw hc0 hp ho ho0 (Q := fun v σ1 => vW vw_rep L xs (k, pc + 3, lc, v ++ sc) σ1 Q) hQ
theorem m_inChannel {w : Nat} (hw : w < 6) (hc0 : (w : Int) < σ.2 0 0) (hp : σ.2 2 w = 1) {o : Nat} (ho : o < 6) (ho0 : (o : Int) < σ.2 0 0) (hop : σ.2 2 o = 1) (hne : ¬ w = o) (hQ :  Q [.int (jI (((σ.1 7 (w * 6 + o)).length : Int)))] σ) : vW vw_rep L xs (69, 0, [some (.ref 8), some (.int (jI ((w : Int)))), some (.int (jI ((o : Int))))], []) σ Q := by
  refine w1 vi69_0 rfl rfl ?_
  refine w0 vi69_1 rfl rfl ?_
  refine c_presentCopy vi69_2 (by first | omega | exact ve_ix_le _ | exact vk_lat_le _ _ _ _ | assumption) (by first | omega | exact ve_ix_le _ | exact vk_lat_le _ _ _ _ | assumption) (by first | omega | exact ve_ix_le _ | exact vk_lat_le _ _ _ _ | assumption) rfl ?_
  refine w39 vi69_5 rfl ?_
  refine w1 vi69_6 rfl rfl ?_
  refine w0 vi69_7 rfl rfl ?_
  refine c_presentCopy vi69_8 (by first | omega | exact ve_ix_le _ | exact vk_lat_le _ _ _ _ | assumption) (by first | omega | exact ve_ix_le _ | exact vk_lat_le _ _ _ _ | assumption) (by first | omega | exact ve_ix_le _ | exact vk_lat_le _ _ _ _ | assumption) rfl ?_
  refine w39 vi69_11 rfl ?_
  refine w0 vi69_12 rfl rfl ?_
  refine w0 vi69_13 rfl rfl ?_
  refine c_demandTwo vi69_14 (by first | omega | exact ve_ix_le _ | exact vk_lat_le _ _ _ _ | assumption) (by first | omega | exact ve_ix_le _ | exact vk_lat_le _ _ _ _ | assumption) (by first | omega | exact ve_ix_le _ | exact vk_lat_le _ _ _ _ | assumption) rfl ?_
  refine w1 vi69_17 rfl rfl ?_
  refine w0 vi69_18 rfl rfl ?_
  refine w0 vi69_19 rfl rfl ?_
  refine c_channelOf vi69_20 (by first | omega | exact ve_ix_le _ | exact vk_lat_le _ _ _ _ | assumption) (by first | omega | exact ve_ix_le _ | exact vk_lat_le _ _ _ _ | assumption) rfl ?_
  refine r_size (l := (σ.1 7 (w * 6 + o))) vi69_23 ⟨by decide, (show (w * 6 + o) < 36 by omega)⟩ (by first | rfl | (dsimp only; repeat (first | rw [vw_sr_eq] | rw [vw_sr_ne _ _ (by omega)]))) rfl ?_
  refine w42 vi69_26 vm69.2.2.2 ?_
  first | exact hQ | exact h1 (by assumption) | exact h0 (by assumption) | exact h1 (by omega) | exact h0 (by omega)
theorem c_inChannel (hc : vt_code k pc = (27, 69, b, c)) {w : Nat} (hw : w < 6) (hc0 : (w : Int) < σ.2 0 0) (hp : σ.2 2 w = 1) {o : Nat} (ho : o < 6) (ho0 : (o : Int) < σ.2 0 0) (hop : σ.2 2 o = 1) (hne : ¬ w = o) (hs : Nat.ble (vj_cat sc) 8 = true) (hQ :  vW vw_rep L xs (k, pc + 3, lc, .int (jI (((σ.1 7 (w * 6 + o)).length : Int))) :: sc) σ Q) : vW vw_rep L xs (k, pc, lc, .int (jI ((o : Int))) :: .int (jI ((w : Int))) :: .ref 8 :: sc) σ Q := by
  refine w27 (n := 3) (vs := [.int (jI ((o : Int))), .int (jI ((w : Int))), .ref 8]) hc vm69.2.1 rfl (by rw [vm69.2.2.1]; rfl) hs (by simp only [List.length_cons]; omega) ⟨_, rfl⟩ (fun M hM => hM.2.2.2.2.2.1) ⟨by omega, by omega⟩ vm69.1 ?_
  rw [vm69.2.2.1]
  exact m_inChannel hw hc0 hp ho ho0 hop hne (Q := fun v σ1 => vW vw_rep L xs (k, pc + 3, lc, v ++ sc) σ1 Q) hQ
theorem m_areCut {w : Nat} (hw : w < 6) (hc0 : (w : Int) < σ.2 0 0) (hp : σ.2 2 w = 1) {o : Nat} (ho : o < 6) (ho0 : (o : Int) < σ.2 0 0) (hop : σ.2 2 o = 1) (hne : ¬ w = o) (h1 : vl_at (σ.1 9 0) (min (w : Int) (o : Int) * 6 + max (w : Int) (o : Int)) = 1 → Q [.int (jI (1))] σ) (h0 : ¬ vl_at (σ.1 9 0) (min (w : Int) (o : Int) * 6 + max (w : Int) (o : Int)) = 1 → Q [.int (jI (0))] σ) : vW vw_rep L xs (70, 0, [some (.ref 8), some (.int (jI ((w : Int)))), some (.int (jI ((o : Int))))], []) σ Q := by
  refine w1 vi70_0 rfl rfl ?_
  refine w0 vi70_1 rfl rfl ?_
  refine c_presentCopy vi70_2 (by first | omega | exact ve_ix_le _ | exact vk_lat_le _ _ _ _ | assumption) (by first | omega | exact ve_ix_le _ | exact vk_lat_le _ _ _ _ | assumption) (by first | omega | exact ve_ix_le _ | exact vk_lat_le _ _ _ _ | assumption) rfl ?_
  refine w39 vi70_5 rfl ?_
  refine w1 vi70_6 rfl rfl ?_
  refine w0 vi70_7 rfl rfl ?_
  refine c_presentCopy vi70_8 (by first | omega | exact ve_ix_le _ | exact vk_lat_le _ _ _ _ | assumption) (by first | omega | exact ve_ix_le _ | exact vk_lat_le _ _ _ _ | assumption) (by first | omega | exact ve_ix_le _ | exact vk_lat_le _ _ _ _ | assumption) rfl ?_
  refine w39 vi70_11 rfl ?_
  refine w0 vi70_12 rfl rfl ?_
  refine w0 vi70_13 rfl rfl ?_
  refine c_demandTwo vi70_14 (by first | omega | exact ve_ix_le _ | exact vk_lat_le _ _ _ _ | assumption) (by first | omega | exact ve_ix_le _ | exact vk_lat_le _ _ _ _ | assumption) (by first | omega | exact ve_ix_le _ | exact vk_lat_le _ _ _ _ | assumption) rfl ?_
  refine w1 vi70_17 rfl rfl ?_
  refine w0 vi70_18 rfl rfl ?_
  refine w0 vi70_19 rfl rfl ?_
  refine c_isCutPair vi70_20 (by first | omega | exact ve_ix_le _ | exact vk_lat_le _ _ _ _ | exact ⟨by decide, by decide⟩ | exact ⟨by decide, by assumption⟩ | exact ⟨by decide, Nat.lt_succ_of_le (by first | exact ve_ix_le _ | exact vk_lat_le _ _ _ _ | assumption)⟩ | assumption) (by first | omega | exact ve_ix_le _ | exact vk_lat_le _ _ _ _ | exact ⟨by decide, by decide⟩ | exact ⟨by decide, by assumption⟩ | exact ⟨by decide, Nat.lt_succ_of_le (by first | exact ve_ix_le _ | exact vk_lat_le _ _ _ _ | assumption)⟩ | assumption) rfl (fun hb20 => ?_) (fun hb20 => ?_)
  ·
    refine w42b vi70_23 vm70.2.2.2 (by first | exact Or.inl rfl | exact Or.inr rfl | omega) ?_
    first | exact h1 (by assumption) | exact h0 (by assumption)
  ·
    refine w42b vi70_23 vm70.2.2.2 (by first | exact Or.inl rfl | exact Or.inr rfl | omega) ?_
    first | exact h1 (by assumption) | exact h0 (by assumption)
theorem c_areCut (hc : vt_code k pc = (27, 70, b, c)) {w : Nat} (hw : w < 6) (hc0 : (w : Int) < σ.2 0 0) (hp : σ.2 2 w = 1) {o : Nat} (ho : o < 6) (ho0 : (o : Int) < σ.2 0 0) (hop : σ.2 2 o = 1) (hne : ¬ w = o) (hs : Nat.ble (vj_cat sc) 8 = true) (h1 : vl_at (σ.1 9 0) (min (w : Int) (o : Int) * 6 + max (w : Int) (o : Int)) = 1 → vW vw_rep L xs (k, pc + 3, lc, .int (jI (1)) :: sc) σ Q) (h0 : ¬ vl_at (σ.1 9 0) (min (w : Int) (o : Int) * 6 + max (w : Int) (o : Int)) = 1 → vW vw_rep L xs (k, pc + 3, lc, .int (jI (0)) :: sc) σ Q) : vW vw_rep L xs (k, pc, lc, .int (jI ((o : Int))) :: .int (jI ((w : Int))) :: .ref 8 :: sc) σ Q := by
  refine w27 (n := 3) (vs := [.int (jI ((o : Int))), .int (jI ((w : Int))), .ref 8]) hc vm70.2.1 rfl (by rw [vm70.2.2.1]; rfl) hs (by simp only [List.length_cons]; omega) ⟨_, rfl⟩ (fun M hM => hM.2.2.2.2.2.1) ⟨by omega, by omega⟩ vm70.1 ?_
  rw [vm70.2.2.1]
  exact m_areCut hw hc0 hp ho ho0 hop hne (Q := fun v σ1 => vW vw_rep L xs (k, pc + 3, lc, v ++ sc) σ1 Q) h1 h0
theorem m_missing {w : Nat} (hw : w < 6) (hc0 : (w : Int) < σ.2 0 0) (hp : σ.2 2 w = 1) {o : Nat} (ho : o < 6) (ho0 : (o : Int) < σ.2 0 0) (hop : σ.2 2 o = 1) (hb : ∀ i : Nat, i < 6 → ∀ a : Nat, a < 6 → 0 ≤ vl_at (σ.1 1 i) (a : Int) ∧ vl_at (σ.1 1 i) (a : Int) ≤ 120) (hQ :  Q [.int (jI (vk_bey (σ.1 1 w) (σ.1 1 o) 6))] σ) : vW vw_rep L xs (71, 0, [some (.ref 8), some (.int (jI ((w : Int)))), some (.int (jI ((o : Int)))), none, none], []) σ Q := by
  refine w1 vi71_0 rfl rfl ?_
  refine w0 vi71_1 rfl rfl ?_
  refine c_presentCopy vi71_2 (by first | omega | exact ve_ix_le _ | exact vk_lat_le _ _ _ _ | assumption) (by first | omega | exact ve_ix_le _ | exact vk_lat_le _ _ _ _ | assumption) (by first | omega | exact ve_ix_le _ | exact vk_lat_le _ _ _ _ | assumption) rfl ?_
  refine w4 vi71_5 rfl rfl ?_
  refine w1 vi71_6 rfl rfl ?_
  refine w0 vi71_7 rfl rfl ?_
  refine c_presentCopy vi71_8 (by first | omega | exact ve_ix_le _ | exact vk_lat_le _ _ _ _ | assumption) (by first | omega | exact ve_ix_le _ | exact vk_lat_le _ _ _ _ | assumption) (by first | omega | exact ve_ix_le _ | exact vk_lat_le _ _ _ _ | assumption) rfl ?_
  refine w4 vi71_11 rfl rfl ?_
  refine w1 vi71_13 rfl rfl ?_
  refine w1 vi71_14 rfl rfl ?_
  have hbey16 := vk_bey_in (hb w (by first | omega | exact ve_ix_le _ | exact vk_lat_le _ _ _ _ | assumption)) (hb o (by first | omega | exact ve_ix_le _ | exact vk_lat_le _ _ _ _ | assumption)) 6 (Nat.le_refl _)
  refine c_beyondR vi71_16 (by first | omega | exact ve_ix_le _ | exact vk_lat_le _ _ _ _ | assumption) (by first | omega | exact ve_ix_le _ | exact vk_lat_le _ _ _ _ | assumption) (by first | rfl | (dsimp only; repeat (first | rw [vw_sr_eq] | rw [vw_sr_ne _ _ (by omega)]))) (by first | rfl | (dsimp only; repeat (first | rw [vw_sr_eq] | rw [vw_sr_ne _ _ (by omega)]))) (hb _ (by first | omega | exact ve_ix_le _ | exact vk_lat_le _ _ _ _ | assumption)) (hb _ (by first | omega | exact ve_ix_le _ | exact vk_lat_le _ _ _ _ | assumption)) rfl ?_
  refine w42 vi71_19 vm71.2.2.2 ?_
  first | exact hQ | exact h1 (by assumption) | exact h0 (by assumption) | exact h1 (by omega) | exact h0 (by omega)
theorem c_missing (hc : vt_code k pc = (27, 71, b, c)) {w : Nat} (hw : w < 6) (hc0 : (w : Int) < σ.2 0 0) (hp : σ.2 2 w = 1) {o : Nat} (ho : o < 6) (ho0 : (o : Int) < σ.2 0 0) (hop : σ.2 2 o = 1) (hb : ∀ i : Nat, i < 6 → ∀ a : Nat, a < 6 → 0 ≤ vl_at (σ.1 1 i) (a : Int) ∧ vl_at (σ.1 1 i) (a : Int) ≤ 120) (hs : Nat.ble (vj_cat sc) 8 = true) (hQ :  vW vw_rep L xs (k, pc + 3, lc, .int (jI (vk_bey (σ.1 1 w) (σ.1 1 o) 6)) :: sc) σ Q) : vW vw_rep L xs (k, pc, lc, .int (jI ((o : Int))) :: .int (jI ((w : Int))) :: .ref 8 :: sc) σ Q := by
  refine w27 (n := 3) (vs := [.int (jI ((o : Int))), .int (jI ((w : Int))), .ref 8]) hc vm71.2.1 rfl (by rw [vm71.2.2.1]; rfl) hs (by simp only [List.length_cons]; omega) ⟨_, rfl⟩ (fun M hM => hM.2.2.2.2.2.1) ⟨by omega, by omega⟩ vm71.1 ?_
  rw [vm71.2.2.1]
  exact m_missing hw hc0 hp ho ho0 hop hb (Q := fun v σ1 => vW vw_rep L xs (k, pc + 3, lc, v ++ sc) σ1 Q) hQ
theorem m_undoable {w : Nat} (hw : w < 6) (hc0 : (w : Int) < σ.2 0 0) (hp : σ.2 2 w = 1) (hQ :  Q [.int (jI (((σ.1 3 w).length : Int)))] σ) : vW vw_rep L xs (73, 0, [some (.ref 8), some (.int (jI ((w : Int))))], []) σ Q := by
  refine w1 vi73_0 rfl rfl ?_
  refine w0 vi73_1 rfl rfl ?_
  refine c_presentCopy vi73_2 (by first | omega | exact ve_ix_le _ | exact vk_lat_le _ _ _ _ | assumption) (by first | omega | exact ve_ix_le _ | exact vk_lat_le _ _ _ _ | assumption) (by first | omega | exact ve_ix_le _ | exact vk_lat_le _ _ _ _ | assumption) rfl ?_
  refine w14c (v := .ref (vw_rr 3 w)) vi73_5 (by first | omega | exact ve_ix_le _ | exact vk_lat_le _ _ _ _ | assumption) rfl ?_
  refine r_size (l := (σ.1 3 w)) vi73_8 ⟨by decide, (show w < 6 by omega)⟩ (by first | rfl | (dsimp only; repeat (first | rw [vw_sr_eq] | rw [vw_sr_ne _ _ (by omega)]))) rfl ?_
  refine w42 vi73_11 vm73.2.2.2 ?_
  first | exact hQ | exact h1 (by assumption) | exact h0 (by assumption) | exact h1 (by omega) | exact h0 (by omega)
theorem c_undoable (hc : vt_code k pc = (27, 73, b, c)) {w : Nat} (hw : w < 6) (hc0 : (w : Int) < σ.2 0 0) (hp : σ.2 2 w = 1) (hs : Nat.ble (vj_cat sc) 8 = true) (hQ :  vW vw_rep L xs (k, pc + 3, lc, .int (jI (((σ.1 3 w).length : Int))) :: sc) σ Q) : vW vw_rep L xs (k, pc, lc, .int (jI ((w : Int))) :: .ref 8 :: sc) σ Q := by
  refine w27 (n := 2) (vs := [.int (jI ((w : Int))), .ref 8]) hc vm73.2.1 rfl (by rw [vm73.2.2.1]; rfl) hs (by simp only [List.length_cons]; omega) ⟨_, rfl⟩ (fun M hM => hM.2.2.2.2.2.1) ⟨by omega, by omega⟩ vm73.1 ?_
  rw [vm73.2.2.1]
  exact m_undoable hw hc0 hp (Q := fun v σ1 => vW vw_rep L xs (k, pc + 3, lc, v ++ sc) σ1 Q) hQ
theorem m_redoable {w : Nat} (hw : w < 6) (hc0 : (w : Int) < σ.2 0 0) (hp : σ.2 2 w = 1) (hQ :  Q [.int (jI (((σ.1 4 w).length : Int)))] σ) : vW vw_rep L xs (74, 0, [some (.ref 8), some (.int (jI ((w : Int))))], []) σ Q := by
  refine w1 vi74_0 rfl rfl ?_
  refine w0 vi74_1 rfl rfl ?_
  refine c_presentCopy vi74_2 (by first | omega | exact ve_ix_le _ | exact vk_lat_le _ _ _ _ | assumption) (by first | omega | exact ve_ix_le _ | exact vk_lat_le _ _ _ _ | assumption) (by first | omega | exact ve_ix_le _ | exact vk_lat_le _ _ _ _ | assumption) rfl ?_
  refine w14c (v := .ref (vw_rr 4 w)) vi74_5 (by first | omega | exact ve_ix_le _ | exact vk_lat_le _ _ _ _ | assumption) rfl ?_
  refine r_size (l := (σ.1 4 w)) vi74_8 ⟨by decide, (show w < 6 by omega)⟩ (by first | rfl | (dsimp only; repeat (first | rw [vw_sr_eq] | rw [vw_sr_ne _ _ (by omega)]))) rfl ?_
  refine w42 vi74_11 vm74.2.2.2 ?_
  first | exact hQ | exact h1 (by assumption) | exact h0 (by assumption) | exact h1 (by omega) | exact h0 (by omega)
theorem c_redoable (hc : vt_code k pc = (27, 74, b, c)) {w : Nat} (hw : w < 6) (hc0 : (w : Int) < σ.2 0 0) (hp : σ.2 2 w = 1) (hs : Nat.ble (vj_cat sc) 8 = true) (hQ :  vW vw_rep L xs (k, pc + 3, lc, .int (jI (((σ.1 4 w).length : Int))) :: sc) σ Q) : vW vw_rep L xs (k, pc, lc, .int (jI ((w : Int))) :: .ref 8 :: sc) σ Q := by
  refine w27 (n := 2) (vs := [.int (jI ((w : Int))), .ref 8]) hc vm74.2.1 rfl (by rw [vm74.2.2.1]; rfl) hs (by simp only [List.length_cons]; omega) ⟨_, rfl⟩ (fun M hM => hM.2.2.2.2.2.1) ⟨by omega, by omega⟩ vm74.1 ?_
  rw [vm74.2.2.1]
  exact m_redoable hw hc0 hp (Q := fun v σ1 => vW vw_rep L xs (k, pc + 3, lc, v ++ sc) σ1 Q) hQ
theorem m_caret {w : Nat} (hw : w < 6) (hc0 : (w : Int) < σ.2 0 0) (hp : σ.2 2 w = 1) (n0 : 0 ≤ σ.2 1 0) (n1 : σ.2 1 0 ≤ 120) (hQ : ∀ σ', vw_same σ σ' → Q [.int (jI (vp_pos (vx σ w 20) (vx σ w 15) (σ.2 3 w)))] σ') : vW vw_rep L xs (75, 0, [some (.ref 8), some (.int (jI ((w : Int)))), none], []) σ Q := by
  refine w1 vi75_0 rfl rfl ?_
  refine w0 vi75_1 rfl rfl ?_
  refine c_presentCopy vi75_2 (by first | omega | exact ve_ix_le _ | exact vk_lat_le _ _ _ _ | assumption) (by first | omega | exact ve_ix_le _ | exact vk_lat_le _ _ _ _ | assumption) (by first | omega | exact ve_ix_le _ | exact vk_lat_le _ _ _ _ | assumption) rfl ?_
  refine w4 vi75_5 rfl rfl ?_
  refine w1 vi75_6 rfl rfl ?_
  refine w1 vi75_7 rfl rfl ?_
  refine c_see vi75_8 (by first | omega | exact ve_ix_le _ | exact vk_lat_le _ _ _ _ | assumption) n0 n1 rfl (fun σ1 g1 => ?_)
  obtain ⟨s1, e1⟩ := vx_see (vw_same.refl σ) g1
  refine w1 vi75_11 rfl rfl ?_
  refine w14c (v := .int (jI ((σ.2 3 w)))) vi75_12 (by first | omega | exact ve_ix_le _ | exact vk_lat_le _ _ _ _ | assumption) (by rw [s1.1]; rfl) ?_
  refine vW_nR (V := σ.2) s1.1 3 (w) (fun _ _ => ?_)
  refine c_positionOfR vi75_15 (by first | omega | exact ve_ix_le _ | exact vk_lat_le _ _ _ _ | assumption) (e1 20 (by decide) (by decide)) (e1 15 (by decide) (by decide)) (by first | omega | exact ve_ix_le _ | exact vk_lat_le _ _ _ _ | assumption) (by first | omega | exact ve_ix_le _ | exact vk_lat_le _ _ _ _ | assumption) rfl ?_
  refine w42 vi75_18 vm75.2.2.2 ?_
  exact hQ σ1 s1
theorem c_caret (hc : vt_code k pc = (27, 75, b, c)) {w : Nat} (hw : w < 6) (hc0 : (w : Int) < σ.2 0 0) (hp : σ.2 2 w = 1) (n0 : 0 ≤ σ.2 1 0) (n1 : σ.2 1 0 ≤ 120) (hs : Nat.ble (vj_cat sc) 8 = true) (hQ : ∀ σ', vw_same σ σ' → vW vw_rep L xs (k, pc + 3, lc, .int (jI (vp_pos (vx σ w 20) (vx σ w 15) (σ.2 3 w))) :: sc) σ' Q) : vW vw_rep L xs (k, pc, lc, .int (jI ((w : Int))) :: .ref 8 :: sc) σ Q := by
  refine w27 (n := 2) (vs := [.int (jI ((w : Int))), .ref 8]) hc vm75.2.1 rfl (by rw [vm75.2.2.1]; rfl) hs (by simp only [List.length_cons]; omega) ⟨_, rfl⟩ (fun M hM => hM.2.2.2.2.2.1) ⟨by omega, by omega⟩ vm75.1 ?_
  rw [vm75.2.2.1]
  exact m_caret hw hc0 hp n0 n1 (Q := fun v σ1 => vW vw_rep L xs (k, pc + 3, lc, v ++ sc) σ1 Q) hQ
theorem m_caretSeen {w : Nat} (hw : w < 6) (hc0 : (w : Int) < σ.2 0 0) (hp : σ.2 2 w = 1) {o : Nat} (ho : o < 6) (ho0 : (o : Int) < σ.2 0 0) (n0 : 0 ≤ σ.2 1 0) (n1 : σ.2 1 0 ≤ 120) (hQ : ∀ σ', vw_same σ σ' → Q [.int (jI (vy_seen σ.2 (σ.1 1 w) (σ.1 0 w) (vx σ w 20) (vx σ w 15) (w : Int) (o : Int)))] σ') : vW vw_rep L xs (76, 0, [some (.ref 8), some (.int (jI ((w : Int)))), some (.int (jI ((o : Int)))), none], []) σ Q := by
  refine w1 vi76_0 rfl rfl ?_
  refine w0 vi76_1 rfl rfl ?_
  refine c_presentCopy vi76_2 (by first | omega | exact ve_ix_le _ | exact vk_lat_le _ _ _ _ | assumption) (by first | omega | exact ve_ix_le _ | exact vk_lat_le _ _ _ _ | assumption) (by first | omega | exact ve_ix_le _ | exact vk_lat_le _ _ _ _ | assumption) rfl ?_
  refine w4 vi76_5 rfl rfl ?_
  refine w1 vi76_6 rfl rfl ?_
  refine w0 vi76_7 rfl rfl ?_
  refine c_copyThatCame vi76_8 (by first | omega | exact ve_ix_le _ | exact vk_lat_le _ _ _ _ | assumption) (by first | omega | exact ve_ix_le _ | exact vk_lat_le _ _ _ _ | assumption) rfl ?_
  refine w39 vi76_11 rfl ?_
  refine w1 vi76_12 rfl rfl ?_
  refine w1 vi76_13 rfl rfl ?_
  refine w1 vi76_14 rfl rfl ?_
  refine c_see vi76_15 (by first | omega | exact ve_ix_le _ | exact vk_lat_le _ _ _ _ | assumption) n0 n1 rfl (fun σ1 g1 => ?_)
  obtain ⟨s1, e1⟩ := vx_see (vw_same.refl σ) g1
  refine w0 vi76_18 rfl rfl ?_
  refine w1 vi76_19 rfl rfl ?_
  refine w0 vi76_20 rfl rfl ?_
  refine c_seenR vi76_21 (by first | omega | exact ve_ix_le _ | exact vk_lat_le _ _ _ _ | assumption) (by first | omega | exact ve_ix_le _ | exact vk_lat_le _ _ _ _ | assumption) (by first | omega | exact ve_ix_le _ | exact vk_lat_le _ _ _ _ | assumption) (by first | omega | exact ve_ix_le _ | exact vk_lat_le _ _ _ _ | assumption) s1.1 (s1.2 1 w (by unfold vw_sc; omega)) (s1.2 0 w (by unfold vw_sc; omega)) (e1 20 (by decide) (by decide)) (e1 15 (by decide) (by decide)) rfl ?_
  refine w42 vi76_24 vm76.2.2.2 ?_
  exact hQ σ1 s1
theorem c_caretSeen (hc : vt_code k pc = (27, 76, b, c)) {w : Nat} (hw : w < 6) (hc0 : (w : Int) < σ.2 0 0) (hp : σ.2 2 w = 1) {o : Nat} (ho : o < 6) (ho0 : (o : Int) < σ.2 0 0) (n0 : 0 ≤ σ.2 1 0) (n1 : σ.2 1 0 ≤ 120) (hs : Nat.ble (vj_cat sc) 8 = true) (hQ : ∀ σ', vw_same σ σ' → vW vw_rep L xs (k, pc + 3, lc, .int (jI (vy_seen σ.2 (σ.1 1 w) (σ.1 0 w) (vx σ w 20) (vx σ w 15) (w : Int) (o : Int))) :: sc) σ' Q) : vW vw_rep L xs (k, pc, lc, .int (jI ((o : Int))) :: .int (jI ((w : Int))) :: .ref 8 :: sc) σ Q := by
  refine w27 (n := 3) (vs := [.int (jI ((o : Int))), .int (jI ((w : Int))), .ref 8]) hc vm76.2.1 rfl (by rw [vm76.2.2.1]; rfl) hs (by simp only [List.length_cons]; omega) ⟨_, rfl⟩ (fun M hM => hM.2.2.2.2.2.1) ⟨by omega, by omega⟩ vm76.1 ?_
  rw [vm76.2.2.1]
  exact m_caretSeen hw hc0 hp ho ho0 n0 n1 (Q := fun v σ1 => vW vw_rep L xs (k, pc + 3, lc, v ++ sc) σ1 Q) hQ
theorem m_length {w : Nat} (hw : w < 6) (hc0 : (w : Int) < σ.2 0 0) (hp : σ.2 2 w = 1) (n0 : 0 ≤ σ.2 1 0) (n1 : σ.2 1 0 ≤ 120) (hQ : ∀ σ', vw_same σ σ' → Q [.int (jI (((vx σ w 16).length : Int)))] σ') : vW vw_rep L xs (77, 0, [some (.ref 8), some (.int (jI ((w : Int))))], []) σ Q := by
  refine w1 vi77_0 rfl rfl ?_
  refine w1 vi77_1 rfl rfl ?_
  refine w0 vi77_2 rfl rfl ?_
  refine c_presentCopy vi77_3 (by first | omega | exact ve_ix_le _ | exact vk_lat_le _ _ _ _ | assumption) (by first | omega | exact ve_ix_le _ | exact vk_lat_le _ _ _ _ | assumption) (by first | omega | exact ve_ix_le _ | exact vk_lat_le _ _ _ _ | assumption) rfl ?_
  refine c_see vi77_6 (by first | omega | exact ve_ix_le _ | exact vk_lat_le _ _ _ _ | assumption) n0 n1 rfl (fun σ1 g1 => ?_)
  obtain ⟨s1, e1⟩ := vx_see (vw_same.refl σ) g1
  refine w14v (v := .ref (vw_rr 16 0)) vi77_9 (by first | omega | exact ve_ix_le _ | exact vk_lat_le _ _ _ _ | assumption) rfl ?_
  refine r_size (l := (vx σ w 16)) vi77_12 ⟨by decide, (show 0 < 2 by omega)⟩ (e1 16 (by decide) (by decide)) rfl ?_
  refine w42 vi77_15 vm77.2.2.2 ?_
  exact hQ σ1 s1
theorem c_length (hc : vt_code k pc = (27, 77, b, c)) {w : Nat} (hw : w < 6) (hc0 : (w : Int) < σ.2 0 0) (hp : σ.2 2 w = 1) (n0 : 0 ≤ σ.2 1 0) (n1 : σ.2 1 0 ≤ 120) (hs : Nat.ble (vj_cat sc) 8 = true) (hQ : ∀ σ', vw_same σ σ' → vW vw_rep L xs (k, pc + 3, lc, .int (jI (((vx σ w 16).length : Int))) :: sc) σ' Q) : vW vw_rep L xs (k, pc, lc, .int (jI ((w : Int))) :: .ref 8 :: sc) σ Q := by
  refine w27 (n := 2) (vs := [.int (jI ((w : Int))), .ref 8]) hc vm77.2.1 rfl (by rw [vm77.2.2.1]; rfl) hs (by simp only [List.length_cons]; omega) ⟨_, rfl⟩ (fun M hM => hM.2.2.2.2.2.1) ⟨by omega, by omega⟩ vm77.1 ?_
  rw [vm77.2.2.1]
  exact m_length hw hc0 hp n0 n1 (Q := fun v σ1 => vW vw_rep L xs (k, pc + 3, lc, v ++ sc) σ1 Q) hQ
theorem m_cellsOf {w : Nat} (hw : w < 6) (hc0 : (w : Int) < σ.2 0 0) (hp : σ.2 2 w = 1) (n0 : 0 ≤ σ.2 1 0) (n1 : σ.2 1 0 ≤ 120) (hQ : ∀ σ', vw_same σ σ' → Q [.int (jI (((vx σ w 15).length : Int)))] σ') : vW vw_rep L xs (78, 0, [some (.ref 8), some (.int (jI ((w : Int))))], []) σ Q := by
  refine w1 vi78_0 rfl rfl ?_
  refine w1 vi78_1 rfl rfl ?_
  refine w0 vi78_2 rfl rfl ?_
  refine c_presentCopy vi78_3 (by first | omega | exact ve_ix_le _ | exact vk_lat_le _ _ _ _ | assumption) (by first | omega | exact ve_ix_le _ | exact vk_lat_le _ _ _ _ | assumption) (by first | omega | exact ve_ix_le _ | exact vk_lat_le _ _ _ _ | assumption) rfl ?_
  refine c_see vi78_6 (by first | omega | exact ve_ix_le _ | exact vk_lat_le _ _ _ _ | assumption) n0 n1 rfl (fun σ1 g1 => ?_)
  obtain ⟨s1, e1⟩ := vx_see (vw_same.refl σ) g1
  refine w14v (v := .ref (vw_rr 15 0)) vi78_9 (by first | omega | exact ve_ix_le _ | exact vk_lat_le _ _ _ _ | assumption) rfl ?_
  refine r_size (l := (vx σ w 15)) vi78_12 ⟨by decide, (show 0 < 2 by omega)⟩ (e1 15 (by decide) (by decide)) rfl ?_
  refine w42 vi78_15 vm78.2.2.2 ?_
  exact hQ σ1 s1
theorem c_cellsOf (hc : vt_code k pc = (27, 78, b, c)) {w : Nat} (hw : w < 6) (hc0 : (w : Int) < σ.2 0 0) (hp : σ.2 2 w = 1) (n0 : 0 ≤ σ.2 1 0) (n1 : σ.2 1 0 ≤ 120) (hs : Nat.ble (vj_cat sc) 8 = true) (hQ : ∀ σ', vw_same σ σ' → vW vw_rep L xs (k, pc + 3, lc, .int (jI (((vx σ w 15).length : Int))) :: sc) σ' Q) : vW vw_rep L xs (k, pc, lc, .int (jI ((w : Int))) :: .ref 8 :: sc) σ Q := by
  refine w27 (n := 2) (vs := [.int (jI ((w : Int))), .ref 8]) hc vm78.2.1 rfl (by rw [vm78.2.2.1]; rfl) hs (by simp only [List.length_cons]; omega) ⟨_, rfl⟩ (fun M hM => hM.2.2.2.2.2.1) ⟨by omega, by omega⟩ vm78.1 ?_
  rw [vm78.2.2.1]
  exact m_cellsOf hw hc0 hp n0 n1 (Q := fun v σ1 => vW vw_rep L xs (k, pc + 3, lc, v ++ sc) σ1 Q) hQ
theorem m_letterAt {w : Nat} (hw : w < 6) (hc0 : (w : Int) < σ.2 0 0) (hp : σ.2 2 w = 1) (n0 : 0 ≤ σ.2 1 0) (n1 : σ.2 1 0 ≤ 120) {z : Int} (z0 : 0 ≤ z) (z1 : z < (vx σ w 16).length) (hQ : ∀ σ', vw_same σ σ' → Q [.int (jI (vl_at (σ.1 12 0) (vl_at (vx σ w 16) z)))] σ') : vW vw_rep L xs (79, 0, [some (.ref 8), some (.int (jI ((w : Int)))), some (.int (jI (z))), none], []) σ Q := by
  refine w1 vi79_0 rfl rfl ?_
  refine w1 vi79_1 rfl rfl ?_
  refine w0 vi79_2 rfl rfl ?_
  refine c_presentCopy vi79_3 (by first | omega | exact ve_ix_le _ | exact vk_lat_le _ _ _ _ | assumption) (by first | omega | exact ve_ix_le _ | exact vk_lat_le _ _ _ _ | assumption) (by first | omega | exact ve_ix_le _ | exact vk_lat_le _ _ _ _ | assumption) rfl ?_
  refine c_see vi79_6 (by first | omega | exact ve_ix_le _ | exact vk_lat_le _ _ _ _ | assumption) n0 n1 rfl (fun σ1 g1 => ?_)
  obtain ⟨s1, e1⟩ := vx_see (vw_same.refl σ) g1
  refine w4 vi79_9 rfl rfl ?_
  refine w1 vi79_10 rfl rfl ?_
  refine w14m (v := .ref 9) vi79_11  rfl ?_
  refine w1 vi79_14 rfl rfl ?_
  refine w0 vi79_15 rfl rfl ?_
  refine c_textCellR vi79_16 (by first | omega | exact ve_ix_le _ | exact vk_lat_le _ _ _ _ | assumption) (e1 16 (by decide) (by decide)) (by first | omega | exact ve_ix_le _ | exact vk_lat_le _ _ _ _ | assumption) (by first | omega | exact ve_ix_le _ | exact vk_lat_le _ _ _ _ | assumption) rfl (fun _ _ => ?_)
  refine c_letterOfR (l := (σ.1 12 0)) vi79_19 (s1.2 12 0 (by unfold vw_sc; omega)) (by first | omega | exact ve_ix_le _ | exact vk_lat_le _ _ _ _ | assumption) (by first | omega | exact ve_ix_le _ | exact vk_lat_le _ _ _ _ | assumption) rfl (fun _ _ => ?_)
  refine w42 vi79_22 vm79.2.2.2 ?_
  exact hQ σ1 s1
theorem c_letterAt (hc : vt_code k pc = (27, 79, b, c)) {w : Nat} (hw : w < 6) (hc0 : (w : Int) < σ.2 0 0) (hp : σ.2 2 w = 1) (n0 : 0 ≤ σ.2 1 0) (n1 : σ.2 1 0 ≤ 120) {z : Int} (z0 : 0 ≤ z) (z1 : z < (vx σ w 16).length) (hs : Nat.ble (vj_cat sc) 8 = true) (hQ : ∀ σ', vw_same σ σ' → vW vw_rep L xs (k, pc + 3, lc, .int (jI (vl_at (σ.1 12 0) (vl_at (vx σ w 16) z))) :: sc) σ' Q) : vW vw_rep L xs (k, pc, lc, .int (jI (z)) :: .int (jI ((w : Int))) :: .ref 8 :: sc) σ Q := by
  refine w27 (n := 3) (vs := [.int (jI (z)), .int (jI ((w : Int))), .ref 8]) hc vm79.2.1 rfl (by rw [vm79.2.2.1]; rfl) hs (by simp only [List.length_cons]; omega) ⟨_, rfl⟩ (fun M hM => hM.2.2.2.2.2.1) ⟨by omega, by omega⟩ vm79.1 ?_
  rw [vm79.2.2.1]
  exact m_letterAt hw hc0 hp n0 n1 z0 z1 (Q := fun v σ1 => vW vw_rep L xs (k, pc + 3, lc, v ++ sc) σ1 Q) hQ
theorem m_authorAt {w : Nat} (hw : w < 6) (hc0 : (w : Int) < σ.2 0 0) (hp : σ.2 2 w = 1) (n0 : 0 ≤ σ.2 1 0) (n1 : σ.2 1 0 ≤ 120) {z : Int} (z0 : 0 ≤ z) (z1 : z < (vx σ w 16).length) (hQ : ∀ σ', vw_same σ σ' → Q [.int (jI (σ.2 5 (ve_ix (vl_at (σ.1 13 0) (vl_at (vx σ w 16) z)))))] σ') : vW vw_rep L xs (80, 0, [some (.ref 8), some (.int (jI ((w : Int)))), some (.int (jI (z))), none], []) σ Q := by
  refine w1 vi80_0 rfl rfl ?_
  refine w1 vi80_1 rfl rfl ?_
  refine w0 vi80_2 rfl rfl ?_
  refine c_presentCopy vi80_3 (by first | omega | exact ve_ix_le _ | exact vk_lat_le _ _ _ _ | assumption) (by first | omega | exact ve_ix_le _ | exact vk_lat_le _ _ _ _ | assumption) (by first | omega | exact ve_ix_le _ | exact vk_lat_le _ _ _ _ | assumption) rfl ?_
  refine c_see vi80_6 (by first | omega | exact ve_ix_le _ | exact vk_lat_le _ _ _ _ | assumption) n0 n1 rfl (fun σ1 g1 => ?_)
  obtain ⟨s1, e1⟩ := vx_see (vw_same.refl σ) g1
  refine w4 vi80_9 rfl rfl ?_
  refine w1 vi80_10 rfl rfl ?_
  refine w14m (v := .ref 9) vi80_11  rfl ?_
  refine w1 vi80_14 rfl rfl ?_
  refine w0 vi80_15 rfl rfl ?_
  refine c_textCellR vi80_16 (by first | omega | exact ve_ix_le _ | exact vk_lat_le _ _ _ _ | assumption) (e1 16 (by decide) (by decide)) (by first | omega | exact ve_ix_le _ | exact vk_lat_le _ _ _ _ | assumption) (by first | omega | exact ve_ix_le _ | exact vk_lat_le _ _ _ _ | assumption) rfl (fun _ _ => ?_)
  refine c_typeOfR (l := (σ.1 13 0)) vi80_19 (s1.2 13 0 (by unfold vw_sc; omega)) (by first | omega | exact ve_ix_le _ | exact vk_lat_le _ _ _ _ | assumption) (by first | omega | exact ve_ix_le _ | exact vk_lat_le _ _ _ _ | assumption) rfl ?_
  refine w14d (v := .int (jI ((σ.2 5 ((ve_ix (vl_at (σ.1 13 0) (vl_at (vx σ w 16) (z))))))))) vi80_22 (by first | omega | exact ve_ix_le _ | exact vk_lat_le _ _ _ _ | assumption) (by rw [s1.1]; rfl) ?_
  refine vW_nR (V := σ.2) s1.1 5 ((ve_ix (vl_at (σ.1 13 0) (vl_at (vx σ w 16) (z))))) (fun _ _ => ?_)
  refine w42 vi80_25 vm80.2.2.2 ?_
  exact hQ σ1 s1
theorem c_authorAt (hc : vt_code k pc = (27, 80, b, c)) {w : Nat} (hw : w < 6) (hc0 : (w : Int) < σ.2 0 0) (hp : σ.2 2 w = 1) (n0 : 0 ≤ σ.2 1 0) (n1 : σ.2 1 0 ≤ 120) {z : Int} (z0 : 0 ≤ z) (z1 : z < (vx σ w 16).length) (hs : Nat.ble (vj_cat sc) 8 = true) (hQ : ∀ σ', vw_same σ σ' → vW vw_rep L xs (k, pc + 3, lc, .int (jI (σ.2 5 (ve_ix (vl_at (σ.1 13 0) (vl_at (vx σ w 16) z))))) :: sc) σ' Q) : vW vw_rep L xs (k, pc, lc, .int (jI (z)) :: .int (jI ((w : Int))) :: .ref 8 :: sc) σ Q := by
  refine w27 (n := 3) (vs := [.int (jI (z)), .int (jI ((w : Int))), .ref 8]) hc vm80.2.1 rfl (by rw [vm80.2.2.1]; rfl) hs (by simp only [List.length_cons]; omega) ⟨_, rfl⟩ (fun M hM => hM.2.2.2.2.2.1) ⟨by omega, by omega⟩ vm80.1 ?_
  rw [vm80.2.2.1]
  exact m_authorAt hw hc0 hp n0 n1 z0 z1 (Q := fun v σ1 => vW vw_rep L xs (k, pc + 3, lc, v ++ sc) σ1 Q) hQ
theorem m_cellAt {w : Nat} (hw : w < 6) (hc0 : (w : Int) < σ.2 0 0) (hp : σ.2 2 w = 1) (n0 : 0 ≤ σ.2 1 0) (n1 : σ.2 1 0 ≤ 120) {z : Int} (z0 : 0 ≤ z) (z1 : z < (vx σ w 15).length) (zc : (vx σ w 15).length ≤ 720) (hQ : ∀ σ', vw_same σ σ' → Q [.int (jI (vy_desc σ.2 (σ.1 12 0) (σ.1 13 0) (vx σ w 15) (vx σ w 20) z))] σ') : vW vw_rep L xs (81, 0, [some (.ref 8), some (.int (jI ((w : Int)))), some (.int (jI (z))), none], []) σ Q := by
  refine w1 vi81_0 rfl rfl ?_
  refine w1 vi81_1 rfl rfl ?_
  refine w0 vi81_2 rfl rfl ?_
  refine c_presentCopy vi81_3 (by first | omega | exact ve_ix_le _ | exact vk_lat_le _ _ _ _ | assumption) (by first | omega | exact ve_ix_le _ | exact vk_lat_le _ _ _ _ | assumption) (by first | omega | exact ve_ix_le _ | exact vk_lat_le _ _ _ _ | assumption) rfl ?_
  refine c_see vi81_6 (by first | omega | exact ve_ix_le _ | exact vk_lat_le _ _ _ _ | assumption) n0 n1 rfl (fun σ1 g1 => ?_)
  obtain ⟨s1, e1⟩ := vx_see (vw_same.refl σ) g1
  refine w4 vi81_9 rfl rfl ?_
  refine w0 vi81_10 rfl rfl ?_
  refine w7 vi81_11 (vwz_2 ⟨by omega, by omega⟩) (fun h11 => by exfalso; omega) (fun h11 => ?_)
  refine w0 vi81_14 rfl rfl ?_
  refine w1 vi81_15 rfl rfl ?_
  refine w14v (v := .ref (vw_rr 15 0)) vi81_16 (by first | omega | exact ve_ix_le _ | exact vk_lat_le _ _ _ _ | assumption) rfl ?_
  refine r_size (l := (vx σ w 15)) vi81_19 ⟨by decide, (show 0 < 2 by omega)⟩ (e1 15 (by decide) (by decide)) rfl ?_
  refine w8 vi81_22 (vwc_2 ⟨by omega, by omega⟩ ⟨by omega, by omega⟩) (fun h22 => ?_) (fun h22 => by exfalso; omega)
  refine w1 vi81_36 rfl rfl ?_
  refine w1 vi81_37 rfl rfl ?_
  refine w0 vi81_38 rfl rfl ?_
  refine c_describeCellR vi81_39 (by first | omega | exact ve_ix_le _ | exact vk_lat_le _ _ _ _ | assumption) s1.1 (s1.2 12 0 (by unfold vw_sc; omega)) (s1.2 13 0 (by unfold vw_sc; omega)) (e1 15 (by decide) (by decide)) (e1 20 (by decide) (by decide)) (by first | omega | exact ve_ix_le _ | exact vk_lat_le _ _ _ _ | assumption) (by first | omega | exact ve_ix_le _ | exact vk_lat_le _ _ _ _ | assumption) rfl ?_
  refine w42 vi81_42 vm81.2.2.2 ?_
  exact hQ σ1 s1
theorem c_cellAt (hc : vt_code k pc = (27, 81, b, c)) {w : Nat} (hw : w < 6) (hc0 : (w : Int) < σ.2 0 0) (hp : σ.2 2 w = 1) (n0 : 0 ≤ σ.2 1 0) (n1 : σ.2 1 0 ≤ 120) {z : Int} (z0 : 0 ≤ z) (z1 : z < (vx σ w 15).length) (zc : (vx σ w 15).length ≤ 720) (hs : Nat.ble (vj_cat sc) 8 = true) (hQ : ∀ σ', vw_same σ σ' → vW vw_rep L xs (k, pc + 3, lc, .int (jI (vy_desc σ.2 (σ.1 12 0) (σ.1 13 0) (vx σ w 15) (vx σ w 20) z)) :: sc) σ' Q) : vW vw_rep L xs (k, pc, lc, .int (jI (z)) :: .int (jI ((w : Int))) :: .ref 8 :: sc) σ Q := by
  refine w27 (n := 3) (vs := [.int (jI (z)), .int (jI ((w : Int))), .ref 8]) hc vm81.2.1 rfl (by rw [vm81.2.2.1]; rfl) hs (by simp only [List.length_cons]; omega) ⟨_, rfl⟩ (fun M hM => hM.2.2.2.2.2.1) ⟨by omega, by omega⟩ vm81.1 ?_
  rw [vm81.2.2.1]
  exact m_cellAt hw hc0 hp n0 n1 z0 z1 zc (Q := fun v σ1 => vW vw_rep L xs (k, pc + 3, lc, v ++ sc) σ1 Q) hQ
theorem m_lengthIn {w : Nat} (hw : w < 6) (hc0 : (w : Int) < σ.2 0 0) (hp : σ.2 2 w = 1) (n0 : 0 ≤ σ.2 1 0) (n1 : σ.2 1 0 ≤ 120) {n : Nat} (hn1 : n ≤ (σ.1 0 w).length) (hQ : ∀ σ', vw_same σ σ' → Q [.int (jI (((vq_vw σ (σ.1 0 w) n (-1) 16).length : Int)))] σ') : vW vw_rep L xs (82, 0, [some (.ref 8), some (.int (jI ((w : Int)))), some (.int (jI ((n : Int))))], []) σ Q := by
  refine w1 vi82_0 rfl rfl ?_
  refine w1 vi82_1 rfl rfl ?_
  refine w0 vi82_2 rfl rfl ?_
  refine c_presentCopy vi82_3 (by first | omega | exact ve_ix_le _ | exact vk_lat_le _ _ _ _ | assumption) (by first | omega | exact ve_ix_le _ | exact vk_lat_le _ _ _ _ | assumption) (by first | omega | exact ve_ix_le _ | exact vk_lat_le _ _ _ _ | assumption) rfl ?_
  refine w0 vi82_6 rfl rfl ?_
  refine c_seeVersion vi82_7 (by first | omega | exact ve_ix_le _ | exact vk_lat_le _ _ _ _ | assumption) n0 n1 hn1 rfl (fun σ1 g1 => ?_)
  have s1 := g1.same
  refine w14v (v := .ref (vw_rr 16 0)) vi82_10 (by first | omega | exact ve_ix_le _ | exact vk_lat_le _ _ _ _ | assumption) rfl ?_
  refine r_size (l := (vq_vw σ (σ.1 0 w) n (-1) 16)) vi82_13 ⟨by decide, (show 0 < 2 by omega)⟩ (g1.2.2 16 (by decide) (by decide)) rfl ?_
  refine w42 vi82_16 vm82.2.2.2 ?_
  exact hQ σ1 s1
theorem c_lengthIn (hc : vt_code k pc = (27, 82, b, c)) {w : Nat} (hw : w < 6) (hc0 : (w : Int) < σ.2 0 0) (hp : σ.2 2 w = 1) (n0 : 0 ≤ σ.2 1 0) (n1 : σ.2 1 0 ≤ 120) {n : Nat} (hn1 : n ≤ (σ.1 0 w).length) (hs : Nat.ble (vj_cat sc) 8 = true) (hQ : ∀ σ', vw_same σ σ' → vW vw_rep L xs (k, pc + 3, lc, .int (jI (((vq_vw σ (σ.1 0 w) n (-1) 16).length : Int))) :: sc) σ' Q) : vW vw_rep L xs (k, pc, lc, .int (jI ((n : Int))) :: .int (jI ((w : Int))) :: .ref 8 :: sc) σ Q := by
  refine w27 (n := 3) (vs := [.int (jI ((n : Int))), .int (jI ((w : Int))), .ref 8]) hc vm82.2.1 rfl (by rw [vm82.2.2.1]; rfl) hs (by simp only [List.length_cons]; omega) ⟨_, rfl⟩ (fun M hM => hM.2.2.2.2.2.1) ⟨by omega, by omega⟩ vm82.1 ?_
  rw [vm82.2.2.1]
  exact m_lengthIn hw hc0 hp n0 n1 hn1 (Q := fun v σ1 => vW vw_rep L xs (k, pc + 3, lc, v ++ sc) σ1 Q) hQ
theorem m_lengthOfAll {w : Nat} (hw : w < 6) (hc0 : (w : Int) < σ.2 0 0) (hp : σ.2 2 w = 1) (n0 : 0 ≤ σ.2 1 0) (n1 : σ.2 1 0 ≤ 120) (hQ : ∀ σ', vw_same σ σ' → Q [.int (jI (vy_all σ))] σ') : vW vw_rep L xs (87, 0, [some (.ref 8), some (.int (jI ((w : Int))))], []) σ Q := by
  refine w1 vi87_0 rfl rfl ?_
  refine w0 vi87_1 rfl rfl ?_
  refine c_presentCopy vi87_2 (by first | omega | exact ve_ix_le _ | exact vk_lat_le _ _ _ _ | assumption) (by first | omega | exact ve_ix_le _ | exact vk_lat_le _ _ _ _ | assumption) (by first | omega | exact ve_ix_le _ | exact vk_lat_le _ _ _ _ | assumption) rfl ?_
  refine w39 vi87_5 rfl ?_
  refine w1 vi87_6 rfl rfl ?_
  refine c_countAll vi87_7 n0 n1 rfl (fun σ1 s1 _ => ?_)
  refine w42 vi87_10 vm87.2.2.2 ?_
  exact hQ σ1 s1
theorem c_lengthOfAll (hc : vt_code k pc = (27, 87, b, c)) {w : Nat} (hw : w < 6) (hc0 : (w : Int) < σ.2 0 0) (hp : σ.2 2 w = 1) (n0 : 0 ≤ σ.2 1 0) (n1 : σ.2 1 0 ≤ 120) (hs : Nat.ble (vj_cat sc) 8 = true) (hQ : ∀ σ', vw_same σ σ' → vW vw_rep L xs (k, pc + 3, lc, .int (jI (vy_all σ)) :: sc) σ' Q) : vW vw_rep L xs (k, pc, lc, .int (jI ((w : Int))) :: .ref 8 :: sc) σ Q := by
  refine w27 (n := 2) (vs := [.int (jI ((w : Int))), .ref 8]) hc vm87.2.1 rfl (by rw [vm87.2.2.1]; rfl) hs (by simp only [List.length_cons]; omega) ⟨_, rfl⟩ (fun M hM => hM.2.2.2.2.2.1) ⟨by omega, by omega⟩ vm87.1 ?_
  rw [vm87.2.2.1]
  exact m_lengthOfAll hw hc0 hp n0 n1 (Q := fun v σ1 => vW vw_rep L xs (k, pc + 3, lc, v ++ sc) σ1 Q) hQ
theorem m_lengthUndone {w : Nat} (hw : w < 6) (hc0 : (w : Int) < σ.2 0 0) (hp : σ.2 2 w = 1) (n0 : 0 ≤ σ.2 1 0) (n1 : σ.2 1 0 ≤ 120) (hQ : ∀ (z : Int) (σ' : vw_S), vw_same σ σ' → -1 ≤ z → z ≤ 720 → (z = -1 ↔ (σ.1 3 w).length = 0) → Q [.int (jI (z))] σ') : vW vw_rep L xs (88, 0, [some (.ref 8), some (.int (jI ((w : Int)))), none, none], []) σ Q := by
  refine vW_len (kk := 3) (i := w) ⟨by decide, hw⟩ (fun hl => ?_)
  have hl : (σ.1 3 w).length ≤ 9 := hl
  refine w1 vi88_0 rfl rfl ?_
  refine w0 vi88_1 rfl rfl ?_
  refine c_presentCopy vi88_2 (by first | omega | exact ve_ix_le _ | exact vk_lat_le _ _ _ _ | assumption) (by first | omega | exact ve_ix_le _ | exact vk_lat_le _ _ _ _ | assumption) (by first | omega | exact ve_ix_le _ | exact vk_lat_le _ _ _ _ | assumption) rfl ?_
  refine w4 vi88_5 rfl rfl ?_
  refine w1 vi88_6 rfl rfl ?_
  refine w14c (v := .ref (vw_rr 3 w)) vi88_7 (by first | omega | exact ve_ix_le _ | exact vk_lat_le _ _ _ _ | assumption) rfl ?_
  refine r_size (l := (σ.1 3 w)) vi88_10 ⟨by decide, (show w < 6 by omega)⟩ (by first | rfl | (dsimp only; repeat (first | rw [vw_sr_eq] | rw [vw_sr_ne _ _ (by omega)]))) rfl ?_
  refine w7 vi88_13 (vwz_1 ⟨by omega, by omega⟩) (fun h13 => ?_) (fun h13 => ?_)
  ·
    refine w1 vi88_18 rfl rfl ?_
    refine w14c (v := .ref (vw_rr 3 w)) vi88_19 (by first | omega | exact ve_ix_le _ | exact vk_lat_le _ _ _ _ | assumption) rfl ?_
    refine w1 vi88_22 rfl rfl ?_
    refine w14c (v := .ref (vw_rr 3 w)) vi88_23 (by first | omega | exact ve_ix_le _ | exact vk_lat_le _ _ _ _ | assumption) rfl ?_
    refine r_size (l := (σ.1 3 w)) vi88_26 ⟨by decide, (show w < 6 by omega)⟩ (by first | rfl | (dsimp only; repeat (first | rw [vw_sr_eq] | rw [vw_sr_ne _ _ (by omega)]))) rfl ?_
    refine w2 (1) vi88_29 (by decide) ?_
    refine w10 vi88_30 ?_
    refine r_at (l := (σ.1 3 w)) vi88_31 ⟨by decide, (show w < 6 by omega)⟩ (by first | rfl | (dsimp only; repeat (first | rw [vw_sr_eq] | rw [vw_sr_ne _ _ (by omega)]))) (by first | omega | exact ve_ix_le _ | exact vk_lat_le _ _ _ _ | assumption) (by first | omega | exact ve_ix_le _ | exact vk_lat_le _ _ _ _ | assumption) rfl (fun _ _ => ?_)
    refine w3 vi88_34 rfl rfl ?_
    refine w1 vi88_35 rfl rfl ?_
    refine w14m (v := .ref (vw_vr 0)) vi88_36  rfl ?_
    refine w1 vi88_39 rfl rfl ?_
    refine w14m (v := .ref 9) vi88_40  rfl ?_
    refine w1 vi88_43 rfl rfl ?_
    refine w14c (v := .ref (vw_rr 0 w)) vi88_44 (by first | omega | exact ve_ix_le _ | exact vk_lat_le _ _ _ _ | assumption) rfl ?_
    refine w1 vi88_47 rfl rfl ?_
    refine w14c (v := .ref (vw_rr 0 w)) vi88_48 (by first | omega | exact ve_ix_le _ | exact vk_lat_le _ _ _ _ | assumption) rfl ?_
    refine r_size (l := (σ.1 0 w)) vi88_51 ⟨by decide, (show w < 6 by omega)⟩ (by first | rfl | (dsimp only; repeat (first | rw [vw_sr_eq] | rw [vw_sr_ne _ _ (by omega)]))) rfl ?_
    refine w0 vi88_54 rfl rfl ?_
    refine vW_len (kk := 0) (i := w) ⟨by decide, hw⟩ (fun hn => ?_)
    have hn : (σ.1 0 w).length ≤ 120 := hn
    refine c_read (kk := 0) (ii := w) (n := (σ.1 0 w).length) vi88_55 (show 0 < 2 by decide) n0 n1 ⟨by decide, hw⟩ (by decide) hn (by omega) (by omega) rfl (fun σ1 g1 => ?_)
    have s1 := g1.same
    refine w1 vi88_58 rfl rfl ?_
    refine w14m (v := .ref (vw_vr 0)) vi88_59  rfl ?_
    refine w14v (v := .ref (vw_rr 16 0)) vi88_62 (by first | omega | exact ve_ix_le _ | exact vk_lat_le _ _ _ _ | assumption) rfl ?_
    refine r_size (l := (vq_vw σ (σ.1 0 w) (σ.1 0 w).length (vl_at (σ.1 3 w) ((σ.1 3 w).length - 1)) 16)) vi88_65 ⟨by decide, (show 0 < 2 by omega)⟩ (g1.2.2 16 (by decide) (by decide)) rfl ?_
    refine vW_len (kk := 16) (i := 0) ⟨by decide, by decide⟩ (fun hl2 => ?_)
    have hl2 : (σ1.1 16 0).length ≤ 720 := hl2
    rw [g1.2.2 16 (by decide) (by decide)] at hl2
    refine w42 vi88_68 vm88.2.2.2 ?_
    exact hQ _ σ1 s1 (by omega) (by omega) (by omega)
  ·
    refine w2 (-1) vi88_16 (by decide) ?_
    refine w42 vi88_17 vm88.2.2.2 ?_
    exact hQ _ σ (vw_same.refl σ) (by omega) (by omega) (by omega)
theorem c_lengthUndone (hc : vt_code k pc = (27, 88, b, c)) {w : Nat} (hw : w < 6) (hc0 : (w : Int) < σ.2 0 0) (hp : σ.2 2 w = 1) (n0 : 0 ≤ σ.2 1 0) (n1 : σ.2 1 0 ≤ 120) (hs : Nat.ble (vj_cat sc) 8 = true) (hQ : ∀ (z : Int) (σ' : vw_S), vw_same σ σ' → -1 ≤ z → z ≤ 720 → (z = -1 ↔ (σ.1 3 w).length = 0) → vW vw_rep L xs (k, pc + 3, lc, .int (jI (z)) :: sc) σ' Q) : vW vw_rep L xs (k, pc, lc, .int (jI ((w : Int))) :: .ref 8 :: sc) σ Q := by
  refine w27 (n := 2) (vs := [.int (jI ((w : Int))), .ref 8]) hc vm88.2.1 rfl (by rw [vm88.2.2.1]; rfl) hs (by simp only [List.length_cons]; omega) ⟨_, rfl⟩ (fun M hM => hM.2.2.2.2.2.1) ⟨by omega, by omega⟩ vm88.1 ?_
  rw [vm88.2.2.1]
  exact m_lengthUndone hw hc0 hp n0 n1 (Q := fun v σ1 => vW vw_rep L xs (k, pc + 3, lc, v ++ sc) σ1 Q) hQ
theorem m_areAlike {w : Nat} (hw : w < 6) (hc0 : (w : Int) < σ.2 0 0) (hp : σ.2 2 w = 1) {o : Nat} (ho : o < 6) (ho0 : (o : Int) < σ.2 0 0) (hop : σ.2 2 o = 1) (n0 : 0 ≤ σ.2 1 0) (n1 : σ.2 1 0 ≤ 120) (h1 : vy_eq σ.2 (σ.1 12 0) (σ.1 13 0) (vx σ w 16) (vx σ o 16) (vx σ w 21) (vx σ o 21) → ∀ σ', vw_same σ σ' → Q [.int (jI (1))] σ') (h0 : ¬ vy_eq σ.2 (σ.1 12 0) (σ.1 13 0) (vx σ w 16) (vx σ o 16) (vx σ w 21) (vx σ o 21) → ∀ σ', vw_same σ σ' → Q [.int (jI (0))] σ') : vW vw_rep L xs (86, 0, [some (.ref 8), some (.int (jI ((w : Int)))), some (.int (jI ((o : Int)))), none, none], []) σ Q := by
  refine w1 vi86_0 rfl rfl ?_
  refine w0 vi86_1 rfl rfl ?_
  refine c_presentCopy vi86_2 (by first | omega | exact ve_ix_le _ | exact vk_lat_le _ _ _ _ | assumption) (by first | omega | exact ve_ix_le _ | exact vk_lat_le _ _ _ _ | assumption) (by first | omega | exact ve_ix_le _ | exact vk_lat_le _ _ _ _ | assumption) rfl ?_
  refine w4 vi86_5 rfl rfl ?_
  refine w1 vi86_6 rfl rfl ?_
  refine w0 vi86_7 rfl rfl ?_
  refine c_presentCopy vi86_8 (by first | omega | exact ve_ix_le _ | exact vk_lat_le _ _ _ _ | assumption) (by first | omega | exact ve_ix_le _ | exact vk_lat_le _ _ _ _ | assumption) (by first | omega | exact ve_ix_le _ | exact vk_lat_le _ _ _ _ | assumption) rfl ?_
  refine w4 vi86_11 rfl rfl ?_
  refine w1 vi86_13 rfl rfl ?_
  refine w1 vi86_14 rfl rfl ?_
  refine w1 vi86_15 rfl rfl ?_
  refine c_see vi86_16 (by first | omega | exact ve_ix_le _ | exact vk_lat_le _ _ _ _ | assumption) n0 n1 rfl (fun σ1 g1 => ?_)
  obtain ⟨s1, e1⟩ := vx_see (vw_same.refl σ) g1
  refine w1 vi86_19 rfl rfl ?_
  refine w1 vi86_20 rfl rfl ?_
  refine c_seeAsWell vi86_22 (by first | omega | exact ve_ix_le _ | exact vk_lat_le _ _ _ _ | assumption) (by rw [s1.1]; exact n0) (by rw [s1.1]; exact n1) rfl (fun σ2 g2 => ?_)
  obtain ⟨s2, e2⟩ := vx_see s1 g2
  have f20 : ∀ k, 15 ≤ k → k ≤ 21 → σ2.1 k 0 = vx σ w k := fun k q0 q1 => (g2.2.1 k 0 (by omega)).trans (e1 k q0 q1)
  refine c_sameR vi86_25 s2.1 (s2.2 12 0 (by unfold vw_sc; omega)) (s2.2 13 0 (by unfold vw_sc; omega)) (f20 16 (by decide) (by decide)) (e2 16 (by decide) (by decide)) (f20 21 (by decide) (by decide)) (e2 21 (by decide) (by decide)) rfl (fun hb25 => ?_) (fun hb25 => ?_)
  ·
    refine w42b vi86_28 vm86.2.2.2 (by first | exact Or.inl rfl | exact Or.inr rfl | omega) ?_
    exact h1 (by assumption) σ2 s2
  ·
    refine w42b vi86_28 vm86.2.2.2 (by first | exact Or.inl rfl | exact Or.inr rfl | omega) ?_
    exact h0 (by assumption) σ2 s2
theorem c_areAlike (hc : vt_code k pc = (27, 86, b, c)) {w : Nat} (hw : w < 6) (hc0 : (w : Int) < σ.2 0 0) (hp : σ.2 2 w = 1) {o : Nat} (ho : o < 6) (ho0 : (o : Int) < σ.2 0 0) (hop : σ.2 2 o = 1) (n0 : 0 ≤ σ.2 1 0) (n1 : σ.2 1 0 ≤ 120) (hs : Nat.ble (vj_cat sc) 8 = true) (h1 : vy_eq σ.2 (σ.1 12 0) (σ.1 13 0) (vx σ w 16) (vx σ o 16) (vx σ w 21) (vx σ o 21) → ∀ σ', vw_same σ σ' → vW vw_rep L xs (k, pc + 3, lc, .int (jI (1)) :: sc) σ' Q) (h0 : ¬ vy_eq σ.2 (σ.1 12 0) (σ.1 13 0) (vx σ w 16) (vx σ o 16) (vx σ w 21) (vx σ o 21) → ∀ σ', vw_same σ σ' → vW vw_rep L xs (k, pc + 3, lc, .int (jI (0)) :: sc) σ' Q) : vW vw_rep L xs (k, pc, lc, .int (jI ((o : Int))) :: .int (jI ((w : Int))) :: .ref 8 :: sc) σ Q := by
  refine w27 (n := 3) (vs := [.int (jI ((o : Int))), .int (jI ((w : Int))), .ref 8]) hc vm86.2.1 rfl (by rw [vm86.2.2.1]; rfl) hs (by simp only [List.length_cons]; omega) ⟨_, rfl⟩ (fun M hM => hM.2.2.2.2.2.1) ⟨by omega, by omega⟩ vm86.1 ?_
  rw [vm86.2.2.1]
  exact m_areAlike hw hc0 hp ho ho0 hop n0 n1 (Q := fun v σ1 => vW vw_rep L xs (k, pc + 3, lc, v ++ sc) σ1 Q) h1 h0
theorem m_lb_loop {w o : Nat} (ho : o < 6) {σ1 : vw_S} (s1 : vw_same σ σ1) (e1 : ∀ k, 15 ≤ k → k ≤ 21 → σ1.1 k 0 = vx σ w k) (hl : (vx σ w 16).length ≤ 720) (hQ : ∀ z : Int, 0 ≤ z → z ≤ (vx σ w 16).length → Q [.int (jI z)] σ1) : ∀ (e j : Nat) (p r : Int), j + e = (vx σ w 16).length → 0 ≤ p → p ≤ j → 0 ≤ r → r ≤ j → vW vw_rep L xs (83, 31, [some (.ref 8), some (.int (jI ((w : Int)))), some (.int (jI ((o : Int)))), some (.ref (vw_cr w)), some (.ref (vw_rr 16 0)), some (.int (jI (p))), some (.int (jI (r))), some (.int (jI ((j : Int))))], []) σ1 Q := by
  intro e
  induction e with
  | zero =>
    intro j p r hj p0 p1 r0 r1
    refine w0 vi83_31 rfl rfl ?_
    refine w1 vi83_33 rfl rfl ?_
    refine r_size (l := (vx σ w 16)) vi83_35 ⟨by decide, (show 0 < 2 by omega)⟩ (e1 16 (by decide) (by decide)) rfl ?_
    refine w8 vi83_38 (vwc_3 ⟨by omega, by omega⟩ ⟨by omega, by omega⟩) (fun h38 => ?_) (fun h38 => by exfalso; omega)
    refine w0 vi83_87 rfl rfl ?_
    refine w42 vi83_89 vm83.2.2.2 ?_
    exact hQ p (by omega) (by omega)
  | succ e ih =>
    intro j p r hj p0 p1 r0 r1
    refine w0 vi83_31 rfl rfl ?_
    refine w1 vi83_33 rfl rfl ?_
    refine r_size (l := (vx σ w 16)) vi83_35 ⟨by decide, (show 0 < 2 by omega)⟩ (e1 16 (by decide) (by decide)) rfl ?_
    refine w8 vi83_38 (vwc_3 ⟨by omega, by omega⟩ ⟨by omega, by omega⟩) (fun h38 => by exfalso; omega) (fun h38 => ?_)
    refine w1 vi83_41 rfl rfl ?_
    refine w14m (v := .ref 9) vi83_42  rfl ?_
    refine w1 vi83_45 rfl rfl ?_
    refine w0 vi83_47 rfl rfl ?_
    refine r_at (l := (vx σ w 16)) vi83_49 ⟨by decide, (show 0 < 2 by omega)⟩ (e1 16 (by decide) (by decide)) (by first | omega | exact ve_ix_le _ | exact vk_lat_le _ _ _ _ | assumption) (by first | omega | exact ve_ix_le _ | exact vk_lat_le _ _ _ _ | assumption) rfl (fun _ _ => ?_)
    refine c_typeOfR (l := (σ.1 13 0)) vi83_52 (s1.2 13 0 (by unfold vw_sc; omega)) (by first | omega | exact ve_ix_le _ | exact vk_lat_le _ _ _ _ | assumption) (by first | omega | exact ve_ix_le _ | exact vk_lat_le _ _ _ _ | assumption) rfl ?_
    refine w14d (v := .int (jI ((σ.2 5 ((ve_ix (vl_at (σ.1 13 0) (vl_at (vx σ w 16) ((j : Int)))))))))) vi83_55 (by first | omega | exact ve_ix_le _ | exact vk_lat_le _ _ _ _ | assumption) (by rw [s1.1]; rfl) ?_
    refine vW_nR (V := σ.2) s1.1 5 ((ve_ix (vl_at (σ.1 13 0) (vl_at (vx σ w 16) ((j : Int)))))) (fun _ _ => ?_)
    refine w0 vi83_58 rfl rfl ?_
    refine w8 vi83_59 (vwc_1 ⟨by omega, by omega⟩ ⟨by omega, by omega⟩) (fun h59 => ?_) (fun h59 => ?_)
    ·
      refine w2 (0) vi83_69 (by decide) ?_
      refine w3 vi83_70 rfl rfl ?_
      refine w0 vi83_72 rfl rfl ?_
      refine w0 vi83_74 rfl rfl ?_
      refine w31 vi83_76 ⟨by omega, by omega⟩ ⟨by omega, by omega⟩ rfl ?_
      refine w3 vi83_79 rfl rfl ?_
      refine w6 (1) vi83_81 rfl (by decide) rfl ?_
      refine w5 vi83_84 ?_
      exact ih (j + 1) _ _ (by omega) (by omega) (by omega) (by omega) (by omega)
    ·
      refine w0 vi83_62 rfl rfl ?_
      refine w2 (1) vi83_64 (by decide) ?_
      refine w9 vi83_65 ?_
      refine w5 vi83_66 ?_
      refine w3 vi83_70 rfl rfl ?_
      refine w0 vi83_72 rfl rfl ?_
      refine w0 vi83_74 rfl rfl ?_
      refine w31 vi83_76 ⟨by omega, by omega⟩ ⟨by omega, by omega⟩ rfl ?_
      refine w3 vi83_79 rfl rfl ?_
      refine w6 (1) vi83_81 rfl (by decide) rfl ?_
      refine w5 vi83_84 ?_
      exact ih (j + 1) _ _ (by omega) (by omega) (by omega) (by omega) (by omega)
theorem m_longestBy {w : Nat} (hw : w < 6) (hc0 : (w : Int) < σ.2 0 0) (hp : σ.2 2 w = 1) {o : Nat} (ho : o < 6) (ho0 : (o : Int) < σ.2 0 0) (n0 : 0 ≤ σ.2 1 0) (n1 : σ.2 1 0 ≤ 120) (hQ : ∀ (z : Int) (σ' : vw_S), vw_same σ σ' → 0 ≤ z → z ≤ (vx σ w 16).length → (vx σ w 16).length ≤ 720 → Q [.int (jI (z))] σ') : vW vw_rep L xs (83, 0, [some (.ref 8), some (.int (jI ((w : Int)))), some (.int (jI ((o : Int)))), none, none, none, none, none], []) σ Q := by
  refine w1 vi83_0 rfl rfl ?_
  refine w0 vi83_1 rfl rfl ?_
  refine c_presentCopy vi83_2 (by first | omega | exact ve_ix_le _ | exact vk_lat_le _ _ _ _ | assumption) (by first | omega | exact ve_ix_le _ | exact vk_lat_le _ _ _ _ | assumption) (by first | omega | exact ve_ix_le _ | exact vk_lat_le _ _ _ _ | assumption) rfl ?_
  refine w4 vi83_5 rfl rfl ?_
  refine w1 vi83_6 rfl rfl ?_
  refine w0 vi83_7 rfl rfl ?_
  refine c_copyThatCame vi83_8 (by first | omega | exact ve_ix_le _ | exact vk_lat_le _ _ _ _ | assumption) (by first | omega | exact ve_ix_le _ | exact vk_lat_le _ _ _ _ | assumption) rfl ?_
  refine w39 vi83_11 rfl ?_
  refine w1 vi83_12 rfl rfl ?_
  refine w1 vi83_13 rfl rfl ?_
  refine c_see vi83_14 (by first | omega | exact ve_ix_le _ | exact vk_lat_le _ _ _ _ | assumption) n0 n1 rfl (fun σ1 g1 => ?_)
  obtain ⟨s1, e1⟩ := vx_see (vw_same.refl σ) g1
  refine w14v (v := .ref (vw_rr 16 0)) vi83_17 (by first | omega | exact ve_ix_le _ | exact vk_lat_le _ _ _ _ | assumption) rfl ?_
  refine w4 vi83_20 rfl rfl ?_
  refine w2 (0) vi83_22 (by decide) ?_
  refine w3 vi83_23 rfl rfl ?_
  refine w2 (0) vi83_25 (by decide) ?_
  refine w3 vi83_26 rfl rfl ?_
  refine w2 (0) vi83_28 (by decide) ?_
  refine w3 vi83_29 rfl rfl ?_
  refine vW_len (kk := 16) (i := 0) ⟨by decide, by decide⟩ (fun hl => ?_)
  have hl : (σ1.1 16 0).length ≤ 720 := hl
  rw [e1 16 (by decide) (by decide)] at hl
  exact m_lb_loop ho s1 e1 hl (fun z z0 z1 => hQ z σ1 s1 z0 z1 hl) _ 0 0 0 (Nat.zero_add _) (by omega) (by omega) (by omega) (by omega)
theorem c_longestBy (hc : vt_code k pc = (27, 83, b, c)) {w : Nat} (hw : w < 6) (hc0 : (w : Int) < σ.2 0 0) (hp : σ.2 2 w = 1) {o : Nat} (ho : o < 6) (ho0 : (o : Int) < σ.2 0 0) (n0 : 0 ≤ σ.2 1 0) (n1 : σ.2 1 0 ≤ 120) (hs : Nat.ble (vj_cat sc) 8 = true) (hQ : ∀ (z : Int) (σ' : vw_S), vw_same σ σ' → 0 ≤ z → z ≤ (vx σ w 16).length → (vx σ w 16).length ≤ 720 → vW vw_rep L xs (k, pc + 3, lc, .int (jI (z)) :: sc) σ' Q) : vW vw_rep L xs (k, pc, lc, .int (jI ((o : Int))) :: .int (jI ((w : Int))) :: .ref 8 :: sc) σ Q := by
  refine w27 (n := 3) (vs := [.int (jI ((o : Int))), .int (jI ((w : Int))), .ref 8]) hc vm83.2.1 rfl (by rw [vm83.2.2.1]; rfl) hs (by simp only [List.length_cons]; omega) ⟨_, rfl⟩ (fun M hM => hM.2.2.2.2.2.1) ⟨by omega, by omega⟩ vm83.1 ?_
  rw [vm83.2.2.1]
  exact m_longestBy hw hc0 hp ho ho0 n0 n1 (Q := fun v σ1 => vW vw_rep L xs (k, pc + 3, lc, v ++ sc) σ1 Q) hQ
def vy_agr (σ : vw_S) : Prop := ∀ f i : Nat, f < 6 → i < 6 → σ.2 2 f = 1 → σ.2 2 i = 1 → (∀ m : Nat, m < f → ¬ σ.2 2 m = 1) → vk_bey (σ.1 1 f) (σ.1 1 i) 6 = 0 ∧ vk_bey (σ.1 1 i) (σ.1 1 f) 6 = 0
theorem m_ag2_loop (hb : ∀ i : Nat, i < 6 → ∀ a : Nat, a < 6 → 0 ≤ vl_at (σ.1 1 i) (a : Int) ∧ vl_at (σ.1 1 i) (a : Int) ≤ 120) (h1 : vy_agr σ → Q [.int (jI 1)] σ) (h0 : ¬ vy_agr σ → Q [.int (jI 0)] σ) {f : Nat} (hf : f < 6) (hpf : σ.2 2 f = 1) (hff : ∀ m : Nat, m < f → ¬ σ.2 2 m = 1) : ∀ (e j : Nat) (u : Option Value), j + e = 6 → (∀ i : Nat, i < j → σ.2 2 i = 1 → vk_bey (σ.1 1 f) (σ.1 1 i) 6 = 0 ∧ vk_bey (σ.1 1 i) (σ.1 1 f) 6 = 0) → vW vw_rep L xs (72, 13, [some (.ref 8), some (.ref (vw_cr f)), some (.ref 622), some (.int (jI (6))), some (.int (jI ((j : Int)))), u], []) σ Q := by
  intro e
  induction e with
  | zero =>
    intro j u hj hh
    refine w0 vi72_13 rfl rfl ?_
    refine w0 vi72_15 rfl rfl ?_
    refine w8 vi72_16 (vwc_3 ⟨by omega, by omega⟩ ⟨by omega, by omega⟩) (fun h16 => ?_) (fun h16 => by exfalso; omega)
    refine w2 (1) vi72_74 (by decide) ?_
    refine w42b vi72_75 vm72.2.2.2 (by first | exact Or.inl rfl | exact Or.inr rfl | omega) ?_
    refine h1 (fun f' i hf' hi hpf' hpi hff' => ?_)
    have e3 : f' = f := by
      rcases Nat.lt_trichotomy f' f with g | g | g
      · exact absurd hpf' (hff f' g)
      · exact g
      · exact absurd hpf (hff' f g)
    subst e3
    exact hh i (by omega) hpi
  | succ e ih =>
    intro j u hj hh
    refine w0 vi72_13 rfl rfl ?_
    refine w0 vi72_15 rfl rfl ?_
    refine w8 vi72_16 (vwc_3 ⟨by omega, by omega⟩ ⟨by omega, by omega⟩) (fun h16 => by exfalso; omega) (fun h16 => ?_)
    refine w1 vi72_19 rfl rfl ?_
    refine w0 vi72_20 rfl rfl ?_
    refine w20cop vi72_22 (by omega) (by omega) ?_
    rw [Int.toNat_natCast]
    refine w4 vi72_23 rfl rfl ?_
    refine w1 vi72_25 rfl rfl ?_
    refine w60 vi72_27 ?_
    refine w1 vi72_30 rfl rfl ?_
    refine w14c (v := .int (jI ((σ.2 2 j)))) vi72_32 (by first | omega | exact ve_ix_le _ | exact vk_lat_le _ _ _ _ | assumption) rfl ?_
    refine vW_nR (V := σ.2) rfl 2 (j) (fun _ _ => ?_)
    refine vW_thR (V := σ.2) rfl (j) (fun hth => ?_)
    refine w7 vi72_35 (vwz_1 ⟨by omega, by omega⟩) (fun h35 => ?_) (fun h35 => ?_)
    ·
      refine w1 vi72_41 rfl rfl ?_
      refine w61 vi72_42 ?_
      refine w1 vi72_48 rfl rfl ?_
      refine w1 vi72_49 rfl rfl ?_
      have hbey51 := vk_bey_in (hb f (by first | omega | exact ve_ix_le _ | exact vk_lat_le _ _ _ _ | assumption)) (hb j (by first | omega | exact ve_ix_le _ | exact vk_lat_le _ _ _ _ | assumption)) 6 (Nat.le_refl _)
      refine c_beyondR vi72_51 (by first | omega | exact ve_ix_le _ | exact vk_lat_le _ _ _ _ | assumption) (by first | omega | exact ve_ix_le _ | exact vk_lat_le _ _ _ _ | assumption) (by first | rfl | (dsimp only; repeat (first | rw [vw_sr_eq] | rw [vw_sr_ne _ _ (by omega)]))) (by first | rfl | (dsimp only; repeat (first | rw [vw_sr_eq] | rw [vw_sr_ne _ _ (by omega)]))) (hb _ (by first | omega | exact ve_ix_le _ | exact vk_lat_le _ _ _ _ | assumption)) (hb _ (by first | omega | exact ve_ix_le _ | exact vk_lat_le _ _ _ _ | assumption)) rfl ?_
      refine w7 vi72_54 (vwz_1 ⟨by omega, by omega⟩) (fun h54 => ?_) (fun h54 => ?_)
      ·
        refine w2 (0) vi72_66 (by decide) ?_
        refine w42b vi72_67 vm72.2.2.2 (by first | exact Or.inl rfl | exact Or.inr rfl | omega) ?_
        exact h0 (fun g => by have := g f j hf (by omega) hpf (by omega) hff; omega)
      ·
        refine w1 vi72_57 rfl rfl ?_
        refine w1 vi72_59 rfl rfl ?_
        have hbey60 := vk_bey_in (hb j (by first | omega | exact ve_ix_le _ | exact vk_lat_le _ _ _ _ | assumption)) (hb f (by first | omega | exact ve_ix_le _ | exact vk_lat_le _ _ _ _ | assumption)) 6 (Nat.le_refl _)
        refine c_beyondR vi72_60 (by first | omega | exact ve_ix_le _ | exact vk_lat_le _ _ _ _ | assumption) (by first | omega | exact ve_ix_le _ | exact vk_lat_le _ _ _ _ | assumption) (by first | rfl | (dsimp only; repeat (first | rw [vw_sr_eq] | rw [vw_sr_ne _ _ (by omega)]))) (by first | rfl | (dsimp only; repeat (first | rw [vw_sr_eq] | rw [vw_sr_ne _ _ (by omega)]))) (hb _ (by first | omega | exact ve_ix_le _ | exact vk_lat_le _ _ _ _ | assumption)) (hb _ (by first | omega | exact ve_ix_le _ | exact vk_lat_le _ _ _ _ | assumption)) rfl ?_
        refine w7 vi72_63 (vwz_0 ⟨by omega, by omega⟩) (fun h63 => ?_) (fun h63 => ?_)
        ·
          refine w6 (1) vi72_68 rfl (by decide) rfl ?_
          refine w5 vi72_71 ?_
          refine ih (j + 1) _ (by omega) (fun i hi hpi => ?_)
          by_cases e4 : i = j
          · subst e4
            first
              | (exfalso; omega)
              | exact ⟨by omega, by omega⟩
          · exact hh i (by omega) hpi
        ·
          refine w2 (0) vi72_66 (by decide) ?_
          refine w42b vi72_67 vm72.2.2.2 (by first | exact Or.inl rfl | exact Or.inr rfl | omega) ?_
          exact h0 (fun g => by have := g f j hf (by omega) hpf (by omega) hff; omega)
    ·
      refine w5 vi72_38 ?_
      refine w6 (1) vi72_68 rfl (by decide) rfl ?_
      refine w5 vi72_71 ?_
      refine ih (j + 1) _ (by omega) (fun i hi hpi => ?_)
      by_cases e4 : i = j
      · subst e4
        first
          | (exfalso; omega)
          | exact ⟨by omega, by omega⟩
      · exact hh i (by omega) hpi
theorem m_ag1_loop (hb : ∀ i : Nat, i < 6 → ∀ a : Nat, a < 6 → 0 ≤ vl_at (σ.1 1 i) (a : Int) ∧ vl_at (σ.1 1 i) (a : Int) ≤ 120) (h1 : vy_agr σ → Q [.int (jI 1)] σ) (h0 : ¬ vy_agr σ → Q [.int (jI 0)] σ) : ∀ (e j : Nat) (u : Option Value), j + e = 6 → (∀ m : Nat, m < j → ¬ σ.2 2 m = 1) → vW vw_rep L xs (72, 13, [some (.ref 8), some (.null), some (.ref 622), some (.int (jI (6))), some (.int (jI ((j : Int)))), u], []) σ Q := by
  intro e
  induction e with
  | zero =>
    intro j u hj hh
    refine w0 vi72_13 rfl rfl ?_
    refine w0 vi72_15 rfl rfl ?_
    refine w8 vi72_16 (vwc_3 ⟨by omega, by omega⟩ ⟨by omega, by omega⟩) (fun h16 => ?_) (fun h16 => by exfalso; omega)
    refine w2 (1) vi72_74 (by decide) ?_
    refine w42b vi72_75 vm72.2.2.2 (by first | exact Or.inl rfl | exact Or.inr rfl | omega) ?_
    exact h1 (fun f' i hf' hi hpf' hpi hff' => absurd hpf' (hh f' (by omega)))
  | succ e ih =>
    intro j u hj hh
    refine w0 vi72_13 rfl rfl ?_
    refine w0 vi72_15 rfl rfl ?_
    refine w8 vi72_16 (vwc_3 ⟨by omega, by omega⟩ ⟨by omega, by omega⟩) (fun h16 => by exfalso; omega) (fun h16 => ?_)
    refine w1 vi72_19 rfl rfl ?_
    refine w0 vi72_20 rfl rfl ?_
    refine w20cop vi72_22 (by omega) (by omega) ?_
    rw [Int.toNat_natCast]
    refine w4 vi72_23 rfl rfl ?_
    refine w1 vi72_25 rfl rfl ?_
    refine w60 vi72_27 ?_
    refine w1 vi72_30 rfl rfl ?_
    refine w14c (v := .int (jI ((σ.2 2 j)))) vi72_32 (by first | omega | exact ve_ix_le _ | exact vk_lat_le _ _ _ _ | assumption) rfl ?_
    refine vW_nR (V := σ.2) rfl 2 (j) (fun _ _ => ?_)
    refine vW_thR (V := σ.2) rfl (j) (fun hth => ?_)
    refine w7 vi72_35 (vwz_1 ⟨by omega, by omega⟩) (fun h35 => ?_) (fun h35 => ?_)
    ·
      refine w1 vi72_41 rfl rfl ?_
      refine w61n vi72_42 ?_
      refine w1 vi72_45 rfl rfl ?_
      refine w4 vi72_47 rfl rfl ?_
      refine w1 vi72_48 rfl rfl ?_
      refine w1 vi72_49 rfl rfl ?_
      have hbey51 := vk_bey_in (hb j (by first | omega | exact ve_ix_le _ | exact vk_lat_le _ _ _ _ | assumption)) (hb j (by first | omega | exact ve_ix_le _ | exact vk_lat_le _ _ _ _ | assumption)) 6 (Nat.le_refl _)
      refine c_beyondR vi72_51 (by first | omega | exact ve_ix_le _ | exact vk_lat_le _ _ _ _ | assumption) (by first | omega | exact ve_ix_le _ | exact vk_lat_le _ _ _ _ | assumption) (by first | rfl | (dsimp only; repeat (first | rw [vw_sr_eq] | rw [vw_sr_ne _ _ (by omega)]))) (by first | rfl | (dsimp only; repeat (first | rw [vw_sr_eq] | rw [vw_sr_ne _ _ (by omega)]))) (hb _ (by first | omega | exact ve_ix_le _ | exact vk_lat_le _ _ _ _ | assumption)) (hb _ (by first | omega | exact ve_ix_le _ | exact vk_lat_le _ _ _ _ | assumption)) rfl ?_
      refine w7 vi72_54 (vwz_1 ⟨by omega, by omega⟩) (fun h54 => ?_) (fun h54 => ?_)
      ·
        refine w2 (0) vi72_66 (by decide) ?_
        refine w42b vi72_67 vm72.2.2.2 (by first | exact Or.inl rfl | exact Or.inr rfl | omega) ?_
        exact h0 (fun g => by have := g j j (by omega) (by omega) (by omega) (by omega) hh; omega)
      ·
        refine w1 vi72_57 rfl rfl ?_
        refine w1 vi72_59 rfl rfl ?_
        have hbey60 := vk_bey_in (hb j (by first | omega | exact ve_ix_le _ | exact vk_lat_le _ _ _ _ | assumption)) (hb j (by first | omega | exact ve_ix_le _ | exact vk_lat_le _ _ _ _ | assumption)) 6 (Nat.le_refl _)
        refine c_beyondR vi72_60 (by first | omega | exact ve_ix_le _ | exact vk_lat_le _ _ _ _ | assumption) (by first | omega | exact ve_ix_le _ | exact vk_lat_le _ _ _ _ | assumption) (by first | rfl | (dsimp only; repeat (first | rw [vw_sr_eq] | rw [vw_sr_ne _ _ (by omega)]))) (by first | rfl | (dsimp only; repeat (first | rw [vw_sr_eq] | rw [vw_sr_ne _ _ (by omega)]))) (hb _ (by first | omega | exact ve_ix_le _ | exact vk_lat_le _ _ _ _ | assumption)) (hb _ (by first | omega | exact ve_ix_le _ | exact vk_lat_le _ _ _ _ | assumption)) rfl ?_
        refine w7 vi72_63 (vwz_0 ⟨by omega, by omega⟩) (fun h63 => ?_) (fun h63 => ?_)
        ·
          refine w6 (1) vi72_68 rfl (by decide) rfl ?_
          refine w5 vi72_71 ?_
          refine m_ag2_loop hb h1 h0 (f := j) (by omega) (by omega) hh e (j + 1) _ (by omega) (fun i hi hpi => ?_)
          by_cases e4 : i = j
          · subst e4; exact ⟨by omega, by omega⟩
          · exact absurd hpi (hh i (by omega))
        ·
          refine w2 (0) vi72_66 (by decide) ?_
          refine w42b vi72_67 vm72.2.2.2 (by first | exact Or.inl rfl | exact Or.inr rfl | omega) ?_
          exact h0 (fun g => by have := g j j (by omega) (by omega) (by omega) (by omega) hh; omega)
    ·
      refine w5 vi72_38 ?_
      refine w6 (1) vi72_68 rfl (by decide) rfl ?_
      refine w5 vi72_71 ?_
      refine ih (j + 1) _ (by omega) (fun i hi => ?_)
      by_cases e4 : i = j
      · subst e4; omega
      · exact hh i (by omega)
theorem m_agree (hb : ∀ i : Nat, i < 6 → ∀ a : Nat, a < 6 → 0 ≤ vl_at (σ.1 1 i) (a : Int) ∧ vl_at (σ.1 1 i) (a : Int) ≤ 120) (h1 : vy_agr σ → Q [.int (jI (1))] σ) (h0 : ¬ vy_agr σ → Q [.int (jI (0))] σ) : vW vw_rep L xs (72, 0, [some (.ref 8), none, none, none, none, none], []) σ Q := by
  refine w62 vi72_0 ?_
  refine w4 vi72_1 rfl rfl ?_
  refine w1 vi72_2 rfl rfl ?_
  refine w14m (v := .ref 622) vi72_3  rfl ?_
  refine w4 vi72_6 rfl rfl ?_
  refine w1 vi72_7 rfl rfl ?_
  refine w26cop vi72_8 ?_
  refine w3 vi72_9 rfl rfl ?_
  refine w2 (0) vi72_10 (by decide) ?_
  refine w3 vi72_11 rfl rfl ?_
  exact m_ag1_loop hb h1 h0 6 0 _ rfl (fun m hm => absurd hm (Nat.not_lt_zero _))
theorem c_agree (hc : vt_code k pc = (27, 72, b, c)) (hb : ∀ i : Nat, i < 6 → ∀ a : Nat, a < 6 → 0 ≤ vl_at (σ.1 1 i) (a : Int) ∧ vl_at (σ.1 1 i) (a : Int) ≤ 120) (hs : Nat.ble (vj_cat sc) 8 = true) (h1 : vy_agr σ → vW vw_rep L xs (k, pc + 3, lc, .int (jI (1)) :: sc) σ Q) (h0 : ¬ vy_agr σ → vW vw_rep L xs (k, pc + 3, lc, .int (jI (0)) :: sc) σ Q) : vW vw_rep L xs (k, pc, lc, .ref 8 :: sc) σ Q := by
  refine w27 (n := 1) (vs := [.ref 8]) hc vm72.2.1 rfl (by rw [vm72.2.2.1]; rfl) hs (by simp only [List.length_cons]; omega) ⟨_, rfl⟩ (fun M hM => hM.2.2.2.2.2.1) ⟨by omega, by omega⟩ vm72.1 ?_
  rw [vm72.2.2.1]
  exact m_agree hb (Q := fun v σ1 => vW vw_rep L xs (k, pc + 3, lc, v ++ sc) σ1 Q) h1 h0
end VW16
