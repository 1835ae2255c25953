/-! ===== what is done ===== -/
section VW18
theorem vJ_to {σ σ' : vw_S} (h : vJ σ) (hn : σ'.2 1 0 = σ.2 1 0) (hc : σ'.2 0 0 = σ.2 0 0) (h5 : σ'.2 5 = σ.2 5) (h6 : σ'.2 6 = σ.2 6) (h2 : σ'.2 2 = σ.2 2) (g : ∀ k, (k = 0 ∨ k = 1 ∨ k = 2 ∨ k = 6 ∨ k = 7 ∨ k = 9) → σ'.1 k = σ.1 k) : vJ σ' := by
  obtain ⟨j1, j2, j3, j4, j5⟩ := h
  have g0 := g 0 (by omega)
  have g1 := g 1 (by omega)
  have g2 := g 2 (by omega)
  have g6 := g 6 (by omega)
  have g7 := g 7 (by omega)
  have g9 := g 9 (by omega)
  refine ⟨?_, fun i hi => ?_, ?_, ?_, ?_⟩
  · unfold vKs; rw [hn, hc, h5, h6, g0, g1, g2, g6]; exact j1
  · unfold vRds; rw [g1, g2, g6]; exact j2 i hi
  · rw [hn, g7]; exact j3
  · rw [hc, h2]; exact j4
  · rw [g9]; exact j5
theorem vI_to {σ σ' : vw_S} (h : vI σ) (hn : σ'.2 1 0 = σ.2 1 0) (hc : σ'.2 0 0 = σ.2 0 0) (h5 : σ'.2 5 = σ.2 5) (h6 : σ'.2 6 = σ.2 6) (h2 : σ'.2 2 = σ.2 2) (g : ∀ k, ¬ vw_sc k → ¬ k = 5 → ¬ k = 8 → σ'.1 k = σ.1 k) : vI σ' := by
  refine ⟨vJ_to h.1 hn hc h5 h6 h2 (fun k q => g k (by unfold vw_sc; omega) (by omega) (by omega)), ?_, fun i hi => ?_⟩
  · rw [hn, g 12 (by unfold vw_sc; omega) (by omega) (by omega), g 13 (by unfold vw_sc; omega) (by omega) (by omega), g 14 (by unfold vw_sc; omega) (by omega) (by omega)]
    exact h.2.1
  · rw [g 3 (by unfold vw_sc; omega) (by omega) (by omega), g 4 (by unfold vw_sc; omega) (by omega) (by omega)]
    exact h.2.2 i hi
theorem vI_same {σ σ' : vw_S} (h : vI σ) (s : vw_same σ σ') : vI σ' :=
  vI_to h (by rw [s.1]) (by rw [s.1]) (by rw [s.1]) (by rw [s.1]) (by rw [s.1]) (fun k q _ _ => s.row q)
theorem vI_of {σ : vw_S} (hJ : vJ σ) {σ0 : vw_S} (hC : vC (σ.2 1 0) (σ0.1 12 0) (σ0.1 13 0) (σ0.1 14 0)) (hD : ∀ i : Nat, i < 6 → (σ.1 3 i).length + (σ.1 4 i).length ≤ 8) (g : ∀ k, (k = 12 ∨ k = 13 ∨ k = 14) → σ.1 k = σ0.1 k) : vI σ := by
  refine ⟨hJ, ?_, hD⟩
  rw [g 12 (by omega), g 13 (by omega), g 14 (by omega)]
  exact hC
theorem vC_mono {n m : Int} {r12 r13 r14 : List Int} (h : vC n r12 r13 r14) (hm : n ≤ m) : vC m r12 r13 r14 := by
  obtain ⟨c1, c2, c3, c4, c5, c6, c7⟩ := h
  exact ⟨c1, c2, by omega, c4, fun x hx => by have := c5 x hx; omega, c6, c7⟩
theorem vC_add {n : Int} {r12 r13 r14 : List Int} (h : vC n r12 r13 r14) {y d : Int} (y0 : 0 ≤ y) (y1 : y < 27) (d0 : 0 ≤ d) (d1 : d < n) (hl : (r12.length : Int) + 1 ≤ 6 * n) {p : Nat} (hp : p ≤ r12.length) : vC n (r12 ++ [y]) (r13 ++ [d]) (r14.take p ++ (r12.length : Int) :: r14.drop p) := by
  obtain ⟨c1, c2, c3, c4, c5, c6, c7⟩ := h
  have l1 : (r12 ++ [y]).length = r12.length + 1 := by rw [List.length_append]; rfl
  have hmem : ∀ x : Int, x ∈ r14.take p ++ (r12.length : Int) :: r14.drop p ↔ (x ∈ r14 ∨ x = (r12.length : Int)) := fun x => by
    rw [List.mem_append, List.mem_cons]
    constructor
    · intro g
      rcases g with g | g | g
      · exact Or.inl (List.mem_of_mem_take g)
      · exact Or.inr g
      · exact Or.inl (List.mem_of_mem_drop g)
    · intro g
      rcases g with g | g
      · rw [← List.take_append_drop p r14] at g
        rcases List.mem_append.mp g with g | g
        · exact Or.inl g
        · exact Or.inr (Or.inr g)
      · exact Or.inr (Or.inl g)
  refine ⟨by rw [List.length_append, l1, c1]; rfl, ?_, by rw [l1]; omega, fun x hx => ?_, fun x hx => ?_, fun x hx => ?_, fun x x0 x1 => ?_⟩
  · rw [l1, List.length_append, List.length_cons, List.length_take, List.length_drop]; omega
  · rcases List.mem_append.mp hx with g | g
    · exact c4 x g
    · rw [List.mem_singleton.mp g]; exact ⟨y0, y1⟩
  · rcases List.mem_append.mp hx with g | g
    · exact c5 x g
    · rw [List.mem_singleton.mp g]; exact ⟨d0, d1⟩
  · rw [l1]
    rcases (hmem x).mp hx with g | g
    · have := c6 x g; omega
    · omega
  · rw [l1] at x1
    by_cases q : x = (r12.length : Int)
    · exact (hmem x).mpr (Or.inr q)
    · exact (hmem x).mpr (Or.inl (c7 x x0 (by omega)))
variable {L : Nat} {xs : Nat → Int32} {σ σ2 : vw_S} {Q : List Value → vw_S → Prop} {k pc a b c kk i : Nat} {lc : List (Option Value)} {sc : List Value} {fr : vj_F} {l l2 r12 r13 sh cs tx tx2 d2 he od : List Int} {V : Nat → Nat → Int} {z y : Int}
theorem m_cover_loop {d v : Nat} (hd : d ≤ 120) (hv : v < 2) {z y : Int} (z0 : 0 ≤ z) (z1 : z ≤ 720) (y0 : 0 ≤ y) (y1 : y ≤ 12) (hQ : ∀ σ', σ'.2 = σ.2 → (∀ k, ¬ k = 5 → σ'.1 k = σ.1 k) → Q [] σ') : ∀ (e j : Nat) (σ1 : vw_S), (j : Int) + e = y → σ1.2 = σ.2 → (∀ k, ¬ k = 5 → σ1.1 k = σ.1 k) → vW vw_rep L xs (104, 3, [some (.ref (vw_dr d)), some (.ref (vw_vr v)), some (.int (jI (z))), some (.int (jI (y))), some (.int (jI ((j : Int))))], []) σ1 Q := by
  intro e
  induction e with
  | zero =>
    intro j σ1 hj h2 hr
    refine w0 vi104_3 rfl rfl ?_
    refine w0 vi104_5 rfl rfl ?_
    refine w8 vi104_6 (vwc_3 ⟨by omega, by omega⟩ ⟨by omega, by omega⟩) (fun h6 => ?_) (fun h6 => by exfalso; omega)
    refine w43 vi104_33 vm104.2.2.2 ?_
    exact hQ σ1 h2 hr
  | succ e ih =>
    intro j σ1 hj h2 hr
    refine w0 vi104_3 rfl rfl ?_
    refine w0 vi104_5 rfl rfl ?_
    refine w8 vi104_6 (vwc_3 ⟨by omega, by omega⟩ ⟨by omega, by omega⟩) (fun h6 => by exfalso; omega) (fun h6 => ?_)
    refine w1 vi104_9 rfl rfl ?_
    refine w14d (v := .ref (vw_rr 5 d)) vi104_10 (by first | omega | exact ve_ix_le _ | exact vk_lat_le _ _ _ _ | assumption) rfl ?_
    refine w1 vi104_13 rfl rfl ?_
    refine w14v (v := .ref (vw_rr 16 v)) vi104_14 (by first | omega | exact ve_ix_le _ | exact vk_lat_le _ _ _ _ | assumption) rfl ?_
    refine w0 vi104_17 rfl rfl ?_
    refine w0 vi104_18 rfl rfl ?_
    refine w9 vi104_20 ?_
    refine r_at (l := (σ1.1 16 v)) vi104_21 ⟨by decide, (show v < 2 by omega)⟩ (by first | rfl | (dsimp only; repeat (first | rw [vw_sr_eq] | rw [vw_sr_ne _ _ (by omega)]))) (by first | omega | exact ve_ix_le _ | exact vk_lat_le _ _ _ _ | assumption) (by first | omega | exact ve_ix_le _ | exact vk_lat_le _ _ _ _ | assumption) rfl (fun _ _ => ?_)
    refine r_add (l := (σ1.1 5 d)) (σ2 := ((vw_sr σ1.1 5 d (vl_add (vw_cap 5) (σ1.1 5 d) (vl_at (σ1.1 16 v) (z + (j : Int))))), σ1.2)) vi104_24 ⟨by decide, Nat.lt_succ_of_le (by first | omega | exact ve_ix_le _ | exact vk_lat_le _ _ _ _ | assumption)⟩ (by first | rfl | (dsimp only; repeat (first | rw [vw_sr_eq] | rw [vw_sr_ne _ _ (by omega)]))) (by first | omega | exact ve_ix_le _ | exact vk_lat_le _ _ _ _ | assumption) (by first | omega | exact ve_ix_le _ | exact vk_lat_le _ _ _ _ | assumption) rfl rfl ?_
    refine w6 (1) vi104_27 rfl (by decide) rfl ?_
    refine w5 vi104_30 ?_
    exact ih (j + 1) _ (by omega) h2 (fun k' q => (vw_sr_j _ _ _ q).trans (hr k' q))
theorem m_cover {d v : Nat} (hd : d ≤ 120) (hv : v < 2) {z y : Int} (z0 : 0 ≤ z) (z1 : z ≤ 720) (y0 : 0 ≤ y) (y1 : y ≤ 12) (hQ : ∀ σ', σ'.2 = σ.2 → (∀ k, ¬ k = 5 → σ'.1 k = σ.1 k) → Q [] σ') : vW vw_rep L xs (104, 0, [some (.ref (vw_dr d)), some (.ref (vw_vr v)), some (.int (jI (z))), some (.int (jI (y))), none], []) σ Q := by
  refine w2 (0) vi104_0 (by decide) ?_
  refine w3 vi104_1 rfl rfl ?_
  exact m_cover_loop hd hv z0 z1 y0 y1 hQ y.toNat 0 σ (by omega) rfl (fun _ _ => rfl)
theorem c_cover (hc : vt_code k pc = (29, 104, b, c)) {d v : Nat} (hd : d ≤ 120) (hv : v < 2) {z y : Int} (z0 : 0 ≤ z) (z1 : z ≤ 720) (y0 : 0 ≤ y) (y1 : y ≤ 12) (hs : Nat.ble (vj_cat sc) 8 = true) (hQ : ∀ σ', σ'.2 = σ.2 → (∀ k, ¬ k = 5 → σ'.1 k = σ.1 k) → vW vw_rep L xs (k, pc + 3, lc, sc) σ' Q) : vW vw_rep L xs (k, pc, lc, .int (jI (y)) :: .int (jI (z)) :: .ref (vw_vr v) :: .ref (vw_dr d) :: sc) σ Q := by
  refine w29 (n := 4) (vs := [.int (jI (y)), .int (jI (z)), .ref (vw_vr v), .ref (vw_dr d)]) hc vm104.2.1 rfl (by rw [vm104.2.2.1]; rfl) hs (by simp only [List.length_cons]; omega) ?_
  rw [vm104.2.2.1]
  exact m_cover hd hv z0 z1 y0 y1 (Q := fun v σ1 => vW vw_rep L xs (k, pc + 3, lc, v ++ sc) σ1 Q) hQ
def vT (σ : vw_S) (w d j : Nat) (σ2 : vw_S) : Prop := vM σ w d σ2 ∧ vC (σ.2 1 0 + 1) (σ2.1 12 0) (σ2.1 13 0) (σ2.1 14 0) ∧ ((σ2.1 12 0).length : Int) ≤ 6 * σ.2 1 0 + j ∧ σ2.1 3 = σ.1 3 ∧ σ2.1 4 = σ.1 4
theorem m_tb_loop {w d : Nat} {z y q : Int} (n1 : σ.2 1 0 < 120) (y0 : 0 ≤ y) (y1 : y < 27) (q0 : 1 ≤ q) (q1 : q ≤ 6) (hQ : ∀ (σ2 : vw_S) (u : Int), -2147483648 ≤ u → u < 2147483648 → vT σ w d 6 σ2 → vW vw_rep L xs (103, 51, [some (.ref 8), some (.int (jI ((w : Int)))), some (.ref (vw_cr w)), some (.int (jI (z))), some (.int (jI (y))), some (.int (jI (q))), some (.ref (vw_dr d)), some (.int (jI (u))), some (.int (jI (q)))], []) σ2 Q) : ∀ (e j : Nat) (σ2 : vw_S) (u : Int), (j : Int) + e = q → -2147483648 ≤ u → u < 2147483648 → vT σ w d j σ2 → vW vw_rep L xs (103, 17, [some (.ref 8), some (.int (jI ((w : Int)))), some (.ref (vw_cr w)), some (.int (jI (z))), some (.int (jI (y))), some (.int (jI (q))), some (.ref (vw_dr d)), some (.int (jI (u))), some (.int (jI ((j : Int))))], []) σ2 Q := by
  intro e
  induction e with
  | zero =>
    intro j σ2 u hj u0 u1 hT
    refine w0 vi103_17 rfl rfl ?_
    refine w0 vi103_19 rfl rfl ?_
    refine w8 vi103_21 (vwc_3 ⟨by omega, by omega⟩ ⟨by omega, by omega⟩) (fun h21 => ?_) (fun h21 => by exfalso; omega)
    rw [show (j : Int) = q by omega]
    exact hQ σ2 u u0 u1 ⟨hT.1, hT.2.1, by have := hT.2.2.1; omega, hT.2.2.2⟩
  | succ e ih =>
    intro j σ2 u hj u0 u1 hT
    refine w0 vi103_17 rfl rfl ?_
    refine w0 vi103_19 rfl rfl ?_
    refine w8 vi103_21 (vwc_3 ⟨by omega, by omega⟩ ⟨by omega, by omega⟩) (fun h21 => by exfalso; omega) (fun h21 => ?_)
    refine w1 vi103_24 rfl rfl ?_
    refine w14m (v := .ref 9) vi103_25  rfl ?_
    refine w1 vi103_28 rfl rfl ?_
    refine w0 vi103_30 rfl rfl ?_
    refine w0 vi103_32 rfl rfl ?_
    refine w9 vi103_34 ?_
    refine w2 (27) vi103_35 (by decide) ?_
    refine w13 vi103_37 (by omega) ⟨by omega, by omega⟩ (by omega) ⟨by omega, by omega⟩ ?_
    refine w0 vi103_38 rfl rfl ?_
    obtain ⟨hM, hC, hl, h3, h4⟩ := hT
    have hC' := hC
    obtain ⟨c1, c2, c3, c4, c5, c6, c7⟩ := hC'
    have hdd := hM.1
    refine c_addCell vi103_40 (by omega) (by omega) c1 c2 (by omega) (by omega) u0 u1 rfl (fun p hp => ?_)
    refine w3 vi103_43 rfl rfl ?_
    refine w6 (1) vi103_45 rfl (by decide) rfl ?_
    refine w5 vi103_48 ?_
    refine ih (j + 1) _ _ (by omega) (by omega) (by omega) ⟨hM.to rfl rfl rfl rfl rfl (fun k' q => ?_), ?_, ?_, ?_, ?_⟩
    · dsimp only
      rw [vw_sr_j _ _ _ (by omega), vw_sr_j _ _ _ (by omega), vw_sr_j _ _ _ (by omega)]
    · dsimp only
      rw [vw_sr_ne _ _ (by omega), vw_sr_ne _ _ (by omega), vw_sr_eq, vw_sr_ne _ _ (by omega), vw_sr_eq, vw_sr_eq]
      exact vC_add hC (by omega) (by omega) (by omega) (by omega) (by omega) hp
    · dsimp only
      rw [vw_sr_ne _ _ (by omega), vw_sr_ne _ _ (by omega), vw_sr_eq, List.length_append]
      show (((σ2.1 12 0).length + 1 : Nat) : Int) ≤ _
      omega
    · dsimp only
      rw [vw_sr_j _ _ _ (by omega), vw_sr_j _ _ _ (by omega), vw_sr_j _ _ _ (by omega)]
      exact h3
    · dsimp only
      rw [vw_sr_j _ _ _ (by omega), vw_sr_j _ _ _ (by omega), vw_sr_j _ _ _ (by omega)]
      exact h4
theorem m_typeBehind {w : Nat} (hI : vI σ) (hw : w < 6) (hc0 : (w : Int) < σ.2 0 0) (n1 : σ.2 1 0 < 120) {z y q : Int} (z0 : -2147483648 ≤ z) (z1 : z < 2147483648) (y0 : 0 ≤ y) (y1 : y < 27) (q0 : 1 ≤ q) (q1 : q ≤ 6) (hQ : ∀ σ', vI σ' → Q [] σ') : vW vw_rep L xs (103, 0, [some (.ref 8), some (.int (jI ((w : Int)))), some (.ref (vw_cr w)), some (.int (jI (z))), some (.int (jI (y))), some (.int (jI (q))), none, none, none], []) σ Q := by
  refine w1 vi103_0 rfl rfl ?_
  refine w0 vi103_1 rfl rfl ?_
  refine w1 vi103_2 rfl rfl ?_
  refine w58 vi103_3 ?_
  have hJ := hI.1
  have hn0 := hJ.1.1
  have hbb := (vK_he hJ.1 w hw w hw).2
  refine c_begin vi103_6 hw (by omega) (by decide) (by omega) (by omega) hbb rfl (fun d σ1 hM hR => ?_)
  have hdd := hM.1
  refine w4 vi103_9 rfl rfl ?_
  refine w0 vi103_11 rfl rfl ?_
  refine w3 vi103_12 rfl rfl ?_
  refine w2 (0) vi103_14 (by decide) ?_
  refine w3 vi103_15 rfl rfl ?_
  refine m_tb_loop (σ := σ) (w := w) (d := d) n1 y0 y1 q0 q1 (fun σ2 u u0 u1 hT => ?_) q.toNat 0 σ1 z (by omega) z0 z1 ⟨hM, ?_, ?_, hR 3 (by omega), hR 4 (by omega)⟩
  · have hM2 := hT.1
    refine w1 vi103_51 rfl rfl ?_
    refine w0 vi103_52 rfl rfl ?_
    refine w15caretc (z := u) vi103_54 (by first | omega | exact ve_ix_le _ | exact vk_lat_le _ _ _ _ | assumption) ⟨by omega, by omega⟩ ?_
    try dsimp only
    refine w1 vi103_57 rfl rfl ?_
    refine w1 vi103_58 rfl rfl ?_
    refine w1 vi103_60 rfl rfl ?_
    refine c_finish (σ0 := σ) vi103_61 hw hI.1 (hM2.to rfl rfl rfl rfl rfl (fun k' q => rfl)) (by omega) rfl (fun σ4 hJ4 hn4 hr4 => ?_)
    dsimp only at hn4 hr4
    refine w1 vi103_64 rfl rfl ?_
    refine w1 vi103_65 rfl rfl ?_
    refine w14d (v := .int (jI (d : Int))) vi103_67 (by omega) (by show some (Value.int (jI (if d = 120 then -1 else (d : Int)))) = _; rw [if_neg (by omega)]) ?_
    refine c_rememberOwn vi103_70 hw (by omega) (by omega) (by rw [hr4 3 (by omega), hT.2.2.2.1]; have := hI.2.2 w hw; omega) rfl (fun lD hlD => ?_)
    refine w43 vi103_73 vm103.2.2.2 ?_
    refine hQ _ ?_
    have hJ5 : vJ (vw_sr (vw_sr σ4.1 3 w lD) 4 w [], σ4.2) := vJ_to hJ4 rfl rfl rfl rfl rfl (fun k' q => by dsimp only; rw [vw_sr_j _ _ _ (by omega), vw_sr_j _ _ _ (by omega)])
    refine vI_of hJ5 (σ0 := σ2) ?_ (fun i' hi' => ?_) (fun k' q => ?_)
    · show vC (σ4.2 1 0) _ _ _
      rw [hn4]
      show vC (σ2.2 1 0) _ _ _
      rw [hM2.2.1]
      exact hT.2.1
    · dsimp only
      by_cases e : i' = w
      · subst e
        rw [vw_sr_ne _ _ (by omega), vw_sr_eq, vw_sr_eq]
        show lD.length + 0 ≤ 8
        omega
      · rw [vw_sr_ne _ _ (by omega), vw_sr_ne _ _ (by omega), vw_sr_ne _ _ (by omega), vw_sr_ne _ _ (by omega), hr4 3 (by omega), hr4 4 (by omega)]
        rw [hT.2.2.2.1, hT.2.2.2.2]
        exact hI.2.2 i' hi'
    · dsimp only
      rw [vw_sr_j _ _ _ (by omega), vw_sr_j _ _ _ (by omega)]
      exact hr4 k' (by omega)
  · rw [hR 12 (by omega), hR 13 (by omega), hR 14 (by omega)]
    exact vC_mono hI.2.1 (by omega)
  · rw [hR 12 (by omega)]
    have := hI.2.1.2.2.1
    omega
theorem c_typeBehind (hc : vt_code k pc = (27, 103, b, c)) {w : Nat} (hI : vI σ) (hw : w < 6) (hc0 : (w : Int) < σ.2 0 0) (n1 : σ.2 1 0 < 120) {z y q : Int} (z0 : -2147483648 ≤ z) (z1 : z < 2147483648) (y0 : 0 ≤ y) (y1 : y < 27) (q0 : 1 ≤ q) (q1 : q ≤ 6) (hs : Nat.ble (vj_cat sc) 8 = true) (hQ : ∀ σ', vI σ' → vW vw_rep L xs (k, pc + 3, lc, sc) σ' Q) : vW vw_rep L xs (k, pc, lc, .int (jI (q)) :: .int (jI (y)) :: .int (jI (z)) :: .ref (vw_cr w) :: .int (jI ((w : Int))) :: .ref 8 :: sc) σ Q := by
  refine w27 (n := 6) (vs := [.int (jI (q)), .int (jI (y)), .int (jI (z)), .ref (vw_cr w), .int (jI ((w : Int))), .ref 8]) hc vm103.2.1 rfl (by rw [vm103.2.2.1]; rfl) hs (by simp only [List.length_cons]; omega) ⟨_, rfl⟩ (fun M hM => hM.2.2.2.2.2.1) ⟨by omega, by omega⟩ vm103.1 ?_
  rw [vm103.2.2.1]
  exact m_typeBehind hI hw hc0 n1 z0 z1 y0 y1 q0 q1 (Q := fun v σ1 => vW vw_rep L xs (k, pc + 3, lc, v ++ sc) σ1 Q) hQ
end VW18
