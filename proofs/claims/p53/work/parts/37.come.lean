/-! ===== deeds come ===== -/
section VW9
theorem vw_srf (R : Nat → Nat → List Int) (k i : Nat) (l : List Int) (k' : Nat) : vw_sr R k i l k' = if k' = k then vu (R k) i l else R k' := by
  funext j
  unfold vw_sr vu
  by_cases h : k' = k
  · subst h
    rw [if_pos rfl]
    by_cases e : j = i
    · rw [if_pos ⟨rfl, e⟩, if_pos e]
    · rw [if_neg (fun q => e q.2), if_neg e]
  · rw [if_neg (fun q => h q.1), if_neg h]
theorem vw_svf (V : Nat → Nat → Int) (k i : Nat) (z : Int) (k' : Nat) : vw_sv V k i z k' = if k' = k then vu (V k) i z else V k' := by
  funext j
  unfold vw_sv vu
  by_cases h : k' = k
  · subst h
    rw [if_pos rfl]
    by_cases e : j = i
    · rw [if_pos ⟨rfl, e⟩, if_pos e]
    · rw [if_neg (fun q => e q.2), if_neg e]
  · rw [if_neg (fun q => h q.1), if_neg h]
theorem vw_sr_k (R : Nat → Nat → List Int) (k i : Nat) (l : List Int) : vw_sr R k i l k = vu (R k) i l := by rw [vw_srf, if_pos rfl]
theorem vw_sr_j (R : Nat → Nat → List Int) {k k' : Nat} (i : Nat) (l : List Int) (h : ¬ k' = k) : vw_sr R k i l k' = R k' := by rw [vw_srf, if_neg h]
theorem vw_sv_k (V : Nat → Nat → Int) (k i : Nat) (z : Int) : vw_sv V k i z k = vu (V k) i z := by rw [vw_svf, if_pos rfl]
theorem vw_sv_j (V : Nat → Nat → Int) {k k' : Nat} (i : Nat) (z : Int) (h : ¬ k' = k) : vw_sv V k i z k' = V k' := by rw [vw_svf, if_neg h]
theorem vu_self {A : Type} (f : Nat → A) (i : Nat) : vu f i (f i) = f := by
  funext j
  unfold vu
  by_cases e : j = i
  · rw [if_pos e, e]
  · rw [if_neg e]
def vKs (σ : vw_S) : Prop := vK (σ.2 1 0) (σ.2 0 0) (σ.2 5) (σ.2 6) (σ.1 6) (σ.1 0) (σ.1 1) (σ.1 2)
def vRds (σ : vw_S) (i : Nat) : Prop := vRd (σ.1 6) (σ.1 1 i) (σ.1 2 i)
/-- the writer i got to know z deeds more, nothing else -/
def vLS (σ : vw_S) (i : Nat) (σ' : vw_S) (z : Nat) : Prop :=
  σ'.2 = σ.2 ∧ (∀ k j, ¬ (k < 3 ∧ j = i) → σ'.1 k j = σ.1 k j) ∧ vKs σ' ∧ (σ'.1 0 i).length = (σ.1 0 i).length + z ∧ (∀ a : Int, vl_at (σ.1 1 i) a ≤ vl_at (σ'.1 1 i) a) ∧ (z = 0 → σ'.1 0 i = σ.1 0 i ∧ σ'.1 1 i = σ.1 1 i)
theorem vLS.refl {σ : vw_S} {i : Nat} (h : vKs σ) : vLS σ i σ 0 := ⟨rfl, fun _ _ _ => rfl, h, rfl, fun _ => Int.le_refl _, fun _ => ⟨rfl, rfl⟩⟩
theorem vLS.trans {σ σ1 σ2 : vw_S} {i z1 z2 : Nat} (h : vLS σ i σ1 z1) (g : vLS σ1 i σ2 z2) : vLS σ i σ2 (z1 + z2) := by
  obtain ⟨a1, a2, a3, a4, a5, a6⟩ := h
  obtain ⟨b1, b2, b3, b4, b5, b6⟩ := g
  refine ⟨b1.trans a1, fun k j q => (b2 k j q).trans (a2 k j q), b3, by omega, fun a => Int.le_trans (a5 a) (b5 a), fun q => ?_⟩
  obtain ⟨x1, x2⟩ := a6 (by omega)
  obtain ⟨y1, y2⟩ := b6 (by omega)
  exact ⟨y1.trans x1, y2.trans x2⟩
/-- one deed more, out of the waiting ones or not -/
def vL1 (σ : vw_S) (i d : Nat) (wl : List Int) : vw_S := (vw_sr (vw_sr (vw_sr σ.1 2 i wl) 0 i (σ.1 0 i ++ [(d : Int)])) 1 i (vl_put (σ.1 1 i) (σ.2 5 d) (σ.2 6 d)), σ.2)
theorem vL1_LS {σ : vw_S} {i d : Nat} (hK : vKs σ) (hi : (i : Int) < σ.2 0 0) (hd : (d : Int) < σ.2 1 0) (hn : ¬ vk_kn σ i d) (ha : vk_ah σ i d) {wl : List Int} (hw : wl.Nodup) (hw2 : ∀ x ∈ wl, x ∈ σ.1 2 i ∧ ¬ x = (d : Int)) : vLS σ i (vL1 σ i d wl) 1 := by
  have hq := vK_learn hK hi hd hn ha hw hw2
  obtain ⟨hn0, hc, hA, hB, hH, hO, hF, hW⟩ := hK
  have hi6 : i < 6 := by omega
  obtain ⟨hl, hH2, -⟩ := hH i hi6
  obtain ⟨⟨a0, a1⟩, a2, a3⟩ := hA d hd
  have ee : (vL1 σ i d wl).1 = vw_sr (vw_sr (vw_sr σ.1 2 i wl) 0 i (σ.1 0 i ++ [(d : Int)])) 1 i (vl_put (σ.1 1 i) (σ.2 5 d) (σ.2 6 d)) := rfl
  have e0 : (vL1 σ i d wl).1 0 = vu (σ.1 0) i (σ.1 0 i ++ [(d : Int)]) := by
    rw [ee, vw_sr_j _ _ _ (show ¬ 0 = 1 by decide), vw_sr_k, vw_sr_j _ _ _ (show ¬ 0 = 2 by decide)]
  have e1 : (vL1 σ i d wl).1 1 = vu (σ.1 1) i (vl_put (σ.1 1 i) (σ.2 5 d) (σ.2 6 d)) := by
    rw [ee, vw_sr_k, vw_sr_j _ _ _ (show ¬ 1 = 0 by decide), vw_sr_j _ _ _ (show ¬ 1 = 2 by decide)]
  have e2 : (vL1 σ i d wl).1 2 = vu (σ.1 2) i wl := by
    rw [ee, vw_sr_j _ _ _ (show ¬ 2 = 1 by decide), vw_sr_j _ _ _ (show ¬ 2 = 0 by decide), vw_sr_k]
  have e6 : (vL1 σ i d wl).1 6 = σ.1 6 := by
    rw [ee, vw_sr_j _ _ _ (show ¬ 6 = 1 by decide), vw_sr_j _ _ _ (show ¬ 6 = 0 by decide), vw_sr_j _ _ _ (show ¬ 6 = 2 by decide)]
  refine ⟨rfl, fun k j q => ?_, ?_, ?_, fun a => ?_, fun q => absurd q (by decide)⟩
  · show vw_sr _ _ _ _ k j = _
    rw [vw_sr_ne _ _ (by omega), vw_sr_ne _ _ (by omega), vw_sr_ne _ _ (by omega)]
  · unfold vKs
    rw [e0, e1, e2, e6]
    exact hq
  · rw [e0, vu_eq, List.length_append]; rfl
  · rw [e1, vu_eq, vl_at_put a0 (by omega)]
    by_cases e : a = σ.2 5 d
    · rw [if_pos e, e]
      have : ¬ σ.2 6 d ≤ vl_at (σ.1 1 i) (σ.2 5 d) := hn
      omega
    · rw [if_neg e]; exact Int.le_refl _
theorem vl_rem_out {l : List Int} {p : Nat} (h : l.Nodup) (hp : p < l.length) : (vl_rem l (p : Int)).Nodup ∧ ∀ x ∈ vl_rem l (p : Int), x ∈ l ∧ ¬ x = vl_at l (p : Int) := by
  have e : vl_rem l (p : Int) = l.eraseIdx p := by
    unfold vl_rem
    rw [if_pos (by omega), Int.toNat_natCast]
  rw [e]
  refine ⟨h.sublist (List.eraseIdx_sublist _ _), fun x hx => ⟨(List.eraseIdx_sublist _ _).mem hx, fun q => ?_⟩⟩
  obtain ⟨j, hj, hjx⟩ := List.mem_eraseIdx_iff_getElem?.mp hx
  have h1 := vl_at_lt (l := l) (z := (p : Int)) (by omega) (by omega)
  rw [Int.toNat_natCast, ← q] at h1
  obtain ⟨j1, j2⟩ := List.getElem?_eq_some_iff.mp hjx
  obtain ⟨p1, p2⟩ := List.getElem?_eq_some_iff.mp h1
  have hP := List.pairwise_iff_getElem.mp h
  rcases Nat.lt_or_gt_of_ne hj with g | g
  · exact hP j p j1 p1 g (by rw [j2, p2])
  · exact hP p j p1 j1 g (by rw [j2, p2])
/-- there is room for one more -/
theorem vK_room {σ : vw_S} (hK : vKs σ) {i d : Nat} (hi : i < 6) (hd : (d : Int) < σ.2 1 0) (hn : ¬ vk_kn σ i d) : (σ.1 0 i).length < 120 := by
  obtain ⟨hn0, hc, hA, hB, hH, hO, hF, hW⟩ := hK
  obtain ⟨c1, c2, c3, c4, c5⟩ := hO i hi
  have h := vl_pigeon 120 ((d : Int) :: σ.1 0 i) (List.nodup_cons.mpr ⟨fun q => hn ((c3 d hd).mp q), c1⟩) (fun x hx => by
    rcases List.mem_cons.mp hx with q | q
    · rw [q]; omega
    · have := c2 x q; omega)
  rw [List.length_cons] at h
  omega
variable {L : Nat} {xs : Nat → Int32} {σ : vw_S} {Q : List Value → vw_S → Prop} {k pc a b c : Nat} {lc : List (Option Value)} {sc : List Value} {fr : vj_F}
theorem m_lw_loop {i m : Nat} (hi : i < 6) (hic : (i : Int) < σ.2 0 0) (hm : m ≤ 120) (hQ : ∀ (z : Nat) (σ' : vw_S), vLS σ i σ' z → vRds σ' i → Q [.int (jI (z : Int))] σ') : ∀ (e t : Nat) (σ1 : vw_S) (u : Option Value), t + e = m → vLS σ i σ1 t → (σ1.1 2 i).length + t = m → vW vw_rep L xs (20, 10, [some (.ref (vw_cr i)), some (.ref 9), some (.int (jI ((m : Int)))), some (.int (jI ((t : Int)))), u], []) σ1 Q := by
  intro e
  induction e with
  | zero =>
    intro t σ1 u ht hT hl
    refine w0 vi20_10 rfl rfl ?_
    refine w0 vi20_11 rfl rfl ?_
    refine w8 vi20_12 (vwc_3 ⟨by omega, by omega⟩ ⟨by omega, by omega⟩) (fun h12 => ?_) (fun h12 => by exfalso; omega)
    refine w0 vi20_53 rfl rfl ?_
    refine w42 vi20_54 vm20.2.2.2 ?_
    rw [show m = t by omega]
    refine hQ t σ1 hT (fun x hx => ?_)
    rw [List.eq_nil_of_length_eq_zero (show (σ1.1 2 i).length = 0 by omega)] at hx
    exact absurd hx List.not_mem_nil
  | succ e ih =>
    intro t σ1 u ht hT hl
    refine w0 vi20_10 rfl rfl ?_
    refine w0 vi20_11 rfl rfl ?_
    refine w8 vi20_12 (vwc_3 ⟨by omega, by omega⟩ ⟨by omega, by omega⟩) (fun h12 => by exfalso; omega) (fun h12 => ?_)
    refine w1 vi20_15 rfl rfl ?_
    refine w1 vi20_16 rfl rfl ?_
    refine c_ready vi20_17 (by first | omega | assumption | exact ⟨by omega, by omega⟩ | exact ⟨by decide, by decide⟩ | exact ⟨by decide, by assumption⟩ | exact ⟨by decide, Nat.lt_succ_of_le (by first | assumption | exact ve_ix_le _)⟩ | exact ve_ix_le _) rfl (fun p17 hp17 ha17 => ?_) (fun ha17 => ?_)
    ·
      refine w3 vi20_20 rfl rfl ?_
      refine w0 vi20_22 rfl rfl ?_
      refine w2 (-1) vi20_24 (by decide) ?_
      refine w8 vi20_25 (vwc_1 ⟨by omega, by omega⟩ ⟨by omega, by omega⟩) (fun h25 => ?_) (fun h25 => ?_)
      ·
        refine w1 vi20_30 rfl rfl ?_
        refine w1 vi20_31 rfl rfl ?_
        refine w1 vi20_32 rfl rfl ?_
        refine w14c vi20_33 (by first | omega | assumption | exact ve_ix_le _) rfl ?_
        refine w0 vi20_36 rfl rfl ?_
        refine c_rem vi20_38 (by first | omega | assumption | exact ⟨by omega, by omega⟩ | exact ⟨by decide, by decide⟩ | exact ⟨by decide, by assumption⟩ | exact ⟨by decide, Nat.lt_succ_of_le (by first | assumption | exact ve_ix_le _)⟩ | exact ve_ix_le _) ⟨by omega, by omega⟩ rfl ?_
        try dsimp only
        have hW2 := (hT.2.2.1.2.2.2.2.2.2.2 i hi).2 _ (List.mem_of_getElem? (vl_at_lt (l := σ1.1 2 i) (z := (p17 : Int)) (by omega) (by omega)))
        have hn0 := hT.2.2.1.1
        obtain ⟨d, hd⟩ : ∃ d : Nat, vl_at (σ1.1 2 i) (p17 : Int) = (d : Int) := ⟨(vl_at (σ1.1 2 i) (p17 : Int)).toNat, by omega⟩
        rw [hd] at hW2 ha17
        rw [Int.toNat_natCast] at hW2
        rw [ve_ix_in (by omega) (by omega), Int.toNat_natCast] at ha17
        rw [hd]
        refine c_deedAt vi20_41 (by omega) (by omega) rfl ?_
        rw [ve_ix_in (by omega) (by omega), Int.toNat_natCast]
        have hrm := vK_room hT.2.2.1 hi hW2.1.2 hW2.2
        refine c_learn vi20_44 hi (by omega) (show (vw_sr σ1.1 2 i (vl_rem (σ1.1 2 i) (p17 : Int)) 0 i).length < 120 by rw [vw_sr_ne _ _ (by omega)]; exact hrm) rfl ?_
        try dsimp only
        refine w6 (1) vi20_47 rfl (by decide) rfl ?_
        refine w5 vi20_50 ?_
        have hro := vl_rem_out (p := p17) (hT.2.2.1.2.2.2.2.2.2.2 i hi).1 hp17
        rw [hd] at hro
        have hV : σ1.2 = σ.2 := hT.1
        have hS := vL1_LS hT.2.2.1 (by rw [hV]; exact hic) hW2.1.2 hW2.2 ha17 hro.1 hro.2
        rw [vw_sr_ne _ _ (show ¬ (0 = 2 ∧ i = i) by omega), vw_sr_ne _ _ (show ¬ (1 = 2 ∧ i = i) by omega)]
        refine ih (t + 1) (vL1 σ1 i d (vl_rem (σ1.1 2 i) (p17 : Int))) _ (by omega) (hT.trans hS) ?_
        show (vw_sr _ _ _ _ 2 i).length + _ = _
        rw [vw_sr_eq, vl_rem_len (by omega) (by omega)]
        omega
      ·
        refine w0 vi20_28 rfl rfl ?_
        refine w42 vi20_29 vm20.2.2.2 ?_
        by_cases hpos : ∀ p : Nat, p < (σ1.1 2 i).length → ¬ vk_ah σ1 i (ve_ix (vl_at (σ1.1 2 i) (p : Int)))
        · have ha17 := hpos
          refine hQ t σ1 hT (fun x hx q => ?_)
          obtain ⟨j, hj⟩ := List.getElem?_of_mem hx
          have hj2 := (List.getElem?_eq_some_iff.mp hj).1
          have hj3 := vl_at_lt (l := σ1.1 2 i) (z := (j : Int)) (by omega) (by omega)
          rw [Int.toNat_natCast, hj] at hj3
          have hj4 : x = vl_at (σ1.1 2 i) (j : Int) := Option.some.inj hj3
          have hx0 := ((hT.2.2.1.2.2.2.2.2.2.2 i hi).2 x hx).1
          have hn0 := hT.2.2.1.1
          refine ha17 j hj2 ?_
          rw [← hj4, ve_ix_in (by omega) (by omega)]
          exact q
        · exfalso
          first
            | omega
            | exact hpos ha17
    ·
      refine w3 vi20_20 rfl rfl ?_
      refine w0 vi20_22 rfl rfl ?_
      refine w2 (-1) vi20_24 (by decide) ?_
      refine w8 vi20_25 (vwc_1 ⟨by omega, by omega⟩ ⟨by omega, by omega⟩) (fun h25 => by exfalso; omega) (fun h25 => ?_)
      refine w0 vi20_28 rfl rfl ?_
      refine w42 vi20_29 vm20.2.2.2 ?_
      by_cases hpos : ∀ p : Nat, p < (σ1.1 2 i).length → ¬ vk_ah σ1 i (ve_ix (vl_at (σ1.1 2 i) (p : Int)))
      · have ha17 := hpos
        refine hQ t σ1 hT (fun x hx q => ?_)
        obtain ⟨j, hj⟩ := List.getElem?_of_mem hx
        have hj2 := (List.getElem?_eq_some_iff.mp hj).1
        have hj3 := vl_at_lt (l := σ1.1 2 i) (z := (j : Int)) (by omega) (by omega)
        rw [Int.toNat_natCast, hj] at hj3
        have hj4 : x = vl_at (σ1.1 2 i) (j : Int) := Option.some.inj hj3
        have hx0 := ((hT.2.2.1.2.2.2.2.2.2.2 i hi).2 x hx).1
        have hn0 := hT.2.2.1.1
        refine ha17 j hj2 ?_
        rw [← hj4, ve_ix_in (by omega) (by omega)]
        exact q
      · exfalso
        first
          | omega
          | exact hpos ha17
theorem m_learnWaiting {i : Nat} (hi : i < 6) (hic : (i : Int) < σ.2 0 0) (hK : vKs σ) (hQ : ∀ (z : Nat) (σ' : vw_S), vLS σ i σ' z → vRds σ' i → Q [.int (jI ((z : Int)))] σ') : vW vw_rep L xs (20, 0, [some (.ref (vw_cr i)), some (.ref 9), none, none, none], []) σ Q := by
  refine vW_len (kk := 2) (i := i) ⟨by decide, hi⟩ (fun hl => ?_)
  have hl : (σ.1 2 i).length ≤ 120 := hl
  refine w1 vi20_0 rfl rfl ?_
  refine w14c vi20_1 (by first | omega | assumption | exact ve_ix_le _) rfl ?_
  refine c_size vi20_4 (by first | omega | assumption | exact ⟨by omega, by omega⟩ | exact ⟨by decide, by decide⟩ | exact ⟨by decide, by assumption⟩ | exact ⟨by decide, Nat.lt_succ_of_le (by first | assumption | exact ve_ix_le _)⟩ | exact ve_ix_le _) rfl ?_
  refine w3 vi20_7 rfl rfl ?_
  refine w2 (0) vi20_8 (by decide) ?_
  refine w3 vi20_9 rfl rfl ?_
  exact m_lw_loop hi hic hl hQ _ 0 σ _ (Nat.zero_add _) (vLS.refl hK) rfl
theorem c_learnWaiting (hc : vt_code k pc = (27, 20, b, c)) {i : Nat} (hi : i < 6) (hic : (i : Int) < σ.2 0 0) (hK : vKs σ) (hs : Nat.ble (vj_cat sc) 8 = true) (hQ : ∀ (z : Nat) (σ' : vw_S), vLS σ i σ' z → vRds σ' i → vW vw_rep L xs (k, pc + 3, lc, .int (jI ((z : Int))) :: sc) σ' Q) : vW vw_rep L xs (k, pc, lc, .ref 9 :: .ref (vw_cr i) :: sc) σ Q := by
  refine w27 (n := 2) (vs := [.ref 9, .ref (vw_cr i)]) hc vm20.2.1 rfl (by rw [vm20.2.2.1]; rfl) hs (by simp only [List.length_cons]; omega) ⟨_, rfl⟩ (fun M hM => hM.2.2.2.1 _ hi) (vw_tb_lt (vw_copy hi) (by omega)) vm20.1 ?_
  rw [vm20.2.2.1]
  exact m_learnWaiting hi hic hK (Q := fun v σ1 => vW vw_rep L xs (k, pc + 3, lc, v ++ sc) σ1 Q) hQ
theorem m_receive {i : Nat} (hi : i < 6) (hic : (i : Int) < σ.2 0 0) (hK : vKs σ) (hR : vRds σ i) {d : Nat} (hd : (d : Int) < σ.2 1 0) (hQ : ∀ (z : Nat) (σ' : vw_S), vLS σ i σ' z → vRds σ' i → (z = 0 → vk_kn σ i d ∨ ¬ vk_ah σ i d) → Q [.int (jI ((z : Int)))] σ') : vW vw_rep L xs (19, 0, [some (.ref (vw_cr i)), some (.ref 9), some (.int (jI ((d : Int)))), none], []) σ Q := by
  have hn0 := hK.1
  refine w1 vi19_0 rfl rfl ?_
  refine w0 vi19_1 rfl rfl ?_
  refine c_deedAt vi19_2 (by omega) (by omega) rfl ?_
  rw [ve_ix_in (by omega) (by omega), Int.toNat_natCast]
  refine w4 vi19_5 rfl rfl ?_
  refine w1 vi19_6 rfl rfl ?_
  refine w1 vi19_7 rfl rfl ?_
  refine c_knows vi19_8 (by first | omega | assumption | exact ⟨by omega, by omega⟩ | exact ⟨by decide, by decide⟩ | exact ⟨by decide, by assumption⟩ | exact ⟨by decide, Nat.lt_succ_of_le (by first | assumption | exact ve_ix_le _)⟩ | exact ve_ix_le _) (by first | omega | assumption | exact ⟨by omega, by omega⟩ | exact ⟨by decide, by decide⟩ | exact ⟨by decide, by assumption⟩ | exact ⟨by decide, Nat.lt_succ_of_le (by first | assumption | exact ve_ix_le _)⟩ | exact ve_ix_le _) rfl (fun hb8 => ?_) (fun hb8 => ?_)
  ·
    refine w7 vi19_11 (vwz_1 ⟨by omega, by omega⟩) (fun h11 => ?_) (fun h11 => by exfalso; omega)
    refine w2 (0) vi19_26 (by decide) ?_
    refine w42 vi19_27 vm19.2.2.2 ?_
    first
      | exact hQ 0 σ (vLS.refl hK) hR (fun _ => Or.inl hb8)
      | exact hQ 0 σ (vLS.refl hK) hR (fun _ => Or.inr (fun q => by
          rcases vl_pl_cases (σ.1 2 i) (d : Int) with g | g
          · omega
          · have hx := vl_at_lt (l := σ.1 2 i) (z := vl_pl (σ.1 2 i) (d : Int)) g.1 g.2.1
            rw [g.2.2] at hx
            have := hR _ (List.mem_of_getElem? hx)
            rw [Int.toNat_natCast] at this
            exact this q))
  ·
    refine w7 vi19_11 (vwz_1 ⟨by omega, by omega⟩) (fun h11 => by exfalso; omega) (fun h11 => ?_)
    refine w1 vi19_14 rfl rfl ?_
    refine w14c vi19_15 (by first | omega | assumption | exact ve_ix_le _) rfl ?_
    refine w0 vi19_18 rfl rfl ?_
    refine c_placeOf2 vi19_19 (by first | omega | assumption | exact ⟨by omega, by omega⟩ | exact ⟨by decide, by decide⟩ | exact ⟨by decide, by assumption⟩ | exact ⟨by decide, Nat.lt_succ_of_le (by first | assumption | exact ve_ix_le _)⟩ | exact ve_ix_le _) (by first | omega | assumption | exact ⟨by omega, by omega⟩ | exact ⟨by decide, by decide⟩ | exact ⟨by decide, by assumption⟩ | exact ⟨by decide, Nat.lt_succ_of_le (by first | assumption | exact ve_ix_le _)⟩ | exact ve_ix_le _) (by first | omega | assumption | exact ⟨by omega, by omega⟩ | exact ⟨by decide, by decide⟩ | exact ⟨by decide, by assumption⟩ | exact ⟨by decide, Nat.lt_succ_of_le (by first | assumption | exact ve_ix_le _)⟩ | exact ve_ix_le _) rfl (fun _ _ => ?_)
    refine w2 (-1) vi19_22 (by decide) ?_
    refine w8 vi19_23 (vwc_0 ⟨by omega, by omega⟩ ⟨by omega, by omega⟩) (fun h23 => ?_) (fun h23 => ?_)
    ·
      refine w1 vi19_28 rfl rfl ?_
      refine w1 vi19_29 rfl rfl ?_
      refine c_ahead vi19_30 (by first | omega | assumption | exact ⟨by omega, by omega⟩ | exact ⟨by decide, by decide⟩ | exact ⟨by decide, by assumption⟩ | exact ⟨by decide, Nat.lt_succ_of_le (by first | assumption | exact ve_ix_le _)⟩ | exact ve_ix_le _) (by first | omega | assumption | exact ⟨by omega, by omega⟩ | exact ⟨by decide, by decide⟩ | exact ⟨by decide, by assumption⟩ | exact ⟨by decide, Nat.lt_succ_of_le (by first | assumption | exact ve_ix_le _)⟩ | exact ve_ix_le _) rfl (fun hb30 => ?_) (fun hb30 => ?_)
      ·
        refine w7 vi19_33 (vwz_1 ⟨by omega, by omega⟩) (fun h33 => ?_) (fun h33 => by exfalso; omega)
        refine w1 vi19_46 rfl rfl ?_
        refine w1 vi19_47 rfl rfl ?_
        refine c_learn vi19_48 hi (by omega) (vK_room hK hi hd hb8) rfl ?_
        have hW := hK.2.2.2.2.2.2.2 i hi
        have hpl := vl_pl_cases (σ.1 2 i) (d : Int)
        have hS := vL1_LS hK hic hd hb8 hb30 hW.1 (fun x hx => ⟨hx, fun q => by
          rcases hpl with g | g
          · rw [q] at hx; exact g.2 hx
          · omega⟩)
        have eS : vL1 σ i d (σ.1 2 i) = (vw_sr (vw_sr σ.1 0 i (σ.1 0 i ++ [(d : Int)])) 1 i (vl_put (σ.1 1 i) (σ.2 5 d) (σ.2 6 d)), σ.2) := by
          unfold vL1
          rw [vw_sr_self]
        rw [eS] at hS
        refine w2 (1) vi19_51 (by decide) ?_
        refine w1 vi19_52 rfl rfl ?_
        refine w1 vi19_53 rfl rfl ?_
        refine c_learnWaiting vi19_54 hi hic hS.2.2.1 rfl (fun z σ2 hS2 hR2 => ?_)
        refine w9 vi19_57 ?_
        refine w42 vi19_58 vm19.2.2.2 ?_
        rw [show (1 : Int) + (z : Int) = ((1 + z : Nat) : Int) by omega]
        exact hQ (1 + z) σ2 (hS.trans hS2) hR2 (fun q => by omega)
      ·
        refine w7 vi19_33 (vwz_1 ⟨by omega, by omega⟩) (fun h33 => by exfalso; omega) (fun h33 => ?_)
        refine w1 vi19_36 rfl rfl ?_
        refine w14c vi19_37 (by first | omega | assumption | exact ve_ix_le _) rfl ?_
        refine w0 vi19_40 rfl rfl ?_
        refine c_add vi19_41 (by first | omega | assumption | exact ⟨by omega, by omega⟩ | exact ⟨by decide, by decide⟩ | exact ⟨by decide, by assumption⟩ | exact ⟨by decide, Nat.lt_succ_of_le (by first | assumption | exact ve_ix_le _)⟩ | exact ve_ix_le _) ⟨by omega, by omega⟩ rfl ?_
        try dsimp only
        refine w2 (0) vi19_44 (by decide) ?_
        refine w42 vi19_45 vm19.2.2.2 ?_
        refine hQ 0 (vw_sr σ.1 2 i (vl_add (vw_cap 2) (σ.1 2 i) (d : Int)), σ.2) ⟨rfl, fun k j q => vw_sr_ne _ _ (by omega), ?_, (by dsimp only; rw [vw_sr_ne _ _ (by omega)]; rfl), fun a => (by dsimp only; rw [vw_sr_ne _ _ (by omega)]; exact Int.le_refl _), fun _ => ⟨(by dsimp only; rw [vw_sr_ne _ _ (by omega)]), (by dsimp only; rw [vw_sr_ne _ _ (by omega)])⟩⟩ ?_ (fun _ => Or.inr hb30)
        · have hW := hK.2.2.2.2.2.2.2 i hi
          have hpl := vl_pl_cases (σ.1 2 i) (d : Int)
          have e2 : ∀ l : List Int, (vw_sr σ.1 2 i l) 0 = σ.1 0 ∧ (vw_sr σ.1 2 i l) 1 = σ.1 1 ∧ (vw_sr σ.1 2 i l) 6 = σ.1 6 ∧ (vw_sr σ.1 2 i l) 2 = vu (σ.1 2) i l := fun l => ⟨vw_sr_j _ _ _ (by decide), vw_sr_j _ _ _ (by decide), vw_sr_j _ _ _ (by decide), vw_sr_k _ _ _ _⟩
          unfold vKs
          dsimp only
          obtain ⟨q0, q1, q6, q2⟩ := e2 (vl_add (vw_cap 2) (σ.1 2 i) (d : Int))
          rw [q0, q1, q6, q2]
          obtain ⟨k1, k2, k3, k4, k5, k6, k7, k8⟩ := hK
          refine ⟨k1, k2, k3, k4, fun j hj => ?_, k6, k7, fun j hj => ?_⟩
          · obtain ⟨g1, g2, g3⟩ := k5 j hj
            refine ⟨g1, g2, fun q => ?_⟩
            rw [vu_ne _ _ (by omega)]
            exact g3 q
          · by_cases e : j = i
            · subst e
              rw [vu_eq]
              unfold vl_add
              split
              · refine ⟨?_, fun x hx => ?_⟩
                · rw [List.nodup_append]
                  refine ⟨hW.1, List.nodup_cons.mpr ⟨List.not_mem_nil, List.nodup_nil⟩, fun x hx y hy => ?_⟩
                  rw [List.mem_singleton] at hy
                  rw [hy]
                  intro h
                  rcases hpl with g | g
                  · rw [h] at hx; exact g.2 hx
                  · omega
                · rcases List.mem_append.mp hx with q | q
                  · exact hW.2 x q
                  · rw [List.mem_singleton] at q
                    rw [q, Int.toNat_natCast]
                    exact ⟨⟨by omega, hd⟩, hb8⟩
              · exact hW
            · rw [vu_ne _ _ e]; exact k8 j hj
        · unfold vRds
          dsimp only
          rw [vw_sr_eq, vw_sr_ne _ _ (by omega), show (vw_sr σ.1 2 i (vl_add (vw_cap 2) (σ.1 2 i) (d : Int))) 6 = σ.1 6 from vw_sr_j _ _ _ (by decide)]
          unfold vl_add
          split
          · intro x hx
            rcases List.mem_append.mp hx with q | q
            · exact hR x q
            · rw [List.mem_singleton] at q
              rw [q, Int.toNat_natCast]
              exact hb30
          · exact hR
    ·
      refine w2 (0) vi19_26 (by decide) ?_
      refine w42 vi19_27 vm19.2.2.2 ?_
      first
        | exact hQ 0 σ (vLS.refl hK) hR (fun _ => Or.inl hb8)
        | exact hQ 0 σ (vLS.refl hK) hR (fun _ => Or.inr (fun q => by
            rcases vl_pl_cases (σ.1 2 i) (d : Int) with g | g
            · omega
            · have hx := vl_at_lt (l := σ.1 2 i) (z := vl_pl (σ.1 2 i) (d : Int)) g.1 g.2.1
              rw [g.2.2] at hx
              have := hR _ (List.mem_of_getElem? hx)
              rw [Int.toNat_natCast] at this
              exact this q))
theorem c_receive (hc : vt_code k pc = (27, 19, b, c)) {i : Nat} (hi : i < 6) (hic : (i : Int) < σ.2 0 0) (hK : vKs σ) (hR : vRds σ i) {d : Nat} (hd : (d : Int) < σ.2 1 0) (hs : Nat.ble (vj_cat sc) 8 = true) (hQ : ∀ (z : Nat) (σ' : vw_S), vLS σ i σ' z → vRds σ' i → (z = 0 → vk_kn σ i d ∨ ¬ vk_ah σ i d) → vW vw_rep L xs (k, pc + 3, lc, .int (jI ((z : Int))) :: sc) σ' Q) : vW vw_rep L xs (k, pc, lc, .int (jI ((d : Int))) :: .ref 9 :: .ref (vw_cr i) :: sc) σ Q := by
  refine w27 (n := 3) (vs := [.int (jI ((d : Int))), .ref 9, .ref (vw_cr i)]) hc vm19.2.1 rfl (by rw [vm19.2.2.1]; rfl) hs (by simp only [List.length_cons]; omega) ⟨_, rfl⟩ (fun M hM => hM.2.2.2.1 _ hi) (vw_tb_lt (vw_copy hi) (by omega)) vm19.1 ?_
  rw [vm19.2.2.1]
  exact m_receive hi hic hK hR hd (Q := fun v σ1 => vW vw_rep L xs (k, pc + 3, lc, v ++ sc) σ1 Q) hQ
theorem vk_ah_of {σ σ1 : vw_S} {i s j d : Nat} (hK : vKs σ) (hi : i < 6) (hs : s < 6) (hd : (d : Int) < σ.2 1 0) (hj : (σ.1 0 s)[j]? = some (d : Int)) (h6 : σ1.1 6 = σ.1 6) (hV : σ1.2 = σ.2) (hK1 : vKs σ1)
    (h : ∀ j' d' : Nat, j' < j → (σ.1 0 s)[j']? = some (d' : Int) → vk_kn σ1 i d') : vk_ah σ1 i d := by
  obtain ⟨hn0, hc, hA, hB, hH, hO, hF, hW⟩ := hK
  intro a ha
  rw [h6]
  obtain ⟨-, -, a3⟩ := hA d hd
  by_cases m0 : vl_at (σ.1 6 d) (a : Int) ≤ 0
  · have := ((hK1.2.2.2.2.1 i hi).2.1 a ha).1
    omega
  · obtain ⟨d', q1, q2, q3⟩ := hF.2 a ha (vl_at (σ.1 6 d) (a : Int)) (by omega) (a3 a ha).2
    have h1 := (hO s hs).2.2.2.2 j d hj d' q1 (by rw [q2, q3]; exact Int.le_refl _)
    obtain ⟨j', h2⟩ := List.getElem?_of_mem h1
    rw [List.getElem?_take] at h2
    by_cases g : j' < j
    · rw [if_pos g] at h2
      have h3 := h j' d' g h2
      unfold vk_kn at h3
      rw [hV, q2, q3] at h3
      exact h3
    · rw [if_neg g] at h2; cases h2
theorem m_ra_loop {i s : Nat} (hi : i < 6) (hs : s < 6) (hne : ¬ s = i) (hic : (i : Int) < σ.2 0 0) (hK : vKs σ) (hl : (σ.1 0 s).length ≤ 120) (hQ : ∀ (z : Nat) (σ' : vw_S), vLS σ i σ' z → vRds σ' i → (z = 0 → ∀ (j d : Nat), (σ.1 0 s)[j]? = some (d : Int) → vk_kn σ' i d) → Q [.int (jI (z : Int))] σ') : ∀ (e j t : Nat) (σ1 : vw_S), j + e = (σ.1 0 s).length → vLS σ i σ1 t → vRds σ1 i → (t = 0 → ∀ (j' d : Nat), j' < j → (σ.1 0 s)[j']? = some (d : Int) → vk_kn σ1 i d) → vW vw_rep L xs (18, 5, [some (.ref (vw_cr i)), some (.ref 9), some (.ref (vw_rr 0 s)), some (.int (jI ((t : Int)))), some (.int (jI ((j : Int))))], []) σ1 Q := by
  intro e
  induction e with
  | zero =>
    intro j t σ1 hj hT hR1 hkn
    have hr : σ1.1 0 s = σ.1 0 s := hT.2.1 0 s (by omega)
    have hrl : (σ1.1 0 s).length = (σ.1 0 s).length := by rw [hr]
    refine w0 vi18_5 rfl rfl ?_
    refine w1 vi18_7 rfl rfl ?_
    refine c_size vi18_8 (by first | omega | assumption | exact ⟨by omega, by omega⟩ | exact ⟨by decide, by decide⟩ | exact ⟨by decide, by assumption⟩ | exact ⟨by decide, Nat.lt_succ_of_le (by first | assumption | exact ve_ix_le _)⟩ | exact ve_ix_le _) rfl ?_
    refine w8 vi18_11 (vwc_3 ⟨by omega, by omega⟩ ⟨by omega, by omega⟩) (fun h11 => ?_) (fun h11 => by exfalso; omega)
    refine w0 vi18_34 rfl rfl ?_
    refine w42 vi18_35 vm18.2.2.2 ?_
    exact hQ t σ1 hT hR1 (fun q j2 d hd => hkn q j2 d (by have := (List.getElem?_eq_some_iff.mp hd).1; omega) hd)
  | succ e ih =>
    intro j t σ1 hj hT hR1 hkn
    have hr : σ1.1 0 s = σ.1 0 s := hT.2.1 0 s (by omega)
    have hrl : (σ1.1 0 s).length = (σ.1 0 s).length := by rw [hr]
    refine w0 vi18_5 rfl rfl ?_
    refine w1 vi18_7 rfl rfl ?_
    refine c_size vi18_8 (by first | omega | assumption | exact ⟨by omega, by omega⟩ | exact ⟨by decide, by decide⟩ | exact ⟨by decide, by assumption⟩ | exact ⟨by decide, Nat.lt_succ_of_le (by first | assumption | exact ve_ix_le _)⟩ | exact ve_ix_le _) rfl ?_
    refine w8 vi18_11 (vwc_3 ⟨by omega, by omega⟩ ⟨by omega, by omega⟩) (fun h11 => by exfalso; omega) (fun h11 => ?_)
    refine w0 vi18_14 rfl rfl ?_
    refine w1 vi18_15 rfl rfl ?_
    refine w1 vi18_16 rfl rfl ?_
    refine w1 vi18_17 rfl rfl ?_
    refine w0 vi18_18 rfl rfl ?_
    have hj2 := vl_at_lt (l := σ1.1 0 s) (z := (j : Int)) (by omega) (by omega)
    have hx0 := (hK.2.2.2.2.2.1 s hs).2.1 (vl_at (σ1.1 0 s) (j : Int)) (by rw [← hr]; exact List.mem_of_getElem? hj2)
    have hn0 := hK.1
    refine c_at2 vi18_20 (by first | omega | assumption | exact ⟨by omega, by omega⟩ | exact ⟨by decide, by decide⟩ | exact ⟨by decide, by assumption⟩ | exact ⟨by decide, Nat.lt_succ_of_le (by first | assumption | exact ve_ix_le _)⟩ | exact ve_ix_le _) (by omega) (by omega) rfl (fun _ _ => ?_)
    obtain ⟨d, hd⟩ : ∃ d : Nat, vl_at (σ1.1 0 s) (j : Int) = (d : Int) := ⟨(vl_at (σ1.1 0 s) (j : Int)).toNat, by omega⟩
    rw [hd] at hj2 hx0
    rw [hd]
    rw [Int.toNat_natCast, hr] at hj2
    refine c_receive vi18_23 hi (by rw [hT.1]; exact hic) hT.2.2.1 hR1 (show (d : Int) < σ1.2 1 0 by rw [hT.1]; exact hx0.2) rfl (fun z σ2 hS2 hR2 hz => ?_)
    refine w9 vi18_26 ?_
    refine w3 vi18_27 rfl rfl ?_
    refine w6 (1) vi18_28 rfl (by decide) rfl ?_
    refine w5 vi18_31 ?_
    refine ih (j + 1) (t + z) σ2 (by omega) (hT.trans hS2) hR2 (fun q j2 d2 hj3 hd2 => ?_)
    have hz0 : z = 0 := by omega
    have ht0 : t = 0 := by omega
    obtain ⟨y1, y2⟩ := hS2.2.2.2.2.2 hz0
    have tr : ∀ d3 : Nat, vk_kn σ1 i d3 → vk_kn σ2 i d3 := fun d3 g => by
      unfold vk_kn at g ⊢
      rw [y2, hS2.1]
      exact g
    by_cases e : j2 = j
    · rw [e, hj2] at hd2
      have e3 : d = d2 := by have : (d : Int) = (d2 : Int) := Option.some.inj hd2; omega
      subst e3
      apply tr
      rcases hz hz0 with g | g
      · exact g
      · exact absurd (vk_ah_of hK hi hs hx0.2 hj2 (by funext m; exact hT.2.1 6 m (by omega)) hT.1 hT.2.2.1 (fun j' d' g1 g2 => hkn ht0 j' d' g1 g2)) g
    · exact tr d2 (hkn ht0 j2 d2 (by omega) hd2)
theorem m_receiveAll {i s : Nat} (hi : i < 6) (hs2 : s < 6) (hne : ¬ s = i) (hic : (i : Int) < σ.2 0 0) (hK : vKs σ) (hR : vRds σ i) (hQ : ∀ (z : Nat) (σ' : vw_S), vLS σ i σ' z → vRds σ' i → (z = 0 → ∀ (j d : Nat), (σ.1 0 s)[j]? = some (d : Int) → vk_kn σ' i d) → Q [.int (jI ((z : Int)))] σ') : vW vw_rep L xs (18, 0, [some (.ref (vw_cr i)), some (.ref 9), some (.ref (vw_rr 0 s)), none, none], []) σ Q := by
  refine vW_len (kk := 0) (i := s) ⟨by decide, hs2⟩ (fun hl => ?_)
  have hl : (σ.1 0 s).length ≤ 120 := hl
  refine w2 (0) vi18_0 (by decide) ?_
  refine w3 vi18_1 rfl rfl ?_
  refine w2 (0) vi18_2 (by decide) ?_
  refine w3 vi18_3 rfl rfl ?_
  exact m_ra_loop hi hs2 hne hic hK hl hQ _ 0 0 σ (Nat.zero_add _) (vLS.refl hK) hR (fun _ j d hj => absurd hj (Nat.not_lt_zero _))
theorem c_receiveAll (hc : vt_code k pc = (27, 18, b, c)) {i s : Nat} (hi : i < 6) (hs2 : s < 6) (hne : ¬ s = i) (hic : (i : Int) < σ.2 0 0) (hK : vKs σ) (hR : vRds σ i) (hs : Nat.ble (vj_cat sc) 8 = true) (hQ : ∀ (z : Nat) (σ' : vw_S), vLS σ i σ' z → vRds σ' i → (z = 0 → ∀ (j d : Nat), (σ.1 0 s)[j]? = some (d : Int) → vk_kn σ' i d) → vW vw_rep L xs (k, pc + 3, lc, .int (jI ((z : Int))) :: sc) σ' Q) : vW vw_rep L xs (k, pc, lc, .ref (vw_rr 0 s) :: .ref 9 :: .ref (vw_cr i) :: sc) σ Q := by
  refine w27 (n := 3) (vs := [.ref (vw_rr 0 s), .ref 9, .ref (vw_cr i)]) hc vm18.2.1 rfl (by rw [vm18.2.2.1]; rfl) hs (by simp only [List.length_cons]; omega) ⟨_, rfl⟩ (fun M hM => hM.2.2.2.1 _ hi) (vw_tb_lt (vw_copy hi) (by omega)) vm18.1 ?_
  rw [vm18.2.2.1]
  exact m_receiveAll hi hs2 hne hic hK hR (Q := fun v σ1 => vW vw_rep L xs (k, pc + 3, lc, v ++ sc) σ1 Q) hQ
end VW9
