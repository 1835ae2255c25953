/-! ===== writers' copies ===== -/
section VW7
/-- the writer i knows d; it knows all that is ahead of d -/
def vk_kn (σ : vw_S) (i d : Nat) : Prop := σ.2 6 d ≤ vl_at (σ.1 1 i) (σ.2 5 d)
def vk_ah (σ : vw_S) (i d : Nat) : Prop := ∀ a : Nat, a < 6 → vl_at (σ.1 6 d) (a : Int) ≤ vl_at (σ.1 1 i) (a : Int)
def vk_bey (l l2 : List Int) (n : Nat) : Int := vf (fun a s => s + max 0 (vl_at l (a : Int) - vl_at l2 (a : Int))) n 0
def vk_sum (l : List Int) (n : Nat) : Int := vf (fun a s => s + vl_at l (a : Int)) n 0
def vk_lat (V : Nat → Nat → Int) (l : List Int) (a : Int) (n : Nat) : Nat := vf (fun j d => if V 5 (ve_ix (vl_at l (j : Int))) = a ∧ V 6 d < V 6 (ve_ix (vl_at l (j : Int))) then ve_ix (vl_at l (j : Int)) else d) n 120
theorem vk_lat_le (V : Nat → Nat → Int) (l : List Int) (a : Int) (n : Nat) : vk_lat V l a n ≤ 120 := by
  induction n with
  | zero => exact Nat.le_refl _
  | succ n ih =>
    show (if _ then _ else _) ≤ 120
    split
    · exact ve_ix_le _
    · exact ih
theorem vk_sum_in {l : List Int} (h : ∀ a : Nat, a < 6 → 0 ≤ vl_at l (a : Int) ∧ vl_at l (a : Int) ≤ 120) : ∀ n, n ≤ 6 → 0 ≤ vk_sum l n ∧ vk_sum l n ≤ 120 * n := by
  intro n
  induction n with
  | zero => intro _; exact ⟨Int.le_refl _, Int.le_refl _⟩
  | succ n ih =>
    intro hn
    have h1 := ih (by omega)
    have h2 := h n (by omega)
    have e : vk_sum l (n + 1) = vk_sum l n + vl_at l (n : Int) := rfl
    omega
variable {L : Nat} {xs : Nat → Int32} {σ : vw_S} {Q : List Value → vw_S → Prop} {k pc a b c : Nat} {lc : List (Option Value)} {sc : List Value} {fr : vj_F}
theorem m_takeOver {i i2 : Nat} (hi : i < 6) (hi2 : i2 < 6) (hne : ¬ i2 = i) (hQ :  Q [] (vw_sr (vw_sr σ.1 0 i (σ.1 0 i2)) 1 i (σ.1 1 i2), σ.2)) : vW vw_rep L xs (10, 0, [some (.ref (vw_cr i)), some (.ref (vw_cr i2))], []) σ Q := by
  refine vW_len (kk := 0) (i := i2) ⟨by decide, hi2⟩ (fun hl0 => ?_)
  refine vW_len (kk := 1) (i := i2) ⟨by decide, hi2⟩ (fun hl1 => ?_)
  refine w1 vi10_0 rfl rfl ?_
  refine w14c vi10_1 (by first | omega | assumption | exact ve_ix_le _) rfl ?_
  refine w1 vi10_4 rfl rfl ?_
  refine w14c vi10_5 (by first | omega | assumption | exact ve_ix_le _) rfl ?_
  refine c_copyFrom vi10_8 (by first | omega | assumption | exact ⟨by omega, by omega⟩ | exact ⟨by decide, by decide⟩ | exact ⟨by decide, by assumption⟩ | exact ⟨by decide, Nat.lt_succ_of_le (by first | assumption | exact ve_ix_le _)⟩ | exact ve_ix_le _) (by first | omega | assumption | exact ⟨by omega, by omega⟩ | exact ⟨by decide, by decide⟩ | exact ⟨by decide, by assumption⟩ | exact ⟨by decide, Nat.lt_succ_of_le (by first | assumption | exact ve_ix_le _)⟩ | exact ve_ix_le _) (fun h => hne h.2) hl0 rfl ?_
  try dsimp only
  refine w1 vi10_11 rfl rfl ?_
  refine w14c vi10_12 (by first | omega | assumption | exact ve_ix_le _) rfl ?_
  refine w1 vi10_15 rfl rfl ?_
  refine w14c vi10_16 (by first | omega | assumption | exact ve_ix_le _) rfl ?_
  refine c_copyFrom vi10_19 (by first | omega | assumption | exact ⟨by omega, by omega⟩ | exact ⟨by decide, by decide⟩ | exact ⟨by decide, by assumption⟩ | exact ⟨by decide, Nat.lt_succ_of_le (by first | assumption | exact ve_ix_le _)⟩ | exact ve_ix_le _) (by first | omega | assumption | exact ⟨by omega, by omega⟩ | exact ⟨by decide, by decide⟩ | exact ⟨by decide, by assumption⟩ | exact ⟨by decide, Nat.lt_succ_of_le (by first | assumption | exact ve_ix_le _)⟩ | exact ve_ix_le _) (fun h => hne h.2) (show (vw_sr σ.1 0 i (σ.1 0 i2) 1 i2).length ≤ _ by rw [vw_sr_ne _ _ (by omega)]; exact hl1) rfl ?_
  try dsimp only
  refine w43 vi10_22 vm10.2.2.2 ?_
  rw [vw_sr_ne _ _ (by omega)]
  exact hQ
theorem c_takeOver (hc : vt_code k pc = (27, 10, b, c)) {i i2 : Nat} (hi : i < 6) (hi2 : i2 < 6) (hne : ¬ i2 = i) (hs : Nat.ble (vj_cat sc) 8 = true) (hQ :  vW vw_rep L xs (k, pc + 3, lc, sc) (vw_sr (vw_sr σ.1 0 i (σ.1 0 i2)) 1 i (σ.1 1 i2), σ.2) Q) : vW vw_rep L xs (k, pc, lc, .ref (vw_cr i2) :: .ref (vw_cr i) :: sc) σ Q := by
  refine w27 (n := 2) (vs := [.ref (vw_cr i2), .ref (vw_cr i)]) hc vm10.2.1 rfl (by rw [vm10.2.2.1]; rfl) hs (by simp only [List.length_cons]; omega) ⟨_, rfl⟩ (fun M hM => hM.2.2.2.1 _ hi) (vw_tb_lt (vw_copy hi) (by omega)) vm10.1 ?_
  rw [vm10.2.2.1]
  exact m_takeOver hi hi2 hne (Q := fun v σ1 => vW vw_rep L xs (k, pc + 3, lc, v ++ sc) σ1 Q) hQ
theorem m_knows {i : Nat} (hi : i < 6) {d : Nat} (hd : d ≤ 120) (h1 : vk_kn σ i d → Q [.int (jI (1))] σ) (h0 : ¬ vk_kn σ i d → Q [.int (jI (0))] σ) : vW vw_rep L xs (11, 0, [some (.ref (vw_cr i)), some (.ref (vw_dr d))], []) σ Q := by
  refine w1 vi11_0 rfl rfl ?_
  refine w14c vi11_1 (by first | omega | assumption | exact ve_ix_le _) rfl ?_
  refine w1 vi11_4 rfl rfl ?_
  refine w14d vi11_5 (by first | omega | assumption | exact ve_ix_le _) rfl ?_
  refine vW_n 5 (d) (fun _ _ => ?_)
  refine c_at2 vi11_8 (by first | omega | assumption | exact ⟨by omega, by omega⟩ | exact ⟨by decide, by decide⟩ | exact ⟨by decide, by assumption⟩ | exact ⟨by decide, Nat.lt_succ_of_le (by first | assumption | exact ve_ix_le _)⟩ | exact ve_ix_le _) (by first | omega | assumption | exact ⟨by omega, by omega⟩ | exact ⟨by decide, by decide⟩ | exact ⟨by decide, by assumption⟩ | exact ⟨by decide, Nat.lt_succ_of_le (by first | assumption | exact ve_ix_le _)⟩ | exact ve_ix_le _) (by first | omega | assumption | exact ⟨by omega, by omega⟩ | exact ⟨by decide, by decide⟩ | exact ⟨by decide, by assumption⟩ | exact ⟨by decide, Nat.lt_succ_of_le (by first | assumption | exact ve_ix_le _)⟩ | exact ve_ix_le _) rfl (fun _ _ => ?_)
  refine w1 vi11_11 rfl rfl ?_
  refine w14d vi11_12 (by first | omega | assumption | exact ve_ix_le _) rfl ?_
  refine vW_n 6 (d) (fun _ _ => ?_)
  refine w8 vi11_15 (vwc_2 ⟨by omega, by omega⟩ ⟨by omega, by omega⟩) (fun h15 => ?_) (fun h15 => ?_)
  ·
    refine w2 (0) vi11_22 (by decide) ?_
    refine w42b vi11_23 vm11.2.2.2 (by first | exact Or.inl rfl | exact Or.inr rfl | omega) ?_
    first | exact h1 (show σ.2 6 d ≤ vl_at (σ.1 1 i) (σ.2 5 d) by omega) | exact h0 (fun h => by have h : σ.2 6 d ≤ vl_at (σ.1 1 i) (σ.2 5 d) := h; omega)
  ·
    refine w2 (1) vi11_18 (by decide) ?_
    refine w5 vi11_19 ?_
    refine w42b vi11_23 vm11.2.2.2 (by first | exact Or.inl rfl | exact Or.inr rfl | omega) ?_
    first | exact h1 (show σ.2 6 d ≤ vl_at (σ.1 1 i) (σ.2 5 d) by omega) | exact h0 (fun h => by have h : σ.2 6 d ≤ vl_at (σ.1 1 i) (σ.2 5 d) := h; omega)
theorem c_knows (hc : vt_code k pc = (27, 11, b, c)) {i : Nat} (hi : i < 6) {d : Nat} (hd : d ≤ 120) (hs : Nat.ble (vj_cat sc) 8 = true) (h1 : vk_kn σ i d → vW vw_rep L xs (k, pc + 3, lc, .int (jI (1)) :: sc) σ Q) (h0 : ¬ vk_kn σ i d → vW vw_rep L xs (k, pc + 3, lc, .int (jI (0)) :: sc) σ Q) : vW vw_rep L xs (k, pc, lc, .ref (vw_dr d) :: .ref (vw_cr i) :: sc) σ Q := by
  refine w27 (n := 2) (vs := [.ref (vw_dr d), .ref (vw_cr i)]) hc vm11.2.1 rfl (by rw [vm11.2.2.1]; rfl) hs (by simp only [List.length_cons]; omega) ⟨_, rfl⟩ (fun M hM => hM.2.2.2.1 _ hi) (vw_tb_lt (vw_copy hi) (by omega)) vm11.1 ?_
  rw [vm11.2.2.1]
  exact m_knows hi hd (Q := fun v σ1 => vW vw_rep L xs (k, pc + 3, lc, v ++ sc) σ1 Q) h1 h0
theorem m_ahead_loop {i d : Nat} (hi : i < 6) (hd : d ≤ 120) (h1 : vk_ah σ i d → Q [.int (jI 1)] σ) (h0 : ¬ vk_ah σ i d → Q [.int (jI 0)] σ) : ∀ (e j : Nat), j + e = 6 → (∀ a : Nat, a < j → vl_at (σ.1 6 d) (a : Int) ≤ vl_at (σ.1 1 i) (a : Int)) → vW vw_rep L xs (12, 2, [some (.ref (vw_cr i)), some (.ref (vw_dr d)), some (.int (jI ((j : Int))))], []) σ Q := by
  intro e
  induction e with
  | zero =>
    intro j hj hh
    refine w0 vi12_2 rfl rfl ?_
    refine w2 (6) vi12_3 (by decide) ?_
    refine w8 vi12_5 (vwc_3 ⟨by omega, by omega⟩ ⟨by omega, by omega⟩) (fun h5 => ?_) (fun h5 => by exfalso; omega)
    refine w2 (1) vi12_35 (by decide) ?_
    refine w42b vi12_36 vm12.2.2.2 (by first | exact Or.inl rfl | exact Or.inr rfl | omega) ?_
    exact h1 (fun a ha => hh a (by omega))
  | succ e ih =>
    intro j hj hh
    refine w0 vi12_2 rfl rfl ?_
    refine w2 (6) vi12_3 (by decide) ?_
    refine w8 vi12_5 (vwc_3 ⟨by omega, by omega⟩ ⟨by omega, by omega⟩) (fun h5 => by exfalso; omega) (fun h5 => ?_)
    refine w1 vi12_8 rfl rfl ?_
    refine w14c vi12_9 (by first | omega | assumption | exact ve_ix_le _) rfl ?_
    refine w0 vi12_12 rfl rfl ?_
    refine c_at2 vi12_13 (by first | omega | assumption | exact ⟨by omega, by omega⟩ | exact ⟨by decide, by decide⟩ | exact ⟨by decide, by assumption⟩ | exact ⟨by decide, Nat.lt_succ_of_le (by first | assumption | exact ve_ix_le _)⟩ | exact ve_ix_le _) (by first | omega | assumption | exact ⟨by omega, by omega⟩ | exact ⟨by decide, by decide⟩ | exact ⟨by decide, by assumption⟩ | exact ⟨by decide, Nat.lt_succ_of_le (by first | assumption | exact ve_ix_le _)⟩ | exact ve_ix_le _) (by first | omega | assumption | exact ⟨by omega, by omega⟩ | exact ⟨by decide, by decide⟩ | exact ⟨by decide, by assumption⟩ | exact ⟨by decide, Nat.lt_succ_of_le (by first | assumption | exact ve_ix_le _)⟩ | exact ve_ix_le _) rfl (fun _ _ => ?_)
    refine w1 vi12_16 rfl rfl ?_
    refine w14d vi12_17 (by first | omega | assumption | exact ve_ix_le _) rfl ?_
    refine w0 vi12_20 rfl rfl ?_
    refine c_at2 vi12_21 (by first | omega | assumption | exact ⟨by omega, by omega⟩ | exact ⟨by decide, by decide⟩ | exact ⟨by decide, by assumption⟩ | exact ⟨by decide, Nat.lt_succ_of_le (by first | assumption | exact ve_ix_le _)⟩ | exact ve_ix_le _) (by first | omega | assumption | exact ⟨by omega, by omega⟩ | exact ⟨by decide, by decide⟩ | exact ⟨by decide, by assumption⟩ | exact ⟨by decide, Nat.lt_succ_of_le (by first | assumption | exact ve_ix_le _)⟩ | exact ve_ix_le _) (by first | omega | assumption | exact ⟨by omega, by omega⟩ | exact ⟨by decide, by decide⟩ | exact ⟨by decide, by assumption⟩ | exact ⟨by decide, Nat.lt_succ_of_le (by first | assumption | exact ve_ix_le _)⟩ | exact ve_ix_le _) rfl (fun _ _ => ?_)
    refine w8 vi12_24 (vwc_3 ⟨by omega, by omega⟩ ⟨by omega, by omega⟩) (fun h24 => ?_) (fun h24 => ?_)
    ·
      refine w6 (1) vi12_29 rfl (by decide) rfl ?_
      refine w5 vi12_32 ?_
      exact ih (j + 1) (by omega) (fun a ha => by
        by_cases e : a = j
        · subst e; omega
        · exact hh a (by omega))
    ·
      refine w2 (0) vi12_27 (by decide) ?_
      refine w42b vi12_28 vm12.2.2.2 (by first | exact Or.inl rfl | exact Or.inr rfl | omega) ?_
      exact h0 (fun h => by have := h j (by omega); omega)
theorem m_ahead {i : Nat} (hi : i < 6) {d : Nat} (hd : d ≤ 120) (h1 : vk_ah σ i d → Q [.int (jI (1))] σ) (h0 : ¬ vk_ah σ i d → Q [.int (jI (0))] σ) : vW vw_rep L xs (12, 0, [some (.ref (vw_cr i)), some (.ref (vw_dr d)), none], []) σ Q := by
  refine w2 (0) vi12_0 (by decide) ?_
  refine w3 vi12_1 rfl rfl ?_
  exact m_ahead_loop hi hd h1 h0 6 0 rfl (fun a ha => absurd ha (Nat.not_lt_zero _))
theorem c_ahead (hc : vt_code k pc = (27, 12, b, c)) {i : Nat} (hi : i < 6) {d : Nat} (hd : d ≤ 120) (hs : Nat.ble (vj_cat sc) 8 = true) (h1 : vk_ah σ i d → vW vw_rep L xs (k, pc + 3, lc, .int (jI (1)) :: sc) σ Q) (h0 : ¬ vk_ah σ i d → vW vw_rep L xs (k, pc + 3, lc, .int (jI (0)) :: sc) σ Q) : vW vw_rep L xs (k, pc, lc, .ref (vw_dr d) :: .ref (vw_cr i) :: sc) σ Q := by
  refine w27 (n := 2) (vs := [.ref (vw_dr d), .ref (vw_cr i)]) hc vm12.2.1 rfl (by rw [vm12.2.2.1]; rfl) hs (by simp only [List.length_cons]; omega) ⟨_, rfl⟩ (fun M hM => hM.2.2.2.1 _ hi) (vw_tb_lt (vw_copy hi) (by omega)) vm12.1 ?_
  rw [vm12.2.2.1]
  exact m_ahead hi hd (Q := fun v σ1 => vW vw_rep L xs (k, pc + 3, lc, v ++ sc) σ1 Q) h1 h0
theorem m_beyond_loop {i i2 : Nat} (hi : i < 6) (hi2 : i2 < 6) (hb : ∀ a : Nat, a < 6 → 0 ≤ vl_at (σ.1 1 i) (a : Int) ∧ vl_at (σ.1 1 i) (a : Int) ≤ 120) (hb2 : ∀ a : Nat, a < 6 → 0 ≤ vl_at (σ.1 1 i2) (a : Int) ∧ vl_at (σ.1 1 i2) (a : Int) ≤ 120) (hQ : Q [.int (jI (vk_bey (σ.1 1 i) (σ.1 1 i2) 6))] σ) : ∀ (e j : Nat), j + e = 6 → vW vw_rep L xs (13, 4, [some (.ref (vw_cr i)), some (.ref (vw_cr i2)), some (.int (jI (vk_bey (σ.1 1 i) (σ.1 1 i2) j))), some (.int (jI ((j : Int))))], []) σ Q := by
  intro e
  induction e with
  | zero =>
    intro j hj
    refine w0 vi13_4 rfl rfl ?_
    refine w2 (6) vi13_5 (by decide) ?_
    refine w8 vi13_7 (vwc_3 ⟨by omega, by omega⟩ ⟨by omega, by omega⟩) (fun h7 => ?_) (fun h7 => by exfalso; omega)
    refine w0 vi13_40 rfl rfl ?_
    refine w42 vi13_41 vm13.2.2.2 ?_
    rw [show j = 6 by omega]
    exact hQ
  | succ e ih =>
    intro j hj
    have q1 := hb j (by omega)
    have q2 := hb2 j (by omega)
    refine w0 vi13_4 rfl rfl ?_
    refine w2 (6) vi13_5 (by decide) ?_
    refine w8 vi13_7 (vwc_3 ⟨by omega, by omega⟩ ⟨by omega, by omega⟩) (fun h7 => by exfalso; omega) (fun h7 => ?_)
    refine w0 vi13_10 rfl rfl ?_
    refine w2 (0) vi13_11 (by decide) ?_
    refine w1 vi13_12 rfl rfl ?_
    refine w14c vi13_13 (by first | omega | assumption | exact ve_ix_le _) rfl ?_
    refine w0 vi13_16 rfl rfl ?_
    refine c_at2 vi13_17 (by first | omega | assumption | exact ⟨by omega, by omega⟩ | exact ⟨by decide, by decide⟩ | exact ⟨by decide, by assumption⟩ | exact ⟨by decide, Nat.lt_succ_of_le (by first | assumption | exact ve_ix_le _)⟩ | exact ve_ix_le _) (by first | omega | assumption | exact ⟨by omega, by omega⟩ | exact ⟨by decide, by decide⟩ | exact ⟨by decide, by assumption⟩ | exact ⟨by decide, Nat.lt_succ_of_le (by first | assumption | exact ve_ix_le _)⟩ | exact ve_ix_le _) (by first | omega | assumption | exact ⟨by omega, by omega⟩ | exact ⟨by decide, by decide⟩ | exact ⟨by decide, by assumption⟩ | exact ⟨by decide, Nat.lt_succ_of_le (by first | assumption | exact ve_ix_le _)⟩ | exact ve_ix_le _) rfl (fun _ _ => ?_)
    refine w1 vi13_20 rfl rfl ?_
    refine w14c vi13_21 (by first | omega | assumption | exact ve_ix_le _) rfl ?_
    refine w0 vi13_24 rfl rfl ?_
    refine c_at2 vi13_25 (by first | omega | assumption | exact ⟨by omega, by omega⟩ | exact ⟨by decide, by decide⟩ | exact ⟨by decide, by assumption⟩ | exact ⟨by decide, Nat.lt_succ_of_le (by first | assumption | exact ve_ix_le _)⟩ | exact ve_ix_le _) (by first | omega | assumption | exact ⟨by omega, by omega⟩ | exact ⟨by decide, by decide⟩ | exact ⟨by decide, by assumption⟩ | exact ⟨by decide, Nat.lt_succ_of_le (by first | assumption | exact ve_ix_le _)⟩ | exact ve_ix_le _) (by first | omega | assumption | exact ⟨by omega, by omega⟩ | exact ⟨by decide, by decide⟩ | exact ⟨by decide, by assumption⟩ | exact ⟨by decide, Nat.lt_succ_of_le (by first | assumption | exact ve_ix_le _)⟩ | exact ve_ix_le _) rfl (fun _ _ => ?_)
    refine w10 vi13_28 ?_
    refine w31 vi13_29 ⟨by omega, by omega⟩ ⟨by omega, by omega⟩ rfl ?_
    refine w9 vi13_32 ?_
    refine w3 vi13_33 rfl rfl ?_
    refine w6 (1) vi13_34 rfl (by decide) rfl ?_
    refine w5 vi13_37 ?_
    exact ih (j + 1) (by omega)
theorem m_beyond {i i2 : Nat} (hi : i < 6) (hi2 : i2 < 6) (hb : ∀ a : Nat, a < 6 → 0 ≤ vl_at (σ.1 1 i) (a : Int) ∧ vl_at (σ.1 1 i) (a : Int) ≤ 120) (hb2 : ∀ a : Nat, a < 6 → 0 ≤ vl_at (σ.1 1 i2) (a : Int) ∧ vl_at (σ.1 1 i2) (a : Int) ≤ 120) (hQ :  Q [.int (jI (vk_bey (σ.1 1 i) (σ.1 1 i2) 6))] σ) : vW vw_rep L xs (13, 0, [some (.ref (vw_cr i)), some (.ref (vw_cr i2)), none, none], []) σ Q := by
  refine w2 (0) vi13_0 (by decide) ?_
  refine w3 vi13_1 rfl rfl ?_
  refine w2 (0) vi13_2 (by decide) ?_
  refine w3 vi13_3 rfl rfl ?_
  exact m_beyond_loop hi hi2 hb hb2 hQ 6 0 rfl
theorem c_beyond (hc : vt_code k pc = (27, 13, b, c)) {i i2 : Nat} (hi : i < 6) (hi2 : i2 < 6) (hb : ∀ a : Nat, a < 6 → 0 ≤ vl_at (σ.1 1 i) (a : Int) ∧ vl_at (σ.1 1 i) (a : Int) ≤ 120) (hb2 : ∀ a : Nat, a < 6 → 0 ≤ vl_at (σ.1 1 i2) (a : Int) ∧ vl_at (σ.1 1 i2) (a : Int) ≤ 120) (hs : Nat.ble (vj_cat sc) 8 = true) (hQ :  vW vw_rep L xs (k, pc + 3, lc, .int (jI (vk_bey (σ.1 1 i) (σ.1 1 i2) 6)) :: sc) σ Q) : vW vw_rep L xs (k, pc, lc, .ref (vw_cr i2) :: .ref (vw_cr i) :: sc) σ Q := by
  refine w27 (n := 2) (vs := [.ref (vw_cr i2), .ref (vw_cr i)]) hc vm13.2.1 rfl (by rw [vm13.2.2.1]; rfl) hs (by simp only [List.length_cons]; omega) ⟨_, rfl⟩ (fun M hM => hM.2.2.2.1 _ hi) (vw_tb_lt (vw_copy hi) (by omega)) vm13.1 ?_
  rw [vm13.2.2.1]
  exact m_beyond hi hi2 hb hb2 (Q := fun v σ1 => vW vw_rep L xs (k, pc + 3, lc, v ++ sc) σ1 Q) hQ
theorem m_stamp_loop {i : Nat} (hi : i < 6) (hQ : ∀ z : Int, -2147483648 ≤ z → z < 2147483648 → Q [.int (jI z)] σ) : ∀ (e j : Nat) (g : Int), j + e = (σ.1 0 i).length → -2147483648 ≤ g → g < 2147483648 → vW vw_rep L xs (14, 4, [some (.ref (vw_cr i)), some (.ref 9), some (.int (jI (g))), some (.int (jI ((j : Int))))], []) σ Q := by
  intro e
  induction e with
  | zero =>
    intro j g hj g0 g1
    refine vW_len (kk := 0) (i := i) ⟨by decide, hi⟩ (fun hl0 => ?_)
    have hl0 : (σ.1 0 i).length ≤ 120 := hl0
    refine w0 vi14_4 rfl rfl ?_
    refine w1 vi14_5 rfl rfl ?_
    refine w14c vi14_6 (by first | omega | assumption | exact ve_ix_le _) rfl ?_
    refine c_size vi14_9 (by first | omega | assumption | exact ⟨by omega, by omega⟩ | exact ⟨by decide, by decide⟩ | exact ⟨by decide, by assumption⟩ | exact ⟨by decide, Nat.lt_succ_of_le (by first | assumption | exact ve_ix_le _)⟩ | exact ve_ix_le _) rfl ?_
    refine w8 vi14_12 (vwc_3 ⟨by omega, by omega⟩ ⟨by omega, by omega⟩) (fun h12 => ?_) (fun h12 => by exfalso; omega)
    refine w0 vi14_41 rfl rfl ?_
    refine w42 vi14_42 vm14.2.2.2 ?_
    exact hQ g g0 g1
  | succ e ih =>
    intro j g hj g0 g1
    refine vW_len (kk := 0) (i := i) ⟨by decide, hi⟩ (fun hl0 => ?_)
    have hl0 : (σ.1 0 i).length ≤ 120 := hl0
    refine w0 vi14_4 rfl rfl ?_
    refine w1 vi14_5 rfl rfl ?_
    refine w14c vi14_6 (by first | omega | assumption | exact ve_ix_le _) rfl ?_
    refine c_size vi14_9 (by first | omega | assumption | exact ⟨by omega, by omega⟩ | exact ⟨by decide, by decide⟩ | exact ⟨by decide, by assumption⟩ | exact ⟨by decide, Nat.lt_succ_of_le (by first | assumption | exact ve_ix_le _)⟩ | exact ve_ix_le _) rfl ?_
    refine w8 vi14_12 (vwc_3 ⟨by omega, by omega⟩ ⟨by omega, by omega⟩) (fun h12 => by exfalso; omega) (fun h12 => ?_)
    refine w0 vi14_15 rfl rfl ?_
    refine w1 vi14_16 rfl rfl ?_
    refine w1 vi14_17 rfl rfl ?_
    refine w14c vi14_18 (by first | omega | assumption | exact ve_ix_le _) rfl ?_
    refine w0 vi14_21 rfl rfl ?_
    refine c_at2 vi14_22 (by first | omega | assumption | exact ⟨by omega, by omega⟩ | exact ⟨by decide, by decide⟩ | exact ⟨by decide, by assumption⟩ | exact ⟨by decide, Nat.lt_succ_of_le (by first | assumption | exact ve_ix_le _)⟩ | exact ve_ix_le _) (by first | omega | assumption | exact ⟨by omega, by omega⟩ | exact ⟨by decide, by decide⟩ | exact ⟨by decide, by assumption⟩ | exact ⟨by decide, Nat.lt_succ_of_le (by first | assumption | exact ve_ix_le _)⟩ | exact ve_ix_le _) (by first | omega | assumption | exact ⟨by omega, by omega⟩ | exact ⟨by decide, by decide⟩ | exact ⟨by decide, by assumption⟩ | exact ⟨by decide, Nat.lt_succ_of_le (by first | assumption | exact ve_ix_le _)⟩ | exact ve_ix_le _) rfl (fun _ _ => ?_)
    refine c_deedAt vi14_25 (by first | omega | assumption | exact ⟨by omega, by omega⟩ | exact ⟨by decide, by decide⟩ | exact ⟨by decide, by assumption⟩ | exact ⟨by decide, Nat.lt_succ_of_le (by first | assumption | exact ve_ix_le _)⟩ | exact ve_ix_le _) (by first | omega | assumption | exact ⟨by omega, by omega⟩ | exact ⟨by decide, by decide⟩ | exact ⟨by decide, by assumption⟩ | exact ⟨by decide, Nat.lt_succ_of_le (by first | assumption | exact ve_ix_le _)⟩ | exact ve_ix_le _) rfl ?_
    refine w14d vi14_28 (by first | omega | assumption | exact ve_ix_le _) rfl ?_
    refine vW_n 7 ((ve_ix (vl_at (σ.1 0 i) ((j : Int))))) (fun _ _ => ?_)
    refine w31 vi14_31 ⟨by omega, by omega⟩ ⟨by omega, by omega⟩ rfl ?_
    refine w3 vi14_34 rfl rfl ?_
    refine w6 (1) vi14_35 rfl (by decide) rfl ?_
    refine w5 vi14_38 ?_
    exact ih (j + 1) _ (by omega) (by omega) (by omega)
theorem m_stamp {i : Nat} (hi : i < 6) (hQ : ∀ z : Int, -2147483648 ≤ z → z < 2147483648 → Q [.int (jI (z))] σ) : vW vw_rep L xs (14, 0, [some (.ref (vw_cr i)), some (.ref 9), none, none], []) σ Q := by
  refine w2 (0) vi14_0 (by decide) ?_
  refine w3 vi14_1 rfl rfl ?_
  refine w2 (0) vi14_2 (by decide) ?_
  refine w3 vi14_3 rfl rfl ?_
  exact m_stamp_loop hi hQ _ 0 0 (Nat.zero_add _) (by omega) (by omega)
theorem c_stamp (hc : vt_code k pc = (27, 14, b, c)) {i : Nat} (hi : i < 6) (hs : Nat.ble (vj_cat sc) 8 = true) (hQ : ∀ z : Int, -2147483648 ≤ z → z < 2147483648 → vW vw_rep L xs (k, pc + 3, lc, .int (jI (z)) :: sc) σ Q) : vW vw_rep L xs (k, pc, lc, .ref 9 :: .ref (vw_cr i) :: sc) σ Q := by
  refine w27 (n := 2) (vs := [.ref 9, .ref (vw_cr i)]) hc vm14.2.1 rfl (by rw [vm14.2.2.1]; rfl) hs (by simp only [List.length_cons]; omega) ⟨_, rfl⟩ (fun M hM => hM.2.2.2.1 _ hi) (vw_tb_lt (vw_copy hi) (by omega)) vm14.1 ?_
  rw [vm14.2.2.1]
  exact m_stamp hi (Q := fun v σ1 => vW vw_rep L xs (k, pc + 3, lc, v ++ sc) σ1 Q) hQ
theorem m_lat_loop {i : Nat} (hi : i < 6) {y : Int} (y0 : -2147483648 ≤ y) (y1 : y < 2147483648) (hQ : Q [.ref (vw_dr (vk_lat σ.2 (σ.1 0 i) y (σ.1 0 i).length))] σ) : ∀ (e j : Nat) (u : Option Value), j + e = (σ.1 0 i).length → vW vw_rep L xs (15, 8, [some (.ref (vw_cr i)), some (.ref 9), some (.int (jI (y))), some (.ref (vw_dr (vk_lat σ.2 (σ.1 0 i) y j))), some (.int (jI ((j : Int)))), u], []) σ Q := by
  have hle := vk_lat_le σ.2 (σ.1 0 i) y
  intro e
  induction e with
  | zero =>
    intro j u hj
    refine vW_len (kk := 0) (i := i) ⟨by decide, hi⟩ (fun hl0 => ?_)
    have hl0 : (σ.1 0 i).length ≤ 120 := hl0
    refine w0 vi15_8 rfl rfl ?_
    refine w1 vi15_10 rfl rfl ?_
    refine w14c vi15_11 (by first | omega | exact hle _ | assumption | exact ve_ix_le _) rfl ?_
    refine c_size vi15_14 (by first | omega | exact hle _ | assumption | exact ⟨by omega, by omega⟩ | exact ⟨by decide, by decide⟩ | exact ⟨by decide, by assumption⟩ | exact ⟨by decide, Nat.lt_succ_of_le (by first | assumption | exact ve_ix_le _)⟩ | exact ve_ix_le _) rfl ?_
    refine w8 vi15_17 (vwc_3 ⟨by omega, by omega⟩ ⟨by omega, by omega⟩) (fun h17 => ?_) (fun h17 => by exfalso; omega)
    refine w1 vi15_65 rfl rfl ?_
    refine w44 vi15_66 vm15.2.2.2 (by first | exact ⟨by omega, by omega⟩ | exact vw_tb_lt (vw_deed (by first | omega | exact hle _ | assumption | exact ve_ix_le _)) (by omega) | exact vw_tb_lt (vw_copy (by first | assumption | omega)) (by omega) | exact vw_tb_lt (vw_view (by first | assumption | omega)) (by omega) | exact vw_row_ref (by first | assumption | exact ⟨by decide, by decide⟩ | exact ⟨by decide, by assumption⟩)) ?_
    rw [show j = (σ.1 0 i).length by omega]
    exact hQ
  | succ e ih =>
    intro j u hj
    refine vW_len (kk := 0) (i := i) ⟨by decide, hi⟩ (fun hl0 => ?_)
    have hl0 : (σ.1 0 i).length ≤ 120 := hl0
    refine w0 vi15_8 rfl rfl ?_
    refine w1 vi15_10 rfl rfl ?_
    refine w14c vi15_11 (by first | omega | exact hle _ | assumption | exact ve_ix_le _) rfl ?_
    refine c_size vi15_14 (by first | omega | exact hle _ | assumption | exact ⟨by omega, by omega⟩ | exact ⟨by decide, by decide⟩ | exact ⟨by decide, by assumption⟩ | exact ⟨by decide, Nat.lt_succ_of_le (by first | assumption | exact ve_ix_le _)⟩ | exact ve_ix_le _) rfl ?_
    refine w8 vi15_17 (vwc_3 ⟨by omega, by omega⟩ ⟨by omega, by omega⟩) (fun h17 => by exfalso; omega) (fun h17 => ?_)
    refine w1 vi15_20 rfl rfl ?_
    refine w1 vi15_21 rfl rfl ?_
    refine w14c vi15_22 (by first | omega | exact hle _ | assumption | exact ve_ix_le _) rfl ?_
    refine w0 vi15_25 rfl rfl ?_
    refine c_at2 vi15_27 (by first | omega | exact hle _ | assumption | exact ⟨by omega, by omega⟩ | exact ⟨by decide, by decide⟩ | exact ⟨by decide, by assumption⟩ | exact ⟨by decide, Nat.lt_succ_of_le (by first | assumption | exact ve_ix_le _)⟩ | exact ve_ix_le _) (by first | omega | exact hle _ | assumption | exact ⟨by omega, by omega⟩ | exact ⟨by decide, by decide⟩ | exact ⟨by decide, by assumption⟩ | exact ⟨by decide, Nat.lt_succ_of_le (by first | assumption | exact ve_ix_le _)⟩ | exact ve_ix_le _) (by first | omega | exact hle _ | assumption | exact ⟨by omega, by omega⟩ | exact ⟨by decide, by decide⟩ | exact ⟨by decide, by assumption⟩ | exact ⟨by decide, Nat.lt_succ_of_le (by first | assumption | exact ve_ix_le _)⟩ | exact ve_ix_le _) rfl (fun _ _ => ?_)
    refine c_deedAt vi15_30 (by first | omega | exact hle _ | assumption | exact ⟨by omega, by omega⟩ | exact ⟨by decide, by decide⟩ | exact ⟨by decide, by assumption⟩ | exact ⟨by decide, Nat.lt_succ_of_le (by first | assumption | exact ve_ix_le _)⟩ | exact ve_ix_le _) (by first | omega | exact hle _ | assumption | exact ⟨by omega, by omega⟩ | exact ⟨by decide, by decide⟩ | exact ⟨by decide, by assumption⟩ | exact ⟨by decide, Nat.lt_succ_of_le (by first | assumption | exact ve_ix_le _)⟩ | exact ve_ix_le _) rfl ?_
    refine w4 vi15_33 rfl rfl ?_
    refine w1 vi15_35 rfl rfl ?_
    refine w14d vi15_37 (by first | omega | exact hle _ | assumption | exact ve_ix_le _) rfl ?_
    refine vW_n 5 ((ve_ix (vl_at (σ.1 0 i) ((j : Int))))) (fun _ _ => ?_)
    refine w0 vi15_40 rfl rfl ?_
    refine w8 vi15_41 (vwc_1 ⟨by omega, by omega⟩ ⟨by omega, by omega⟩) (fun h41 => ?_) (fun h41 => ?_)
    ·
      refine w6 (1) vi15_59 rfl (by decide) rfl ?_
      refine w5 vi15_62 ?_
      have q := ih (j + 1) (some (.ref (vw_dr (ve_ix (vl_at (σ.1 0 i) (j : Int)))))) (by omega)
      have e1 : vk_lat σ.2 (σ.1 0 i) y (j + 1) = if σ.2 5 (ve_ix (vl_at (σ.1 0 i) (j : Int))) = y ∧ σ.2 6 (vk_lat σ.2 (σ.1 0 i) y j) < σ.2 6 (ve_ix (vl_at (σ.1 0 i) (j : Int))) then ve_ix (vl_at (σ.1 0 i) (j : Int)) else vk_lat σ.2 (σ.1 0 i) y j := rfl
      rw [e1] at q
      first
        | (rw [if_pos ⟨by omega, by omega⟩] at q; exact q)
        | (rw [if_neg (by omega)] at q; exact q)
    ·
      refine w1 vi15_44 rfl rfl ?_
      refine w14d vi15_46 (by first | omega | exact hle _ | assumption | exact ve_ix_le _) rfl ?_
      refine vW_n 6 ((ve_ix (vl_at (σ.1 0 i) ((j : Int))))) (fun _ _ => ?_)
      refine w1 vi15_49 rfl rfl ?_
      refine w14d vi15_50 (by first | omega | exact hle _ | assumption | exact ve_ix_le _) rfl ?_
      refine vW_n 6 ((vk_lat σ.2 (σ.1 0 i) y j)) (fun _ _ => ?_)
      refine w8 vi15_53 (vwc_5 ⟨by omega, by omega⟩ ⟨by omega, by omega⟩) (fun h53 => ?_) (fun h53 => ?_)
      ·
        refine w6 (1) vi15_59 rfl (by decide) rfl ?_
        refine w5 vi15_62 ?_
        have q := ih (j + 1) (some (.ref (vw_dr (ve_ix (vl_at (σ.1 0 i) (j : Int)))))) (by omega)
        have e1 : vk_lat σ.2 (σ.1 0 i) y (j + 1) = if σ.2 5 (ve_ix (vl_at (σ.1 0 i) (j : Int))) = y ∧ σ.2 6 (vk_lat σ.2 (σ.1 0 i) y j) < σ.2 6 (ve_ix (vl_at (σ.1 0 i) (j : Int))) then ve_ix (vl_at (σ.1 0 i) (j : Int)) else vk_lat σ.2 (σ.1 0 i) y j := rfl
        rw [e1] at q
        first
          | (rw [if_pos ⟨by omega, by omega⟩] at q; exact q)
          | (rw [if_neg (by omega)] at q; exact q)
      ·
        refine w1 vi15_56 rfl rfl ?_
        refine w4 vi15_58 rfl rfl ?_
        refine w6 (1) vi15_59 rfl (by decide) rfl ?_
        refine w5 vi15_62 ?_
        have q := ih (j + 1) (some (.ref (vw_dr (ve_ix (vl_at (σ.1 0 i) (j : Int)))))) (by omega)
        have e1 : vk_lat σ.2 (σ.1 0 i) y (j + 1) = if σ.2 5 (ve_ix (vl_at (σ.1 0 i) (j : Int))) = y ∧ σ.2 6 (vk_lat σ.2 (σ.1 0 i) y j) < σ.2 6 (ve_ix (vl_at (σ.1 0 i) (j : Int))) then ve_ix (vl_at (σ.1 0 i) (j : Int)) else vk_lat σ.2 (σ.1 0 i) y j := rfl
        rw [e1] at q
        first
          | (rw [if_pos ⟨by omega, by omega⟩] at q; exact q)
          | (rw [if_neg (by omega)] at q; exact q)
theorem m_lat {i : Nat} (hi : i < 6) {y : Int} (y0 : -2147483648 ≤ y) (y1 : y < 2147483648) (hQ :  Q [.ref (vw_dr (vk_lat σ.2 (σ.1 0 i) y (σ.1 0 i).length))] σ) : vW vw_rep L xs (15, 0, [some (.ref (vw_cr i)), some (.ref 9), some (.int (jI (y))), none, none, none], []) σ Q := by
  refine w1 vi15_0 rfl rfl ?_
  refine w14h vi15_1 rfl ?_
  refine w4 vi15_4 rfl rfl ?_
  refine w2 (0) vi15_5 (by decide) ?_
  refine w3 vi15_6 rfl rfl ?_
  exact m_lat_loop hi y0 y1 hQ _ 0 _ (Nat.zero_add _)
theorem c_lat (hc : vt_code k pc = (27, 15, b, c)) {i : Nat} (hi : i < 6) {y : Int} (y0 : -2147483648 ≤ y) (y1 : y < 2147483648) (hs : Nat.ble (vj_cat sc) 8 = true) (hQ :  vW vw_rep L xs (k, pc + 3, lc, .ref (vw_dr (vk_lat σ.2 (σ.1 0 i) y (σ.1 0 i).length)) :: sc) σ Q) : vW vw_rep L xs (k, pc, lc, .int (jI (y)) :: .ref 9 :: .ref (vw_cr i) :: sc) σ Q := by
  refine w27 (n := 3) (vs := [.int (jI (y)), .ref 9, .ref (vw_cr i)]) hc vm15.2.1 rfl (by rw [vm15.2.2.1]; rfl) hs (by simp only [List.length_cons]; omega) ⟨_, rfl⟩ (fun M hM => hM.2.2.2.1 _ hi) (vw_tb_lt (vw_copy hi) (by omega)) vm15.1 ?_
  rw [vm15.2.2.1]
  exact m_lat hi y0 y1 (Q := fun v σ1 => vW vw_rep L xs (k, pc + 3, lc, v ++ sc) σ1 Q) hQ
theorem m_learn {i : Nat} (hi : i < 6) {d : Nat} (hd : d < 120) (hl : (σ.1 0 i).length < 120) (hQ :  Q [] (vw_sr (vw_sr σ.1 0 i (σ.1 0 i ++ [(d : Int)])) 1 i (vl_put (σ.1 1 i) (σ.2 5 d) (σ.2 6 d)), σ.2)) : vW vw_rep L xs (16, 0, [some (.ref (vw_cr i)), some (.ref (vw_dr d))], []) σ Q := by
  refine vW_n 5 d (fun _ _ => ?_)
  refine vW_n 6 d (fun _ _ => ?_)
  refine w1 vi16_0 rfl rfl ?_
  refine w14c vi16_1 (by first | omega | assumption | exact ve_ix_le _) rfl ?_
  refine w1 vi16_4 rfl rfl ?_
  refine w14d vi16_5 (by omega) rfl ?_
  rw [if_neg (show ¬ d = 120 by omega)]
  refine c_add vi16_8 (by first | omega | assumption | exact ⟨by omega, by omega⟩ | exact ⟨by decide, by decide⟩ | exact ⟨by decide, by assumption⟩ | exact ⟨by decide, Nat.lt_succ_of_le (by first | assumption | exact ve_ix_le _)⟩ | exact ve_ix_le _) ⟨by omega, by omega⟩ rfl ?_
  try dsimp only
  refine w1 vi16_11 rfl rfl ?_
  refine w14c vi16_12 (by first | omega | assumption | exact ve_ix_le _) rfl ?_
  refine w1 vi16_15 rfl rfl ?_
  refine w14d vi16_16 (by first | omega | assumption | exact ve_ix_le _) rfl ?_
  refine w1 vi16_19 rfl rfl ?_
  refine w14d vi16_20 (by first | omega | assumption | exact ve_ix_le _) rfl ?_
  refine c_put vi16_23 (by first | omega | assumption | exact ⟨by omega, by omega⟩ | exact ⟨by decide, by decide⟩ | exact ⟨by decide, by assumption⟩ | exact ⟨by decide, Nat.lt_succ_of_le (by first | assumption | exact ve_ix_le _)⟩ | exact ve_ix_le _) ⟨by omega, by omega⟩ ⟨by omega, by omega⟩ rfl ?_
  try dsimp only
  refine w43 vi16_26 vm16.2.2.2 ?_
  rw [vl_add_lt _ (show (σ.1 0 i).length < vw_cap 0 from hl), vw_sr_ne _ _ (by omega)]
  exact hQ
theorem c_learn (hc : vt_code k pc = (27, 16, b, c)) {i : Nat} (hi : i < 6) {d : Nat} (hd : d < 120) (hl : (σ.1 0 i).length < 120) (hs : Nat.ble (vj_cat sc) 8 = true) (hQ :  vW vw_rep L xs (k, pc + 3, lc, sc) (vw_sr (vw_sr σ.1 0 i (σ.1 0 i ++ [(d : Int)])) 1 i (vl_put (σ.1 1 i) (σ.2 5 d) (σ.2 6 d)), σ.2) Q) : vW vw_rep L xs (k, pc, lc, .ref (vw_dr d) :: .ref (vw_cr i) :: sc) σ Q := by
  refine w27 (n := 2) (vs := [.ref (vw_dr d), .ref (vw_cr i)]) hc vm16.2.1 rfl (by rw [vm16.2.2.1]; rfl) hs (by simp only [List.length_cons]; omega) ⟨_, rfl⟩ (fun M hM => hM.2.2.2.1 _ hi) (vw_tb_lt (vw_copy hi) (by omega)) vm16.1 ?_
  rw [vm16.2.2.1]
  exact m_learn hi hd hl (Q := fun v σ1 => vW vw_rep L xs (k, pc + 3, lc, v ++ sc) σ1 Q) hQ
theorem vl_add_len (c : Nat) (l : List Int) (y : Int) : (vl_add c l y).length ≤ l.length + 1 := by
  unfold vl_add
  split
  · rw [List.length_append]; exact Nat.le_refl _
  · omega
theorem m_rememberOwn {i : Nat} (hi : i < 6) {y : Int} (y0 : -2147483648 ≤ y) (y1 : y < 2147483648) (hl : (σ.1 3 i).length ≤ 8) (hQ : ∀ l : List Int, l.length ≤ 8 → Q [] (vw_sr (vw_sr σ.1 3 i l) 4 i [], σ.2)) : vW vw_rep L xs (17, 0, [some (.ref (vw_cr i)), some (.int (jI (y)))], []) σ Q := by
  have ha := vl_add_len (vw_cap 3) (σ.1 3 i) y
  refine w1 vi17_0 rfl rfl ?_
  refine w14c vi17_1 (by first | omega | assumption | exact ve_ix_le _) rfl ?_
  refine w0 vi17_4 rfl rfl ?_
  refine c_add vi17_5 (by first | omega | assumption | exact ⟨by omega, by omega⟩ | exact ⟨by decide, by decide⟩ | exact ⟨by decide, by assumption⟩ | exact ⟨by decide, Nat.lt_succ_of_le (by first | assumption | exact ve_ix_le _)⟩ | exact ve_ix_le _) ⟨by omega, by omega⟩ rfl ?_
  try dsimp only
  refine w1 vi17_8 rfl rfl ?_
  refine w14c vi17_9 (by first | omega | assumption | exact ve_ix_le _) rfl ?_
  refine c_size vi17_12 (by first | omega | assumption | exact ⟨by omega, by omega⟩ | exact ⟨by decide, by decide⟩ | exact ⟨by decide, by assumption⟩ | exact ⟨by decide, Nat.lt_succ_of_le (by first | assumption | exact ve_ix_le _)⟩ | exact ve_ix_le _) rfl ?_
  try dsimp only
  rw [vw_sr_eq]
  refine w2 (8) vi17_15 (by decide) ?_
  refine w8 vi17_17 (vwc_5 ⟨by omega, by omega⟩ ⟨by omega, by omega⟩) (fun h17 => ?_) (fun h17 => ?_)
  ·
    refine w1 vi17_29 rfl rfl ?_
    refine w14c vi17_30 (by first | omega | assumption | exact ve_ix_le _) rfl ?_
    refine c_clear vi17_33 (by first | omega | assumption | exact ⟨by omega, by omega⟩ | exact ⟨by decide, by decide⟩ | exact ⟨by decide, by assumption⟩ | exact ⟨by decide, Nat.lt_succ_of_le (by first | assumption | exact ve_ix_le _)⟩ | exact ve_ix_le _) rfl ?_
    try dsimp only
    refine w43 vi17_36 vm17.2.2.2 ?_
    refine hQ _ ?_
    first
      | omega
      | (rw [vl_rem_len (by omega) (by omega)]; omega)
  ·
    refine w1 vi17_20 rfl rfl ?_
    refine w14c vi17_21 (by first | omega | assumption | exact ve_ix_le _) rfl ?_
    refine w2 (0) vi17_24 (by decide) ?_
    refine c_rem vi17_25 (by first | omega | assumption | exact ⟨by omega, by omega⟩ | exact ⟨by decide, by decide⟩ | exact ⟨by decide, by assumption⟩ | exact ⟨by decide, Nat.lt_succ_of_le (by first | assumption | exact ve_ix_le _)⟩ | exact ve_ix_le _) ⟨by omega, by omega⟩ rfl ?_
    try dsimp only
    rw [vw_sr_sr, vw_sr_eq]
    refine w39 vi17_28 rfl ?_
    refine w1 vi17_29 rfl rfl ?_
    refine w14c vi17_30 (by first | omega | assumption | exact ve_ix_le _) rfl ?_
    refine c_clear vi17_33 (by first | omega | assumption | exact ⟨by omega, by omega⟩ | exact ⟨by decide, by decide⟩ | exact ⟨by decide, by assumption⟩ | exact ⟨by decide, Nat.lt_succ_of_le (by first | assumption | exact ve_ix_le _)⟩ | exact ve_ix_le _) rfl ?_
    try dsimp only
    refine w43 vi17_36 vm17.2.2.2 ?_
    refine hQ _ ?_
    first
      | omega
      | (rw [vl_rem_len (by omega) (by omega)]; omega)
theorem c_rememberOwn (hc : vt_code k pc = (27, 17, b, c)) {i : Nat} (hi : i < 6) {y : Int} (y0 : -2147483648 ≤ y) (y1 : y < 2147483648) (hl : (σ.1 3 i).length ≤ 8) (hs : Nat.ble (vj_cat sc) 8 = true) (hQ : ∀ l : List Int, l.length ≤ 8 → vW vw_rep L xs (k, pc + 3, lc, sc) (vw_sr (vw_sr σ.1 3 i l) 4 i [], σ.2) Q) : vW vw_rep L xs (k, pc, lc, .int (jI (y)) :: .ref (vw_cr i) :: sc) σ Q := by
  refine w27 (n := 2) (vs := [.int (jI (y)), .ref (vw_cr i)]) hc vm17.2.1 rfl (by rw [vm17.2.2.1]; rfl) hs (by simp only [List.length_cons]; omega) ⟨_, rfl⟩ (fun M hM => hM.2.2.2.1 _ hi) (vw_tb_lt (vw_copy hi) (by omega)) vm17.1 ?_
  rw [vm17.2.2.1]
  exact m_rememberOwn hi y0 y1 hl (Q := fun v σ1 => vW vw_rep L xs (k, pc + 3, lc, v ++ sc) σ1 Q) hQ
theorem m_ready_loop {i : Nat} (hi : i < 6) (h1 : ∀ p : Nat, p < (σ.1 2 i).length → vk_ah σ i (ve_ix (vl_at (σ.1 2 i) (p : Int))) → Q [.int (jI (p : Int))] σ) (h0 : (∀ p : Nat, p < (σ.1 2 i).length → ¬ vk_ah σ i (ve_ix (vl_at (σ.1 2 i) (p : Int)))) → Q [.int (jI (-1))] σ) : ∀ (e j : Nat), j + e = (σ.1 2 i).length → (∀ p : Nat, p < j → ¬ vk_ah σ i (ve_ix (vl_at (σ.1 2 i) (p : Int)))) → vW vw_rep L xs (21, 2, [some (.ref (vw_cr i)), some (.ref 9), some (.int (jI ((j : Int))))], []) σ Q := by
  intro e
  induction e with
  | zero =>
    intro j hj hh
    refine vW_len (kk := 2) (i := i) ⟨by decide, hi⟩ (fun hl0 => ?_)
    have hl0 : (σ.1 2 i).length ≤ 120 := hl0
    refine w0 vi21_2 rfl rfl ?_
    refine w1 vi21_3 rfl rfl ?_
    refine w14c vi21_4 (by first | omega | assumption | exact ve_ix_le _) rfl ?_
    refine c_size vi21_7 (by first | omega | assumption | exact ⟨by omega, by omega⟩ | exact ⟨by decide, by decide⟩ | exact ⟨by decide, by assumption⟩ | exact ⟨by decide, Nat.lt_succ_of_le (by first | assumption | exact ve_ix_le _)⟩ | exact ve_ix_le _) rfl ?_
    refine w8 vi21_10 (vwc_3 ⟨by omega, by omega⟩ ⟨by omega, by omega⟩) (fun h10 => ?_) (fun h10 => by exfalso; omega)
    refine w2 (-1) vi21_40 (by decide) ?_
    refine w42 vi21_41 vm21.2.2.2 ?_
    exact h0 (fun p hp => hh p (by omega))
  | succ e ih =>
    intro j hj hh
    refine vW_len (kk := 2) (i := i) ⟨by decide, hi⟩ (fun hl0 => ?_)
    have hl0 : (σ.1 2 i).length ≤ 120 := hl0
    refine w0 vi21_2 rfl rfl ?_
    refine w1 vi21_3 rfl rfl ?_
    refine w14c vi21_4 (by first | omega | assumption | exact ve_ix_le _) rfl ?_
    refine c_size vi21_7 (by first | omega | assumption | exact ⟨by omega, by omega⟩ | exact ⟨by decide, by decide⟩ | exact ⟨by decide, by assumption⟩ | exact ⟨by decide, Nat.lt_succ_of_le (by first | assumption | exact ve_ix_le _)⟩ | exact ve_ix_le _) rfl ?_
    refine w8 vi21_10 (vwc_3 ⟨by omega, by omega⟩ ⟨by omega, by omega⟩) (fun h10 => by exfalso; omega) (fun h10 => ?_)
    refine w1 vi21_13 rfl rfl ?_
    refine w1 vi21_14 rfl rfl ?_
    refine w1 vi21_15 rfl rfl ?_
    refine w14c vi21_16 (by first | omega | assumption | exact ve_ix_le _) rfl ?_
    refine w0 vi21_19 rfl rfl ?_
    refine c_at2 vi21_20 (by first | omega | assumption | exact ⟨by omega, by omega⟩ | exact ⟨by decide, by decide⟩ | exact ⟨by decide, by assumption⟩ | exact ⟨by decide, Nat.lt_succ_of_le (by first | assumption | exact ve_ix_le _)⟩ | exact ve_ix_le _) (by first | omega | assumption | exact ⟨by omega, by omega⟩ | exact ⟨by decide, by decide⟩ | exact ⟨by decide, by assumption⟩ | exact ⟨by decide, Nat.lt_succ_of_le (by first | assumption | exact ve_ix_le _)⟩ | exact ve_ix_le _) (by first | omega | assumption | exact ⟨by omega, by omega⟩ | exact ⟨by decide, by decide⟩ | exact ⟨by decide, by assumption⟩ | exact ⟨by decide, Nat.lt_succ_of_le (by first | assumption | exact ve_ix_le _)⟩ | exact ve_ix_le _) rfl (fun _ _ => ?_)
    refine c_deedAt vi21_23 (by first | omega | assumption | exact ⟨by omega, by omega⟩ | exact ⟨by decide, by decide⟩ | exact ⟨by decide, by assumption⟩ | exact ⟨by decide, Nat.lt_succ_of_le (by first | assumption | exact ve_ix_le _)⟩ | exact ve_ix_le _) (by first | omega | assumption | exact ⟨by omega, by omega⟩ | exact ⟨by decide, by decide⟩ | exact ⟨by decide, by assumption⟩ | exact ⟨by decide, Nat.lt_succ_of_le (by first | assumption | exact ve_ix_le _)⟩ | exact ve_ix_le _) rfl ?_
    refine c_ahead vi21_26 (by first | omega | assumption | exact ⟨by omega, by omega⟩ | exact ⟨by decide, by decide⟩ | exact ⟨by decide, by assumption⟩ | exact ⟨by decide, Nat.lt_succ_of_le (by first | assumption | exact ve_ix_le _)⟩ | exact ve_ix_le _) (by first | omega | assumption | exact ⟨by omega, by omega⟩ | exact ⟨by decide, by decide⟩ | exact ⟨by decide, by assumption⟩ | exact ⟨by decide, Nat.lt_succ_of_le (by first | assumption | exact ve_ix_le _)⟩ | exact ve_ix_le _) rfl (fun hb26 => ?_) (fun hb26 => ?_)
    ·
      refine w7 vi21_29 (vwz_0 ⟨by omega, by omega⟩) (fun h29 => by exfalso; omega) (fun h29 => ?_)
      refine w0 vi21_32 rfl rfl ?_
      refine w42 vi21_33 vm21.2.2.2 ?_
      exact h1 j (by omega) (by assumption)
    ·
      refine w7 vi21_29 (vwz_0 ⟨by omega, by omega⟩) (fun h29 => ?_) (fun h29 => by exfalso; omega)
      refine w6 (1) vi21_34 rfl (by decide) rfl ?_
      refine w5 vi21_37 ?_
      exact ih (j + 1) (by omega) (fun p hp => by
        by_cases e : p = j
        · subst e; assumption
        · exact hh p (by omega))
theorem m_ready {i : Nat} (hi : i < 6) (h1 : ∀ p : Nat, p < (σ.1 2 i).length → vk_ah σ i (ve_ix (vl_at (σ.1 2 i) (p : Int))) → Q [.int (jI ((p : Int)))] σ) (h0 : (∀ p : Nat, p < (σ.1 2 i).length → ¬ vk_ah σ i (ve_ix (vl_at (σ.1 2 i) (p : Int)))) → Q [.int (jI (-1))] σ) : vW vw_rep L xs (21, 0, [some (.ref (vw_cr i)), some (.ref 9), none], []) σ Q := by
  refine w2 (0) vi21_0 (by decide) ?_
  refine w3 vi21_1 rfl rfl ?_
  exact m_ready_loop hi h1 h0 _ 0 (Nat.zero_add _) (fun p hp => absurd hp (Nat.not_lt_zero _))
theorem c_ready (hc : vt_code k pc = (27, 21, b, c)) {i : Nat} (hi : i < 6) (hs : Nat.ble (vj_cat sc) 8 = true) (h1 : ∀ p : Nat, p < (σ.1 2 i).length → vk_ah σ i (ve_ix (vl_at (σ.1 2 i) (p : Int))) → vW vw_rep L xs (k, pc + 3, lc, .int (jI ((p : Int))) :: sc) σ Q) (h0 : (∀ p : Nat, p < (σ.1 2 i).length → ¬ vk_ah σ i (ve_ix (vl_at (σ.1 2 i) (p : Int)))) → vW vw_rep L xs (k, pc + 3, lc, .int (jI (-1)) :: sc) σ Q) : vW vw_rep L xs (k, pc, lc, .ref 9 :: .ref (vw_cr i) :: sc) σ Q := by
  refine w27 (n := 2) (vs := [.ref 9, .ref (vw_cr i)]) hc vm21.2.1 rfl (by rw [vm21.2.2.1]; rfl) hs (by simp only [List.length_cons]; omega) ⟨_, rfl⟩ (fun M hM => hM.2.2.2.1 _ hi) (vw_tb_lt (vw_copy hi) (by omega)) vm21.1 ?_
  rw [vm21.2.2.1]
  exact m_ready hi (Q := fun v σ1 => vW vw_rep L xs (k, pc + 3, lc, v ++ sc) σ1 Q) h1 h0
end VW7
