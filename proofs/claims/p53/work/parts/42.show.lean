/-! ===== what the calls share: what is shown ===== -/
section VW14
def vy_seen (V : Nat → Nat → Int) (he od sh cs : List Int) (x o : Int) : Int := if x = o ∨ vl_at he o ≤ 0 then -1 else vp_pos sh cs (V 8 (vk_lat V od o od.length))
def vy_val (V : Nat → Nat → Int) (r12 r13 : List Int) (x : Int) : Int := 32 * V 5 (ve_ix (vl_at r13 x)) + vl_at r12 x
def vy_desc (V : Nat → Nat → Int) (r12 r13 cs sh : List Int) (z : Int) : Int := if vl_at sh (vl_at cs z) = 1 then vy_val V r12 r13 (vl_at cs z) else -1 - vy_val V r12 r13 (vl_at cs z)
def vy_w1 (r12 tx : List Int) (j : Nat) (s : Int × Int) : Int × Int := if vl_at r12 (vl_at tx (j : Int)) = 26 then (s.1, 0) else if s.2 = 0 then (s.1 + 1, 1) else (s.1, 1)
def vy_words (r12 tx : List Int) (n : Nat) : Int × Int := vf (vy_w1 r12 tx) n (0, 0)
theorem vy_words_in (r12 tx : List Int) (n : Nat) : (0 ≤ (vy_words r12 tx n).1 ∧ (vy_words r12 tx n).1 ≤ n) ∧ ((vy_words r12 tx n).2 = 0 ∨ (vy_words r12 tx n).2 = 1) := by
  induction n with
  | zero => exact ⟨⟨Int.le_refl _, Int.le_refl _⟩, Or.inl rfl⟩
  | succ n ih =>
    have e : vy_words r12 tx (n + 1) = vy_w1 r12 tx n (vy_words r12 tx n) := rfl
    rw [e]
    unfold vy_w1
    split
    · exact ⟨⟨ih.1.1, by have := ih.1.2; dsimp only; omega⟩, Or.inl rfl⟩
    · split
      · exact ⟨⟨by have := ih.1.1; dsimp only; omega, by have := ih.1.2; dsimp only; omega⟩, Or.inr rfl⟩
      · exact ⟨⟨ih.1.1, by have := ih.1.2; dsimp only; omega⟩, Or.inr rfl⟩
def vy_eq1 (V : Nat → Nat → Int) (r12 r13 tx tx2 d d2 : List Int) (j : Nat) : Prop := vl_at r12 (vl_at tx (j : Int)) = vl_at r12 (vl_at tx2 (j : Int)) ∧ V 5 (ve_ix (vl_at r13 (vl_at tx (j : Int)))) = V 5 (ve_ix (vl_at r13 (vl_at tx2 (j : Int)))) ∧ vq_mk V d (vl_at tx (j : Int)) = vq_mk V d2 (vl_at tx2 (j : Int))
def vy_eq (V : Nat → Nat → Int) (r12 r13 tx tx2 d d2 : List Int) : Prop := tx.length = tx2.length ∧ ∀ j : Nat, j < tx.length → vy_eq1 V r12 r13 tx tx2 d d2 j
variable {L : Nat} {xs : Nat → Int32} {σ σ2 : vw_S} {Q : List Value → vw_S → Prop} {k pc a b c kk i : Nat} {lc : List (Option Value)} {sc : List Value} {fr : vj_F} {l l2 : List Int} {V : Nat → Nat → Int} {z y : Int}
theorem m_seenPosition {v w i o : Nat} (hv : v < 2) (hw : w < 6) (hi : i < 6) (ho : o < 6) (hQ :  Q [.int (jI (vy_seen σ.2 (σ.1 1 i) (σ.1 0 i) (σ.1 20 v) (σ.1 15 v) (w : Int) (o : Int)))] σ) : vW vw_rep L xs (114, 0, [some (.ref 8), some (.ref (vw_vr v)), some (.int (jI ((w : Int)))), some (.ref (vw_cr i)), some (.int (jI ((o : Int))))], []) σ Q := by
  refine w0 vi114_0 rfl rfl ?_
  refine w0 vi114_1 rfl rfl ?_
  refine w8 vi114_3 (vwc_0 ⟨by omega, by omega⟩ ⟨by omega, by omega⟩) (fun h3 => ?_) (fun h3 => ?_)
  ·
    refine w2 (-1) vi114_18 (by decide) ?_
    refine w42 vi114_19 vm114.2.2.2 ?_
    unfold vy_seen at hQ
    repeat (first | rw [if_pos (by omega)] at hQ | rw [if_neg (by omega)] at hQ)
    exact hQ
  ·
    refine w1 vi114_6 rfl rfl ?_
    refine w14c (v := .ref (vw_rr 1 i)) vi114_7 (by first | omega | exact ve_ix_le _ | exact vk_lat_le _ _ _ _ | assumption) rfl ?_
    refine w0 vi114_10 rfl rfl ?_
    refine r_at (l := (σ.1 1 i)) vi114_12 ⟨by decide, (show i < 6 by omega)⟩ (by first | rfl | (dsimp only; repeat (first | rw [vw_sr_eq] | rw [vw_sr_ne _ _ (by omega)]))) (by first | omega | exact ve_ix_le _ | exact vk_lat_le _ _ _ _ | assumption) (by first | omega | exact ve_ix_le _ | exact vk_lat_le _ _ _ _ | assumption) rfl (fun _ _ => ?_)
    refine w7 vi114_15 (vwz_4 ⟨by omega, by omega⟩) (fun h15 => ?_) (fun h15 => ?_)
    ·
      refine w1 vi114_20 rfl rfl ?_
      refine w1 vi114_21 rfl rfl ?_
      refine w1 vi114_22 rfl rfl ?_
      refine w14m (v := .ref 9) vi114_23  rfl ?_
      refine w0 vi114_26 rfl rfl ?_
      refine c_lat vi114_28 (by first | omega | exact ve_ix_le _ | exact vk_lat_le _ _ _ _ | assumption) (by first | omega | exact ve_ix_le _ | exact vk_lat_le _ _ _ _ | assumption) (by first | omega | exact ve_ix_le _ | exact vk_lat_le _ _ _ _ | assumption) rfl ?_
      refine w14d (v := .int (jI ((σ.2 8 ((vk_lat σ.2 (σ.1 0 i) ((o : Int)) (σ.1 0 i).length)))))) vi114_31 (by first | omega | exact ve_ix_le _ | exact vk_lat_le _ _ _ _ | assumption) rfl ?_
      refine vW_nR (V := σ.2) rfl 8 ((vk_lat σ.2 (σ.1 0 i) ((o : Int)) (σ.1 0 i).length)) (fun _ _ => ?_)
      refine c_positionOf vi114_34 (by first | omega | exact ve_ix_le _ | exact vk_lat_le _ _ _ _ | assumption) (by first | omega | exact ve_ix_le _ | exact vk_lat_le _ _ _ _ | assumption) (by first | omega | exact ve_ix_le _ | exact vk_lat_le _ _ _ _ | assumption) rfl ?_
      refine w42 vi114_37 vm114.2.2.2 ?_
      unfold vy_seen at hQ
      repeat (first | rw [if_pos (by omega)] at hQ | rw [if_neg (by omega)] at hQ)
      exact hQ
    ·
      refine w2 (-1) vi114_18 (by decide) ?_
      refine w42 vi114_19 vm114.2.2.2 ?_
      unfold vy_seen at hQ
      repeat (first | rw [if_pos (by omega)] at hQ | rw [if_neg (by omega)] at hQ)
      exact hQ
theorem c_seenPosition (hc : vt_code k pc = (27, 114, b, c)) {v w i o : Nat} (hv : v < 2) (hw : w < 6) (hi : i < 6) (ho : o < 6) (hs : Nat.ble (vj_cat sc) 8 = true) (hQ :  vW vw_rep L xs (k, pc + 3, lc, .int (jI (vy_seen σ.2 (σ.1 1 i) (σ.1 0 i) (σ.1 20 v) (σ.1 15 v) (w : Int) (o : Int))) :: sc) σ Q) : vW vw_rep L xs (k, pc, lc, .int (jI ((o : Int))) :: .ref (vw_cr i) :: .int (jI ((w : Int))) :: .ref (vw_vr v) :: .ref 8 :: sc) σ Q := by
  refine w27 (n := 5) (vs := [.int (jI ((o : Int))), .ref (vw_cr i), .int (jI ((w : Int))), .ref (vw_vr v), .ref 8]) hc vm114.2.1 rfl (by rw [vm114.2.2.1]; rfl) hs (by simp only [List.length_cons]; omega) ⟨_, rfl⟩ (fun M hM => hM.2.2.2.2.2.1) ⟨by omega, by omega⟩ vm114.1 ?_
  rw [vm114.2.2.1]
  exact m_seenPosition hv hw hi ho (Q := fun v σ1 => vW vw_rep L xs (k, pc + 3, lc, v ++ sc) σ1 Q) hQ
theorem m_describeCell {v : Nat} (hv : v < 2) {z : Int} (z0 : -2147483648 ≤ z) (z1 : z < 2147483648) (hQ :  Q [.int (jI (vy_desc σ.2 (σ.1 12 0) (σ.1 13 0) (σ.1 15 v) (σ.1 20 v) z))] σ) : vW vw_rep L xs (115, 0, [some (.ref 8), some (.ref (vw_vr v)), some (.int (jI (z))), none, none], []) σ Q := by
  refine w1 vi115_0 rfl rfl ?_
  refine w14v (v := .ref (vw_rr 15 v)) vi115_1 (by first | omega | exact ve_ix_le _ | exact vk_lat_le _ _ _ _ | assumption) rfl ?_
  refine w0 vi115_4 rfl rfl ?_
  refine r_at (l := (σ.1 15 v)) vi115_5 ⟨by decide, (show v < 2 by omega)⟩ (by first | rfl | (dsimp only; repeat (first | rw [vw_sr_eq] | rw [vw_sr_ne _ _ (by omega)]))) (by first | omega | exact ve_ix_le _ | exact vk_lat_le _ _ _ _ | assumption) (by first | omega | exact ve_ix_le _ | exact vk_lat_le _ _ _ _ | assumption) rfl (fun _ _ => ?_)
  refine w3 vi115_8 rfl rfl ?_
  refine w2 (32) vi115_9 (by decide) ?_
  refine w1 vi115_11 rfl rfl ?_
  refine w14m (v := .ref 9) vi115_12  rfl ?_
  refine w0 vi115_15 rfl rfl ?_
  refine c_typeOfR (l := (σ.1 13 0)) vi115_16 (by first | rfl | (dsimp only; repeat (first | rw [vw_sr_eq] | rw [vw_sr_ne _ _ (by omega)]))) (by first | omega | exact ve_ix_le _ | exact vk_lat_le _ _ _ _ | assumption) (by first | omega | exact ve_ix_le _ | exact vk_lat_le _ _ _ _ | assumption) rfl ?_
  refine w14d (v := .int (jI ((σ.2 5 ((ve_ix (vl_at (σ.1 13 0) (vl_at (σ.1 15 v) (z))))))))) vi115_19 (by first | omega | exact ve_ix_le _ | exact vk_lat_le _ _ _ _ | assumption) rfl ?_
  refine vW_nR (V := σ.2) rfl 5 ((ve_ix (vl_at (σ.1 13 0) (vl_at (σ.1 15 v) (z))))) (fun _ _ => ?_)
  refine w11 vi115_22 ?_
  refine w1 vi115_23 rfl rfl ?_
  refine w14m (v := .ref 9) vi115_24  rfl ?_
  refine w0 vi115_27 rfl rfl ?_
  refine c_letterOfR (l := (σ.1 12 0)) vi115_28 (by first | rfl | (dsimp only; repeat (first | rw [vw_sr_eq] | rw [vw_sr_ne _ _ (by omega)]))) (by first | omega | exact ve_ix_le _ | exact vk_lat_le _ _ _ _ | assumption) (by first | omega | exact ve_ix_le _ | exact vk_lat_le _ _ _ _ | assumption) rfl (fun _ _ => ?_)
  refine w9 vi115_31 ?_
  refine w3 vi115_32 rfl rfl ?_
  refine w1 vi115_34 rfl rfl ?_
  refine w0 vi115_35 rfl rfl ?_
  refine c_isVisible vi115_36 (by first | omega | exact ve_ix_le _ | exact vk_lat_le _ _ _ _ | exact ⟨by decide, by decide⟩ | exact ⟨by decide, by assumption⟩ | exact ⟨by decide, Nat.lt_succ_of_le (by first | exact ve_ix_le _ | exact vk_lat_le _ _ _ _ | assumption)⟩ | assumption) (by first | omega | exact ve_ix_le _ | exact vk_lat_le _ _ _ _ | exact ⟨by decide, by decide⟩ | exact ⟨by decide, by assumption⟩ | exact ⟨by decide, Nat.lt_succ_of_le (by first | exact ve_ix_le _ | exact vk_lat_le _ _ _ _ | assumption)⟩ | assumption) (by first | omega | exact ve_ix_le _ | exact vk_lat_le _ _ _ _ | exact ⟨by decide, by decide⟩ | exact ⟨by decide, by assumption⟩ | exact ⟨by decide, Nat.lt_succ_of_le (by first | exact ve_ix_le _ | exact vk_lat_le _ _ _ _ | assumption)⟩ | assumption) rfl (fun hb36 => ?_) (fun hb36 => ?_)
  ·
    refine w7 vi115_39 (vwz_0 ⟨by omega, by omega⟩) (fun h39 => by exfalso; omega) (fun h39 => ?_)
    refine w0 vi115_42 rfl rfl ?_
    refine w5 vi115_44 ?_
    refine w42 vi115_51 vm115.2.2.2 ?_
    unfold vy_desc at hQ
    first
      | (rw [if_pos hb36] at hQ; exact hQ)
      | (rw [if_neg hb36] at hQ; exact hQ)
  ·
    refine w7 vi115_39 (vwz_0 ⟨by omega, by omega⟩) (fun h39 => ?_) (fun h39 => by exfalso; omega)
    refine w2 (-1) vi115_47 (by decide) ?_
    refine w0 vi115_48 rfl rfl ?_
    refine w10 vi115_50 ?_
    refine w42 vi115_51 vm115.2.2.2 ?_
    unfold vy_desc at hQ
    first
      | (rw [if_pos hb36] at hQ; exact hQ)
      | (rw [if_neg hb36] at hQ; exact hQ)
theorem c_describeCell (hc : vt_code k pc = (27, 115, b, c)) {v : Nat} (hv : v < 2) {z : Int} (z0 : -2147483648 ≤ z) (z1 : z < 2147483648) (hs : Nat.ble (vj_cat sc) 8 = true) (hQ :  vW vw_rep L xs (k, pc + 3, lc, .int (jI (vy_desc σ.2 (σ.1 12 0) (σ.1 13 0) (σ.1 15 v) (σ.1 20 v) z)) :: sc) σ Q) : vW vw_rep L xs (k, pc, lc, .int (jI (z)) :: .ref (vw_vr v) :: .ref 8 :: sc) σ Q := by
  refine w27 (n := 3) (vs := [.int (jI (z)), .ref (vw_vr v), .ref 8]) hc vm115.2.1 rfl (by rw [vm115.2.2.1]; rfl) hs (by simp only [List.length_cons]; omega) ⟨_, rfl⟩ (fun M hM => hM.2.2.2.2.2.1) ⟨by omega, by omega⟩ vm115.1 ?_
  rw [vm115.2.2.1]
  exact m_describeCell hv z0 z1 (Q := fun v σ1 => vW vw_rep L xs (k, pc + 3, lc, v ++ sc) σ1 Q) hQ
theorem m_words_loop (hk : vw_ok kk i) (hQ : Q [.int (jI (vy_words (σ.1 12 0) (σ.1 kk i) (σ.1 kk i).length).1)] σ) : ∀ (e j : Nat) (u : Option Value), j + e = (σ.1 kk i).length → vW vw_rep L xs (116, 7, [some (.ref 8), some (.ref (vw_rr kk i)), some (.int (jI ((vy_words (σ.1 12 0) (σ.1 kk i) j).1))), some (.int (jI ((vy_words (σ.1 12 0) (σ.1 kk i) j).2))), some (.int (jI ((j : Int)))), u], []) σ Q := by
  intro e
  induction e with
  | zero =>
    intro j u hj
    have hcap := vw_cap_le kk
    have hin := vy_words_in (σ.1 12 0) (σ.1 kk i) j
    refine vW_len hk (fun hl => ?_)
    refine w0 vi116_7 rfl rfl ?_
    refine w1 vi116_9 rfl rfl ?_
    refine r_size (l := (σ.1 kk i)) vi116_10 hk (by first | rfl | (dsimp only; repeat (first | rw [vw_sr_eq] | rw [vw_sr_ne _ _ (by omega)]))) rfl ?_
    refine w8 vi116_13 (vwc_3 ⟨by omega, by omega⟩ ⟨by omega, by omega⟩) (fun h13 => ?_) (fun h13 => by exfalso; omega)
    refine w0 vi116_62 rfl rfl ?_
    refine w42 vi116_63 vm116.2.2.2 ?_
    rw [show j = (σ.1 kk i).length by omega]
    exact hQ
  | succ e ih =>
    intro j u hj
    have hcap := vw_cap_le kk
    have hin := vy_words_in (σ.1 12 0) (σ.1 kk i) j
    refine vW_len hk (fun hl => ?_)
    refine w0 vi116_7 rfl rfl ?_
    refine w1 vi116_9 rfl rfl ?_
    refine r_size (l := (σ.1 kk i)) vi116_10 hk (by first | rfl | (dsimp only; repeat (first | rw [vw_sr_eq] | rw [vw_sr_ne _ _ (by omega)]))) rfl ?_
    refine w8 vi116_13 (vwc_3 ⟨by omega, by omega⟩ ⟨by omega, by omega⟩) (fun h13 => by exfalso; omega) (fun h13 => ?_)
    refine w1 vi116_16 rfl rfl ?_
    refine w14m (v := .ref 9) vi116_17  rfl ?_
    refine w1 vi116_20 rfl rfl ?_
    refine w0 vi116_21 rfl rfl ?_
    refine r_at (l := (σ.1 kk i)) vi116_23 hk (by first | rfl | (dsimp only; repeat (first | rw [vw_sr_eq] | rw [vw_sr_ne _ _ (by omega)]))) (by first | omega | exact ve_ix_le _ | exact vk_lat_le _ _ _ _ | assumption) (by first | omega | exact ve_ix_le _ | exact vk_lat_le _ _ _ _ | assumption) rfl (fun _ _ => ?_)
    refine c_letterOfR (l := (σ.1 12 0)) vi116_26 (by first | rfl | (dsimp only; repeat (first | rw [vw_sr_eq] | rw [vw_sr_ne _ _ (by omega)]))) (by first | omega | exact ve_ix_le _ | exact vk_lat_le _ _ _ _ | assumption) (by first | omega | exact ve_ix_le _ | exact vk_lat_le _ _ _ _ | assumption) rfl (fun _ _ => ?_)
    refine w2 (26) vi116_29 (by decide) ?_
    refine w8 vi116_31 (vwc_0 ⟨by omega, by omega⟩ ⟨by omega, by omega⟩) (fun h31 => ?_) (fun h31 => ?_)
    ·
      refine w2 (0) vi116_38 (by decide) ?_
      refine w3 vi116_39 rfl rfl ?_
      refine w0 vi116_41 rfl rfl ?_
      refine w7 vi116_43 (vwz_0 ⟨by omega, by omega⟩) (fun h43 => ?_) (fun h43 => by exfalso; omega)
      refine w0 vi116_53 rfl rfl ?_
      refine w3 vi116_55 rfl rfl ?_
      refine w6 (1) vi116_56 rfl (by decide) rfl ?_
      refine w5 vi116_59 ?_
      have q := ih (j + 1) (some (.int (jI 0))) (by omega)
      have e1 : vy_words (σ.1 12 0) (σ.1 kk i) (j + 1) = vy_w1 (σ.1 12 0) (σ.1 kk i) j (vy_words (σ.1 12 0) (σ.1 kk i) j) := rfl
      rw [e1] at q
      have e2 : vy_w1 (σ.1 12 0) (σ.1 kk i) j (vy_words (σ.1 12 0) (σ.1 kk i) j) = ((vy_words (σ.1 12 0) (σ.1 kk i) j).1, 0) := by
        unfold vy_w1
        repeat (first | rw [if_pos (by omega)] | rw [if_neg (by omega)])
      rw [e2] at q
      exact q
    ·
      refine w2 (1) vi116_34 (by decide) ?_
      refine w5 vi116_35 ?_
      refine w3 vi116_39 rfl rfl ?_
      refine w0 vi116_41 rfl rfl ?_
      refine w7 vi116_43 (vwz_0 ⟨by omega, by omega⟩) (fun h43 => by exfalso; omega) (fun h43 => ?_)
      refine w0 vi116_46 rfl rfl ?_
      refine w7 vi116_47 (vwz_1 ⟨by omega, by omega⟩) (fun h47 => ?_) (fun h47 => ?_)
      ·
        refine w0 vi116_53 rfl rfl ?_
        refine w3 vi116_55 rfl rfl ?_
        refine w6 (1) vi116_56 rfl (by decide) rfl ?_
        refine w5 vi116_59 ?_
        have q := ih (j + 1) (some (.int (jI 1))) (by omega)
        have e1 : vy_words (σ.1 12 0) (σ.1 kk i) (j + 1) = vy_w1 (σ.1 12 0) (σ.1 kk i) j (vy_words (σ.1 12 0) (σ.1 kk i) j) := rfl
        rw [e1] at q
        have e2 : vy_w1 (σ.1 12 0) (σ.1 kk i) j (vy_words (σ.1 12 0) (σ.1 kk i) j) = ((vy_words (σ.1 12 0) (σ.1 kk i) j).1, 1) := by
          unfold vy_w1
          repeat (first | rw [if_pos (by omega)] | rw [if_neg (by omega)])
        rw [e2] at q
        exact q
      ·
        refine w6 (1) vi116_50 rfl (by decide) rfl ?_
        refine w0 vi116_53 rfl rfl ?_
        refine w3 vi116_55 rfl rfl ?_
        refine w6 (1) vi116_56 rfl (by decide) rfl ?_
        refine w5 vi116_59 ?_
        have q := ih (j + 1) (some (.int (jI 1))) (by omega)
        have e1 : vy_words (σ.1 12 0) (σ.1 kk i) (j + 1) = vy_w1 (σ.1 12 0) (σ.1 kk i) j (vy_words (σ.1 12 0) (σ.1 kk i) j) := rfl
        rw [e1] at q
        have e2 : vy_w1 (σ.1 12 0) (σ.1 kk i) j (vy_words (σ.1 12 0) (σ.1 kk i) j) = ((vy_words (σ.1 12 0) (σ.1 kk i) j).1 + 1, 1) := by
          unfold vy_w1
          repeat (first | rw [if_pos (by omega)] | rw [if_neg (by omega)])
        rw [e2] at q
        exact q
theorem m_countWords {kk i : Nat} (hk : vw_ok kk i) (hQ :  Q [.int (jI ((vy_words (σ.1 12 0) (σ.1 kk i) (σ.1 kk i).length).1))] σ) : vW vw_rep L xs (116, 0, [some (.ref 8), some (.ref (vw_rr kk i)), none, none, none, none], []) σ Q := by
  refine w2 (0) vi116_0 (by decide) ?_
  refine w3 vi116_1 rfl rfl ?_
  refine w2 (0) vi116_2 (by decide) ?_
  refine w3 vi116_3 rfl rfl ?_
  refine w2 (0) vi116_4 (by decide) ?_
  refine w3 vi116_5 rfl rfl ?_
  exact m_words_loop hk hQ _ 0 _ (Nat.zero_add _)
theorem c_countWords (hc : vt_code k pc = (27, 116, b, c)) {kk i : Nat} (hk : vw_ok kk i) (hs : Nat.ble (vj_cat sc) 8 = true) (hQ :  vW vw_rep L xs (k, pc + 3, lc, .int (jI ((vy_words (σ.1 12 0) (σ.1 kk i) (σ.1 kk i).length).1)) :: sc) σ Q) : vW vw_rep L xs (k, pc, lc, .ref (vw_rr kk i) :: .ref 8 :: sc) σ Q := by
  refine w27 (n := 2) (vs := [.ref (vw_rr kk i), .ref 8]) hc vm116.2.1 rfl (by rw [vm116.2.2.1]; rfl) hs (by simp only [List.length_cons]; omega) ⟨_, rfl⟩ (fun M hM => hM.2.2.2.2.2.1) ⟨by omega, by omega⟩ vm116.1 ?_
  rw [vm116.2.2.1]
  exact m_countWords hk (Q := fun v σ1 => vW vw_rep L xs (k, pc + 3, lc, v ++ sc) σ1 Q) hQ
theorem m_same_loop (hlen : (σ.1 16 0).length = (σ.1 16 1).length) (h1 : vy_eq σ.2 (σ.1 12 0) (σ.1 13 0) (σ.1 16 0) (σ.1 16 1) (σ.1 21 0) (σ.1 21 1) → Q [.int (jI 1)] σ) (h0 : ¬ vy_eq σ.2 (σ.1 12 0) (σ.1 13 0) (σ.1 16 0) (σ.1 16 1) (σ.1 21 0) (σ.1 21 1) → Q [.int (jI 0)] σ) : ∀ (e j : Nat) (u4 u5 : Option Value), j + e = (σ.1 16 0).length → (∀ m : Nat, m < j → vy_eq1 σ.2 (σ.1 12 0) (σ.1 13 0) (σ.1 16 0) (σ.1 16 1) (σ.1 21 0) (σ.1 21 1) m) → vW vw_rep L xs (118, 21, [some (.ref 8), some (.ref (vw_vr 0)), some (.ref (vw_vr 1)), some (.int (jI ((j : Int)))), u4, u5], []) σ Q := by
  intro e
  induction e with
  | zero =>
    intro j u4 u5 hj hh
    refine vW_len (kk := 16) (i := 0) ⟨by decide, by decide⟩ (fun hl => ?_)
    have hl : (σ.1 16 0).length ≤ 720 := hl
    refine w0 vi118_21 rfl rfl ?_
    refine w1 vi118_22 rfl rfl ?_
    refine w14v (v := .ref (vw_rr 16 0)) vi118_23 (by first | omega | exact ve_ix_le _ | exact vk_lat_le _ _ _ _ | assumption) rfl ?_
    refine r_size (l := (σ.1 16 0)) vi118_26 ⟨by decide, (show 0 < 2 by omega)⟩ (by first | rfl | (dsimp only; repeat (first | rw [vw_sr_eq] | rw [vw_sr_ne _ _ (by omega)]))) rfl ?_
    refine w8 vi118_29 (vwc_3 ⟨by omega, by omega⟩ ⟨by omega, by omega⟩) (fun h29 => ?_) (fun h29 => by exfalso; omega)
    refine w2 (1) vi118_131 (by decide) ?_
    refine w42b vi118_132 vm118.2.2.2 (by first | exact Or.inl rfl | exact Or.inr rfl | omega) ?_
    exact h1 ⟨hlen, fun m hm => hh m (by omega)⟩
  | succ e ih =>
    intro j u4 u5 hj hh
    refine vW_len (kk := 16) (i := 0) ⟨by decide, by decide⟩ (fun hl => ?_)
    have hl : (σ.1 16 0).length ≤ 720 := hl
    refine w0 vi118_21 rfl rfl ?_
    refine w1 vi118_22 rfl rfl ?_
    refine w14v (v := .ref (vw_rr 16 0)) vi118_23 (by first | omega | exact ve_ix_le _ | exact vk_lat_le _ _ _ _ | assumption) rfl ?_
    refine r_size (l := (σ.1 16 0)) vi118_26 ⟨by decide, (show 0 < 2 by omega)⟩ (by first | rfl | (dsimp only; repeat (first | rw [vw_sr_eq] | rw [vw_sr_ne _ _ (by omega)]))) rfl ?_
    refine w8 vi118_29 (vwc_3 ⟨by omega, by omega⟩ ⟨by omega, by omega⟩) (fun h29 => by exfalso; omega) (fun h29 => ?_)
    refine w1 vi118_32 rfl rfl ?_
    refine w14v (v := .ref (vw_rr 16 0)) vi118_33 (by first | omega | exact ve_ix_le _ | exact vk_lat_le _ _ _ _ | assumption) rfl ?_
    refine w0 vi118_36 rfl rfl ?_
    refine r_at (l := (σ.1 16 0)) vi118_37 ⟨by decide, (show 0 < 2 by omega)⟩ (by first | rfl | (dsimp only; repeat (first | rw [vw_sr_eq] | rw [vw_sr_ne _ _ (by omega)]))) (by first | omega | exact ve_ix_le _ | exact vk_lat_le _ _ _ _ | assumption) (by first | omega | exact ve_ix_le _ | exact vk_lat_le _ _ _ _ | assumption) rfl (fun _ _ => ?_)
    refine w3 vi118_40 rfl rfl ?_
    refine w1 vi118_42 rfl rfl ?_
    refine w14v (v := .ref (vw_rr 16 1)) vi118_43 (by first | omega | exact ve_ix_le _ | exact vk_lat_le _ _ _ _ | assumption) rfl ?_
    refine w0 vi118_46 rfl rfl ?_
    refine r_at (l := (σ.1 16 1)) vi118_47 ⟨by decide, (show 1 < 2 by omega)⟩ (by first | rfl | (dsimp only; repeat (first | rw [vw_sr_eq] | rw [vw_sr_ne _ _ (by omega)]))) (by first | omega | exact ve_ix_le _ | exact vk_lat_le _ _ _ _ | assumption) (by first | omega | exact ve_ix_le _ | exact vk_lat_le _ _ _ _ | assumption) rfl (fun _ _ => ?_)
    refine w3 vi118_50 rfl rfl ?_
    refine w1 vi118_52 rfl rfl ?_
    refine w14m (v := .ref 9) vi118_53  rfl ?_
    refine w0 vi118_56 rfl rfl ?_
    refine c_letterOfR (l := (σ.1 12 0)) vi118_58 (by first | rfl | (dsimp only; repeat (first | rw [vw_sr_eq] | rw [vw_sr_ne _ _ (by omega)]))) (by first | omega | exact ve_ix_le _ | exact vk_lat_le _ _ _ _ | assumption) (by first | omega | exact ve_ix_le _ | exact vk_lat_le _ _ _ _ | assumption) rfl (fun _ _ => ?_)
    refine w1 vi118_61 rfl rfl ?_
    refine w14m (v := .ref 9) vi118_62  rfl ?_
    refine w0 vi118_65 rfl rfl ?_
    refine c_letterOfR (l := (σ.1 12 0)) vi118_67 (by first | rfl | (dsimp only; repeat (first | rw [vw_sr_eq] | rw [vw_sr_ne _ _ (by omega)]))) (by first | omega | exact ve_ix_le _ | exact vk_lat_le _ _ _ _ | assumption) (by first | omega | exact ve_ix_le _ | exact vk_lat_le _ _ _ _ | assumption) rfl (fun _ _ => ?_)
    refine w8 vi118_70 (vwc_1 ⟨by omega, by omega⟩ ⟨by omega, by omega⟩) (fun h70 => ?_) (fun h70 => ?_)
    ·
      refine w2 (0) vi118_123 (by decide) ?_
      refine w42b vi118_124 vm118.2.2.2 (by first | exact Or.inl rfl | exact Or.inr rfl | omega) ?_
      exact h0 (fun g => by
        have g1 := g.2 j (by omega)
        unfold vy_eq1 at g1
        omega)
    ·
      refine w1 vi118_73 rfl rfl ?_
      refine w14m (v := .ref 9) vi118_74  rfl ?_
      refine w0 vi118_77 rfl rfl ?_
      refine c_typeOfR (l := (σ.1 13 0)) vi118_79 (by first | rfl | (dsimp only; repeat (first | rw [vw_sr_eq] | rw [vw_sr_ne _ _ (by omega)]))) (by first | omega | exact ve_ix_le _ | exact vk_lat_le _ _ _ _ | assumption) (by first | omega | exact ve_ix_le _ | exact vk_lat_le _ _ _ _ | assumption) rfl ?_
      refine w14d (v := .int (jI ((σ.2 5 ((ve_ix (vl_at (σ.1 13 0) (vl_at (σ.1 16 0) ((j : Int)))))))))) vi118_82 (by first | omega | exact ve_ix_le _ | exact vk_lat_le _ _ _ _ | assumption) rfl ?_
      refine vW_nR (V := σ.2) rfl 5 ((ve_ix (vl_at (σ.1 13 0) (vl_at (σ.1 16 0) ((j : Int)))))) (fun _ _ => ?_)
      refine w1 vi118_85 rfl rfl ?_
      refine w14m (v := .ref 9) vi118_86  rfl ?_
      refine w0 vi118_89 rfl rfl ?_
      refine c_typeOfR (l := (σ.1 13 0)) vi118_91 (by first | rfl | (dsimp only; repeat (first | rw [vw_sr_eq] | rw [vw_sr_ne _ _ (by omega)]))) (by first | omega | exact ve_ix_le _ | exact vk_lat_le _ _ _ _ | assumption) (by first | omega | exact ve_ix_le _ | exact vk_lat_le _ _ _ _ | assumption) rfl ?_
      refine w14d (v := .int (jI ((σ.2 5 ((ve_ix (vl_at (σ.1 13 0) (vl_at (σ.1 16 1) ((j : Int)))))))))) vi118_94 (by first | omega | exact ve_ix_le _ | exact vk_lat_le _ _ _ _ | assumption) rfl ?_
      refine vW_nR (V := σ.2) rfl 5 ((ve_ix (vl_at (σ.1 13 0) (vl_at (σ.1 16 1) ((j : Int)))))) (fun _ _ => ?_)
      refine w8 vi118_97 (vwc_1 ⟨by omega, by omega⟩ ⟨by omega, by omega⟩) (fun h97 => ?_) (fun h97 => ?_)
      ·
        refine w2 (0) vi118_123 (by decide) ?_
        refine w42b vi118_124 vm118.2.2.2 (by first | exact Or.inl rfl | exact Or.inr rfl | omega) ?_
        exact h0 (fun g => by
          have g1 := g.2 j (by omega)
          unfold vy_eq1 at g1
          omega)
      ·
        refine w1 vi118_100 rfl rfl ?_
        refine w1 vi118_101 rfl rfl ?_
        refine w14m (v := .ref 9) vi118_102  rfl ?_
        refine w0 vi118_105 rfl rfl ?_
        have hmk107 := vq_mk_in σ.2 (σ.1 21 0) (vl_at (σ.1 16 0) ((j : Int)))
        refine c_marksOf vi118_107 (by first | omega | exact ve_ix_le _ | exact vk_lat_le _ _ _ _ | assumption) (by first | omega | exact ve_ix_le _ | exact vk_lat_le _ _ _ _ | assumption) (by first | omega | exact ve_ix_le _ | exact vk_lat_le _ _ _ _ | assumption) rfl ?_
        refine w1 vi118_110 rfl rfl ?_
        refine w1 vi118_111 rfl rfl ?_
        refine w14m (v := .ref 9) vi118_112  rfl ?_
        refine w0 vi118_115 rfl rfl ?_
        have hmk117 := vq_mk_in σ.2 (σ.1 21 1) (vl_at (σ.1 16 1) ((j : Int)))
        refine c_marksOf vi118_117 (by first | omega | exact ve_ix_le _ | exact vk_lat_le _ _ _ _ | assumption) (by first | omega | exact ve_ix_le _ | exact vk_lat_le _ _ _ _ | assumption) (by first | omega | exact ve_ix_le _ | exact vk_lat_le _ _ _ _ | assumption) rfl ?_
        refine w8 vi118_120 (vwc_0 ⟨by omega, by omega⟩ ⟨by omega, by omega⟩) (fun h120 => ?_) (fun h120 => ?_)
        ·
          refine w6 (1) vi118_125 rfl (by decide) rfl ?_
          refine w5 vi118_128 ?_
          refine ih (j + 1) _ _ (by omega) (fun m hm => ?_)
          by_cases e : m = j
          · subst e
            unfold vy_eq1
            omega
          · exact hh m (by omega)
        ·
          refine w2 (0) vi118_123 (by decide) ?_
          refine w42b vi118_124 vm118.2.2.2 (by first | exact Or.inl rfl | exact Or.inr rfl | omega) ?_
          exact h0 (fun g => by
            have g1 := g.2 j (by omega)
            unfold vy_eq1 at g1
            omega)
theorem m_showTheSame  (h1 : vy_eq σ.2 (σ.1 12 0) (σ.1 13 0) (σ.1 16 0) (σ.1 16 1) (σ.1 21 0) (σ.1 21 1) → Q [.int (jI (1))] σ) (h0 : ¬ vy_eq σ.2 (σ.1 12 0) (σ.1 13 0) (σ.1 16 0) (σ.1 16 1) (σ.1 21 0) (σ.1 21 1) → Q [.int (jI (0))] σ) : vW vw_rep L xs (118, 0, [some (.ref 8), some (.ref (vw_vr 0)), some (.ref (vw_vr 1)), none, none, none], []) σ Q := by
  refine vW_len (kk := 16) (i := 0) ⟨by decide, by decide⟩ (fun hl => ?_)
  have hl : (σ.1 16 0).length ≤ 720 := hl
  refine vW_len (kk := 16) (i := 1) ⟨by decide, by decide⟩ (fun hl2 => ?_)
  have hl2 : (σ.1 16 1).length ≤ 720 := hl2
  refine w1 vi118_0 rfl rfl ?_
  refine w14v (v := .ref (vw_rr 16 0)) vi118_1 (by first | omega | exact ve_ix_le _ | exact vk_lat_le _ _ _ _ | assumption) rfl ?_
  refine r_size (l := (σ.1 16 0)) vi118_4 ⟨by decide, (show 0 < 2 by omega)⟩ (by first | rfl | (dsimp only; repeat (first | rw [vw_sr_eq] | rw [vw_sr_ne _ _ (by omega)]))) rfl ?_
  refine w1 vi118_7 rfl rfl ?_
  refine w14v (v := .ref (vw_rr 16 1)) vi118_8 (by first | omega | exact ve_ix_le _ | exact vk_lat_le _ _ _ _ | assumption) rfl ?_
  refine r_size (l := (σ.1 16 1)) vi118_11 ⟨by decide, (show 1 < 2 by omega)⟩ (by first | rfl | (dsimp only; repeat (first | rw [vw_sr_eq] | rw [vw_sr_ne _ _ (by omega)]))) rfl ?_
  refine w8 vi118_14 (vwc_0 ⟨by omega, by omega⟩ ⟨by omega, by omega⟩) (fun h14 => ?_) (fun h14 => ?_)
  ·
    refine w2 (0) vi118_19 (by decide) ?_
    refine w3 vi118_20 rfl rfl ?_
    exact m_same_loop (by omega) h1 h0 _ 0 _ _ (Nat.zero_add _) (fun m hm => absurd hm (Nat.not_lt_zero _))
  ·
    refine w2 (0) vi118_17 (by decide) ?_
    refine w42b vi118_18 vm118.2.2.2 (by first | exact Or.inl rfl | exact Or.inr rfl | omega) ?_
    exact h0 (fun g => by have := g.1; omega)
theorem c_showTheSame (hc : vt_code k pc = (27, 118, b, c))  (hs : Nat.ble (vj_cat sc) 8 = true) (h1 : vy_eq σ.2 (σ.1 12 0) (σ.1 13 0) (σ.1 16 0) (σ.1 16 1) (σ.1 21 0) (σ.1 21 1) → vW vw_rep L xs (k, pc + 3, lc, .int (jI (1)) :: sc) σ Q) (h0 : ¬ vy_eq σ.2 (σ.1 12 0) (σ.1 13 0) (σ.1 16 0) (σ.1 16 1) (σ.1 21 0) (σ.1 21 1) → vW vw_rep L xs (k, pc + 3, lc, .int (jI (0)) :: sc) σ Q) : vW vw_rep L xs (k, pc, lc, .ref (vw_vr 1) :: .ref (vw_vr 0) :: .ref 8 :: sc) σ Q := by
  refine w27 (n := 3) (vs := [.ref (vw_vr 1), .ref (vw_vr 0), .ref 8]) hc vm118.2.1 rfl (by rw [vm118.2.2.1]; rfl) hs (by simp only [List.length_cons]; omega) ⟨_, rfl⟩ (fun M hM => hM.2.2.2.2.2.1) ⟨by omega, by omega⟩ vm118.1 ?_
  rw [vm118.2.2.1]
  exact m_showTheSame  (Q := fun v σ1 => vW vw_rep L xs (k, pc + 3, lc, v ++ sc) σ1 Q) h1 h0
end VW14
