/-! ===== rows ===== -/
section VW5
def vl_at (l : List Int) (z : Int) : Int := if 0 ≤ z then (l[z.toNat]?).getD (-1) else -1
def vl_put (l : List Int) (z y : Int) : List Int := if 0 ≤ z then l.set z.toNat y else l
def vl_ins (c : Nat) (l : List Int) (z y : Int) : List Int := if l.length < c ∧ 0 ≤ z ∧ z ≤ l.length then l.take z.toNat ++ y :: l.drop z.toNat else l
def vl_add (c : Nat) (l : List Int) (y : Int) : List Int := if l.length < c then l ++ [y] else l
def vl_rem (l : List Int) (z : Int) : List Int := if 0 ≤ z then l.eraseIdx z.toNat else l
def vl_pf : List Int → Int → Nat → Int
  | [], _, _ => -1
  | x :: l, y, j => if x = y then (j : Int) else vl_pf l y (j + 1)
def vl_pl (l : List Int) (y : Int) : Int := vl_pf l y 0
def vl_fill (c : Nat) (m y : Int) : List Int := List.replicate (max 0 (min m c)).toNat y
theorem vl_at_lt {l : List Int} {z : Int} (h0 : 0 ≤ z) (h1 : z < l.length) : l[z.toNat]? = some (vl_at l z) := by
  unfold vl_at
  rw [if_pos h0, List.getElem?_eq_getElem (show z.toNat < l.length by omega)]
  rfl
theorem vl_at_no {l : List Int} {z : Int} (h : z < 0 ∨ l.length ≤ z) : vl_at l z = -1 := by
  unfold vl_at
  by_cases h0 : 0 ≤ z
  · rw [if_pos h0, List.getElem?_eq_none (by omega)]; rfl
  · rw [if_neg h0]
/-- a row changes: what the rest of the heap says stays -/
theorem vw_rep_row {σ : vw_S} {M M' : vj_M} {kk i : Nat} {l : List Int} (hM : vw_rep σ M) (hk : vw_ok kk i) (h0 : M'.2.1 = 811) (hne : ∀ q, vw_tb q ≠ (1, kk, i) → vw_tb q ≠ (2, kk, i) → M'.1 q = M.1 q)
    (ha : ∃ t f, M'.1 (vw_rr kk i + 1) = .inl (t, 0, vw_cap kk, .inl f) ∧ vw_hd l f) (hb : M'.1 (vw_rr kk i) = .inr (3, [.ref (vw_rr kk i + 1), .int (jI l.length)])) (hl : l.length ≤ vw_cap kk) : vw_rep (vw_sr σ.1 kk i l, σ.2) M' := by
  obtain ⟨m0, m1, m2, m3, m4, m5, m6, ⟨t7, g7, m7, m7'⟩, ⟨t8, g8, m8, m8'⟩, ⟨t9, g9, m9, m9'⟩, m10⟩ := hM
  obtain ⟨a0, a1, a2, a3, a4, -⟩ := vw_tabo
  have ne : ∀ {q u v}, vw_tb q = (3, u, v) → M'.1 q = M.1 q := fun {q u v} e => hne q (by rw [e]; intro z; cases z) (by rw [e]; intro z; cases z)
  refine ⟨h0, fun k' i' hk' => ?_, fun d hd => ?_, fun j hj => ?_, fun j hj => ?_, ?_, ?_, ⟨t7, g7, ?_, m7'⟩, ⟨t8, g8, ?_, m8'⟩, ⟨t9, g9, ?_, m9'⟩, m10⟩
  · by_cases e : k' = kk ∧ i' = i
    · obtain ⟨e1, e2⟩ := e
      subst e1
      subst e2
      show (∃ t f, _ ∧ vw_hd (vw_sr σ.1 k' i' l k' i') f) ∧ _ = Sum.inr (3, [_, Value.int (jI (vw_sr σ.1 k' i' l k' i').length)]) ∧ (vw_sr σ.1 k' i' l k' i').length ≤ _
      rw [vw_sr_eq]
      exact ⟨ha, hb, hl⟩
    · obtain ⟨b1, b2, -, -⟩ := vw_row hk'
      show (∃ t f, _ ∧ vw_hd (vw_sr σ.1 kk i l k' i') f) ∧ _ = Sum.inr (3, [_, Value.int (jI (vw_sr σ.1 kk i l k' i').length)]) ∧ (vw_sr σ.1 kk i l k' i').length ≤ _
      rw [vw_sr_ne _ _ e, hne (vw_rr k' i') (by rw [b1]; intro z; cases z; exact e ⟨rfl, rfl⟩) (by rw [b1]; intro z; cases z), hne (vw_rr k' i' + 1) (by rw [b2]; intro z; cases z) (by rw [b2]; intro z; cases z; exact e ⟨rfl, rfl⟩)]
      exact m1 k' i' hk'
  · rw [ne (vw_deed hd)]; exact m2 d hd
  · rw [ne (vw_copy hj)]; exact m3 j hj
  · rw [ne (vw_view hj)]; exact m4 j hj
  · rw [ne a0]; exact m5
  · rw [ne a1]; exact m6
  · rw [ne a2]; exact m7
  · rw [ne a3]; exact m8
  · rw [ne a4]; exact m9
theorem vw_row_ne {kk i : Nat} (hk : vw_ok kk i) : vw_tb (vw_rr kk i) ≠ vw_tb (vw_rr kk i + 1) := by
  obtain ⟨b1, b2, -, -⟩ := vw_row hk
  rw [b1, b2]
  intro z; cases z
/-- one row lies open: its ints f, its size s; all else as σ says -/
def vw_X (σ : vw_S) (kk i t : Nat) (s : (Nat → Int32) × Int32) (M : vj_M) : Prop := M.2.1 = 811 ∧ (∃ M0, vw_rep σ M0 ∧ ∀ q, vw_tb q ≠ (1, kk, i) → vw_tb q ≠ (2, kk, i) → M.1 q = M0.1 q) ∧ M.1 (vw_rr kk i + 1) = .inl (t, 0, vw_cap kk, .inl s.1) ∧ M.1 (vw_rr kk i) = .inr (3, [.ref (vw_rr kk i + 1), .int s.2])
section
variable {L : Nat} {xs : Nat → Int32} {σ : vw_S} {Q : List Value → vw_S → Prop} {k pc a b c kk i t : Nat} {lc lc' : List (Option Value)} {sc : List Value} {s : (Nat → Int32) × Int32} {QX : List Value → (Nat → Int32) × Int32 → Prop} {fr : vj_F}
theorem vW_X (hk : vw_ok kk i) (h : ∀ t f, vw_hd (σ.1 kk i) f → (σ.1 kk i).length ≤ vw_cap kk → vW (vw_X σ kk i t) L xs fr (f, jI (σ.1 kk i).length) (fun v s' => ∃ l', vw_hd l' s'.1 ∧ s'.2 = jI l'.length ∧ l'.length ≤ vw_cap kk ∧ Q v (vw_sr σ.1 kk i l', σ.2))) : vW vw_rep L xs fr σ Q := fun M hM => by
  obtain ⟨⟨t, f, r1, r2⟩, r3, r4⟩ := hM.2.1 kk i hk
  obtain ⟨n, v, M', s', q1, ⟨x0, ⟨M0, x1, x2⟩, x3, x4⟩, q3, l', l1, l2, l3, l4⟩ := h t f r2 r4 M ⟨hM.1, ⟨M, hM, fun _ _ _ => rfl⟩, r1, r3⟩
  exact ⟨n, v, M', _, q1, vw_rep_row x1 hk x0 x2 ⟨t, s'.1, x3, l1⟩ (by rw [x4, l2]) l3, q3, l4⟩
theorem vw_X_ob {q : Nat} {M : vj_M} (h : vw_X σ kk i t s M) (h8 : 8 ≤ q) (h1 : q < 811) : vj_obj M (.ref q) = some q := by
  show vj_ob M q = _
  unfold vj_ob
  rw [if_pos ⟨h8, by rw [h.1]; exact h1⟩]
theorem x14s (hc : vt_code k pc = (14, 3, 4, c)) (hk : vw_ok kk i) (g : vW (vw_X σ kk i t) L xs (k, pc + 3, lc, .int s.2 :: sc) s QX) : vW (vw_X σ kk i t) L xs (k, pc, lc, .ref (vw_rr kk i) :: sc) s QX :=
  vW.step (fun M hM => vk_st hc (by
    obtain ⟨-, -, b3, b4⟩ := vw_row hk
    show vj_oget 3 4 c k pc lc (.ref (vw_rr kk i) :: sc) M = _
    unfold vj_oget
    dsimp only
    rw [vw_X_ob hM b3 (by omega)]
    dsimp only [vj_at]
    rw [hM.2.2.2]
    rfl)) g
theorem x14a (hc : vt_code k pc = (14, 3, 3, c)) (hk : vw_ok kk i) (g : vW (vw_X σ kk i t) L xs (k, pc + 3, lc, .ref (vw_rr kk i + 1) :: sc) s QX) : vW (vw_X σ kk i t) L xs (k, pc, lc, .ref (vw_rr kk i) :: sc) s QX :=
  vW.step (fun M hM => vk_st hc (by
    obtain ⟨-, -, b3, b4⟩ := vw_row hk
    show vj_oget 3 3 c k pc lc (.ref (vw_rr kk i) :: sc) M = _
    unfold vj_oget
    dsimp only
    rw [vw_X_ob hM b3 (by omega)]
    dsimp only [vj_at]
    rw [hM.2.2.2]
    rfl)) g
theorem x15s {z : Int32} (hc : vt_code k pc = (15, 3, 4, c)) (hk : vw_ok kk i) (g : vW (vw_X σ kk i t) L xs (k, pc + 3, lc, sc) (s.1, z) QX) : vW (vw_X σ kk i t) L xs (k, pc, lc, .int z :: .ref (vw_rr kk i) :: sc) s QX :=
  vW.next (fun M hM => ⟨vj_put M (vw_rr kk i) (.inr (3, [.ref (vw_rr kk i + 1), .int z])), vk_st hc (by
    obtain ⟨-, -, b3, b4⟩ := vw_row hk
    show vj_oput 3 4 c k pc lc (.int z :: .ref (vw_rr kk i) :: sc) M = _
    unfold vj_oput
    dsimp only
    rw [vw_X_ob hM b3 (by omega)]
    dsimp only [vj_at]
    rw [hM.2.2.2]
    rfl), by
    obtain ⟨x0, ⟨M0, x1, x2⟩, x3, x4⟩ := hM
    obtain ⟨b1, b2, b3, b4⟩ := vw_row hk
    refine ⟨x0, ⟨M0, x1, fun q hq hq' => ?_⟩, ?_, vw_put_eq _ _ _⟩
    · rw [vw_put_ne M _ (by rw [b1]; exact Ne.symm hq)]; exact x2 q hq hq'
    · rw [vw_put_ne M _ (vw_row_ne hk)]; exact x3, rfl⟩) g
theorem x26 (hc : vt_code k pc = (26, a, b, c)) (hk : vw_ok kk i) (g : vW (vw_X σ kk i t) L xs (k, pc + 1, lc, .int (jI (vw_cap kk)) :: sc) s QX) : vW (vw_X σ kk i t) L xs (k, pc, lc, .ref (vw_rr kk i + 1) :: sc) s QX :=
  vW.step (fun M hM => vk_st hc (by
    obtain ⟨-, -, b3, b4⟩ := vw_row hk
    show vj_olen L a b c k pc lc (.ref (vw_rr kk i + 1) :: sc) M = _
    unfold vj_olen
    dsimp only
    rw [if_neg (show ¬ vw_rr kk i + 1 = 0 by omega), vw_X_ob hM (by omega) (by omega)]
    dsimp only [vj_at]
    rw [hM.2.2.1]
    dsimp only
    rw [jI_nat]
    rfl)) g
theorem vw_cap_le (kk : Nat) : vw_cap kk ≤ 2160 := by
  match kk with
  | 0 => exact Nat.le_of_ble_eq_true rfl
  | 1 => exact Nat.le_of_ble_eq_true rfl
  | 2 => exact Nat.le_of_ble_eq_true rfl
  | 3 => exact Nat.le_of_ble_eq_true rfl
  | 4 => exact Nat.le_of_ble_eq_true rfl
  | 5 => exact Nat.le_of_ble_eq_true rfl
  | 6 => exact Nat.le_of_ble_eq_true rfl
  | 7 => exact Nat.le_of_ble_eq_true rfl
  | 8 => exact Nat.le_of_ble_eq_true rfl
  | 9 => exact Nat.le_of_ble_eq_true rfl
  | 10 => exact Nat.le_of_ble_eq_true rfl
  | 11 => exact Nat.le_of_ble_eq_true rfl
  | 12 => exact Nat.le_of_ble_eq_true rfl
  | 13 => exact Nat.le_of_ble_eq_true rfl
  | 14 => exact Nat.le_of_ble_eq_true rfl
  | 15 => exact Nat.le_of_ble_eq_true rfl
  | 16 => exact Nat.le_of_ble_eq_true rfl
  | 17 => exact Nat.le_of_ble_eq_true rfl
  | 18 => exact Nat.le_of_ble_eq_true rfl
  | 19 => exact Nat.le_of_ble_eq_true rfl
  | 20 => exact Nat.le_of_ble_eq_true rfl
  | 21 => exact Nat.le_of_ble_eq_true rfl
  | _ + 22 => exact Nat.zero_le _
theorem vw_jx {z : Int} {n : Nat} (h0 : 0 ≤ z) (h1 : z < n) (hn : n ≤ 2160) : vj_in (jI z) n = true ∧ (jI z).toNatClampNeg = z.toNat := by
  have h2 := jI_clamp h0 (by omega)
  refine ⟨decide_eq_true ?_, h2⟩
  rw [h2, jI_pos ⟨by omega, by omega⟩]
  omega
theorem x16 {z : Int} (hc : vt_code k pc = (16, a, b, c)) (hk : vw_ok kk i) (h0 : 0 ≤ z) (h1 : z < vw_cap kk) (g : vW (vw_X σ kk i t) L xs (k, pc + 1, lc, .int (s.1 z.toNat) :: sc) s QX) : vW (vw_X σ kk i t) L xs (k, pc, lc, .int (jI z) :: .ref (vw_rr kk i + 1) :: sc) s QX :=
  vW.step (fun M hM => vk_st hc (by
    obtain ⟨-, -, b3, b4⟩ := vw_row hk
    obtain ⟨i1, i2⟩ := vw_jx h0 h1 (vw_cap_le kk)
    show vj_oiald L xs a b c k pc lc (.int (jI z) :: .ref (vw_rr kk i + 1) :: sc) M = _
    unfold vj_oiald
    dsimp only
    rw [if_neg (show ¬ vw_rr kk i + 1 = 0 by omega), vw_X_ob hM (by omega) (by omega)]
    dsimp only [vj_at]
    rw [hM.2.2.1]
    dsimp only
    rw [if_pos ⟨rfl, i1⟩, i2]
    rfl)) g
theorem x17 {z : Int} {y : Int32} (hc : vt_code k pc = (17, a, b, c)) (hk : vw_ok kk i) (h0 : 0 ≤ z) (h1 : z < vw_cap kk) (g : vW (vw_X σ kk i t) L xs (k, pc + 1, lc, sc) (upd s.1 z.toNat y, s.2) QX) : vW (vw_X σ kk i t) L xs (k, pc, lc, .int y :: .int (jI z) :: .ref (vw_rr kk i + 1) :: sc) s QX :=
  vW.next (fun M hM => ⟨vj_put M (vw_rr kk i + 1) (.inl (t, 0, vw_cap kk, .inl (upd s.1 z.toNat y))), vk_st hc (by
    obtain ⟨-, -, b3, b4⟩ := vw_row hk
    obtain ⟨i1, i2⟩ := vw_jx h0 h1 (vw_cap_le kk)
    show vj_oiast a b c k pc lc (.int y :: .int (jI z) :: .ref (vw_rr kk i + 1) :: sc) M = _
    unfold vj_oiast
    dsimp only
    rw [vw_X_ob hM (by omega) (by omega)]
    dsimp only [vj_at]
    rw [hM.2.2.1]
    dsimp only
    rw [if_pos ⟨rfl, i1⟩, i2]
    rfl), by
    obtain ⟨x0, ⟨M0, x1, x2⟩, x3, x4⟩ := hM
    obtain ⟨b1, b2, b3, b4⟩ := vw_row hk
    refine ⟨x0, ⟨M0, x1, fun q hq hq' => ?_⟩, vw_put_eq _ _ _, ?_⟩
    · rw [vw_put_ne M _ (by rw [b2]; exact Ne.symm hq')]; exact x2 q hq hq'
    · rw [vw_put_ne M _ (Ne.symm (vw_row_ne hk))]; exact x4, rfl⟩) g
/-! the same, of a row that is whole -/
theorem w14s (hc : vt_code k pc = (14, 3, 4, c)) (hk : vw_ok kk i) (g : vW vw_rep L xs (k, pc + 3, lc, .int (jI (σ.1 kk i).length) :: sc) σ Q) : vW vw_rep L xs (k, pc, lc, .ref (vw_rr kk i) :: sc) σ Q := by
  obtain ⟨-, -, b3, b4⟩ := vw_row hk
  exact w14 hc (fun M hM => (hM.2.1 kk i hk).2.1) ⟨b3, by omega⟩ rfl g
theorem w14a (hc : vt_code k pc = (14, 3, 3, c)) (hk : vw_ok kk i) (g : vW vw_rep L xs (k, pc + 3, lc, .ref (vw_rr kk i + 1) :: sc) σ Q) : vW vw_rep L xs (k, pc, lc, .ref (vw_rr kk i) :: sc) σ Q := by
  obtain ⟨-, -, b3, b4⟩ := vw_row hk
  exact w14 hc (fun M hM => (hM.2.1 kk i hk).2.1) ⟨b3, by omega⟩ rfl g
theorem vW_len (hk : vw_ok kk i) (g : (σ.1 kk i).length ≤ vw_cap kk → vW vw_rep L xs fr σ Q) : vW vw_rep L xs fr σ Q := fun M hM => g (hM.2.1 kk i hk).2.2 M hM
theorem vW_val (hk : vw_ok kk i) {j : Nat} {z : Int} (hz : (σ.1 kk i)[j]? = some z) (g : vw_in z → vW vw_rep L xs fr σ Q) : vW vw_rep L xs fr σ Q := fun M hM => by
  obtain ⟨⟨t, f, r1, r2⟩, -⟩ := hM.2.1 kk i hk
  exact g (r2 j z hz).1 M hM
theorem w26r (hc : vt_code k pc = (26, a, b, c)) (hk : vw_ok kk i) (g : vW vw_rep L xs (k, pc + 1, lc, .int (jI (vw_cap kk)) :: sc) σ Q) : vW vw_rep L xs (k, pc, lc, .ref (vw_rr kk i + 1) :: sc) σ Q := by
  obtain ⟨-, -, b3, b4⟩ := vw_row hk
  exact w26 (n := vw_cap kk) hc (fun M hM => by
    obtain ⟨⟨t, f, r1, r2⟩, -⟩ := hM.2.1 kk i hk
    exact ⟨t, _, _, r1⟩) ⟨by omega, by omega⟩ rfl g
theorem w16r {z : Int} (hc : vt_code k pc = (16, a, b, c)) (hk : vw_ok kk i) (h0 : 0 ≤ z) (h1 : z < (σ.1 kk i).length) (g : vw_in (vl_at (σ.1 kk i) z) → vW vw_rep L xs (k, pc + 1, lc, .int (jI (vl_at (σ.1 kk i) z)) :: sc) σ Q) : vW vw_rep L xs (k, pc, lc, .int (jI z) :: .ref (vw_rr kk i + 1) :: sc) σ Q :=
  vW_val hk (vl_at_lt h0 h1) (fun hv => vW.step (fun M hM => vk_st hc (by
    obtain ⟨-, -, b3, b4⟩ := vw_row hk
    obtain ⟨⟨t, f, r1, r2⟩, r3, r4⟩ := hM.2.1 kk i hk
    obtain ⟨i1, i2⟩ := vw_jx h0 (show z < (vw_cap kk : Nat) by omega) (vw_cap_le kk)
    show vj_oiald L xs a b c k pc lc (.int (jI z) :: .ref (vw_rr kk i + 1) :: sc) M = _
    unfold vj_oiald
    dsimp only
    rw [if_neg (show ¬ vw_rr kk i + 1 = 0 by omega), vw_obM hM (by omega) (by omega)]
    dsimp only [vj_at]
    rw [r1]
    dsimp only
    rw [if_pos ⟨rfl, i1⟩, i2, (r2 _ _ (vl_at_lt h0 h1)).2]
    rfl)) (g hv))
end
section
variable {L : Nat} {xs : Nat → Int32} {σ : vw_S} {Q : List Value → vw_S → Prop} {k pc b c kk i : Nat} {lc : List (Option Value)} {sc : List Value} {z y : Int}
theorem m_size (hk : vw_ok kk i) : vW vw_rep L xs (26, 0, [some (.ref (vw_rr kk i))], []) σ (fun v σ' => v = [.int (jI ((σ.1 kk i).length))] ∧ σ' = σ) := by
  refine w1 vi26_0 rfl rfl ?_
  refine w14s vi26_1 hk ?_
  refine w42 vi26_4 vm26.2.2.2 ?_
  exact ⟨rfl, rfl⟩
theorem c_size (hc : vt_code k pc = (27, 26, b, c)) (hk : vw_ok kk i) (hs : Nat.ble (vj_cat sc) 8 = true) (t : vW vw_rep L xs (k, pc + 3, lc, .int (jI ((σ.1 kk i).length)) :: sc) σ Q) : vW vw_rep L xs (k, pc, lc, .ref (vw_rr kk i) :: sc) σ Q := by
  obtain ⟨-, -, b3, b4⟩ := vw_row hk
  refine w27 (n := 1) (vs := [.ref (vw_rr kk i)]) hc vm26.2.1 rfl (by rw [vm26.2.2.1]; rfl) hs (by simp only [List.length_cons]; omega) ⟨_, rfl⟩ (fun M hM => (hM.2.1 kk i hk).2.1) ⟨b3, by omega⟩ vm26.1 ?_
  rw [vm26.2.2.1]
  refine (m_size hk).mono (fun v σ' h => ?_)
  obtain ⟨rfl, rfl⟩ := h
  exact t
theorem m_at (hk : vw_ok kk i) (hz : vw_in z) : vW vw_rep L xs (27, 0, [some (.ref (vw_rr kk i)), some (.int (jI (z)))], []) σ (fun v σ' => v = [.int (jI (vl_at (σ.1 kk i) z))] ∧ σ' = σ) := by
  have hz1 := hz.1
  have hz2 := hz.2
  have hcap := vw_cap_le kk
  refine vW_len hk (fun hlen => ?_)
  refine w0 vi27_0 rfl rfl ?_
  refine w7 vi27_1 (vwz_2 ⟨by omega, by omega⟩) (fun h1 => ?_) (fun h1 => ?_)
  ·
    refine w2 (-1) vi27_30 (by decide) ?_
    refine w42 vi27_31 vm27.2.2.2 ?_
    first | exact ⟨rfl, rfl⟩ | (refine ⟨?_, rfl⟩; rw [vl_at_no (by omega)])
  ·
    refine w0 vi27_4 rfl rfl ?_
    refine w1 vi27_5 rfl rfl ?_
    refine w14s vi27_6 hk ?_
    refine w8 vi27_9 (vwc_3 ⟨by omega, by omega⟩ ⟨by omega, by omega⟩) (fun h9 => ?_) (fun h9 => ?_)
    ·
      refine w2 (-1) vi27_30 (by decide) ?_
      refine w42 vi27_31 vm27.2.2.2 ?_
      first | exact ⟨rfl, rfl⟩ | (refine ⟨?_, rfl⟩; rw [vl_at_no (by omega)])
    ·
      refine w0 vi27_12 rfl rfl ?_
      refine w1 vi27_13 rfl rfl ?_
      refine w14a vi27_14 hk ?_
      refine w26r vi27_17 hk ?_
      refine w8 vi27_18 (vwc_3 ⟨by omega, by omega⟩ ⟨by omega, by omega⟩) (fun h18 => by exfalso; omega) (fun h18 => ?_)
      refine w1 vi27_21 rfl rfl ?_
      refine w14a vi27_22 hk ?_
      refine w0 vi27_25 rfl rfl ?_
      refine w16r vi27_26 hk (by omega) (by omega) (fun hv => ?_)
      refine w5 vi27_27 ?_
      refine w42 vi27_31 vm27.2.2.2 ?_
      first | exact ⟨rfl, rfl⟩ | (refine ⟨?_, rfl⟩; rw [vl_at_no (by omega)])
theorem c_at (hc : vt_code k pc = (27, 27, b, c)) (hk : vw_ok kk i) (hz : vw_in z) (hs : Nat.ble (vj_cat sc) 8 = true) (t : vW vw_rep L xs (k, pc + 3, lc, .int (jI (vl_at (σ.1 kk i) z)) :: sc) σ Q) : vW vw_rep L xs (k, pc, lc, .int (jI (z)) :: .ref (vw_rr kk i) :: sc) σ Q := by
  obtain ⟨-, -, b3, b4⟩ := vw_row hk
  refine w27 (n := 2) (vs := [.int (jI (z)), .ref (vw_rr kk i)]) hc vm27.2.1 rfl (by rw [vm27.2.2.1]; rfl) hs (by simp only [List.length_cons]; omega) ⟨_, rfl⟩ (fun M hM => (hM.2.1 kk i hk).2.1) ⟨b3, by omega⟩ vm27.1 ?_
  rw [vm27.2.2.1]
  refine (m_at hk hz).mono (fun v σ' h => ?_)
  obtain ⟨rfl, rfl⟩ := h
  exact t
theorem vl_put_len (l : List Int) (z y : Int) : (vl_put l z y).length = l.length := by
  unfold vl_put
  split
  · rw [List.length_set]
  · rfl
theorem vl_put_hd {l : List Int} {f : Nat → Int32} {z y : Int} (h : vw_hd l f) (hy : vw_in y) (h0 : 0 ≤ z) : vw_hd (vl_put l z y) (upd f z.toNat (jI y)) := by
  intro j x hx
  unfold vl_put at hx
  rw [if_pos h0] at hx
  unfold upd
  by_cases e : j = z.toNat
  · subst e
    by_cases hl : z.toNat < l.length
    · rw [List.getElem?_set_self hl] at hx
      cases hx
      exact ⟨hy, if_pos rfl⟩
    · rw [List.getElem?_eq_none (by rw [List.length_set]; omega)] at hx; cases hx
  · rw [List.getElem?_set_ne (Ne.symm e)] at hx
    rw [if_neg e]
    exact h j x hx
theorem vl_put_no {l : List Int} {z : Int} (y : Int) (h : z < 0 ∨ l.length ≤ z) : vl_put l z y = l := by
  unfold vl_put
  by_cases h0 : 0 ≤ z
  · rw [if_pos h0, List.set_eq_of_length_le (by omega)]
  · rw [if_neg h0]
theorem vw_sr_self (R : Nat → Nat → List Int) (kk i : Nat) : vw_sr R kk i (R kk i) = R := by
  funext k' i'
  unfold vw_sr
  by_cases h : k' = kk ∧ i' = i
  · rw [if_pos h, h.1, h.2]
  · rw [if_neg h]
theorem vw_sr_sr (R : Nat → Nat → List Int) (kk i : Nat) (l l' : List Int) : vw_sr (vw_sr R kk i l) kk i l' = vw_sr R kk i l' := by
  funext k' i'
  unfold vw_sr
  by_cases h : k' = kk ∧ i' = i
  · rw [if_pos h, if_pos h]
  · rw [if_neg h, if_neg h, if_neg h]
theorem m_put (hk : vw_ok kk i) (hz : vw_in z) (hy : vw_in y) : vW vw_rep L xs (28, 0, [some (.ref (vw_rr kk i)), some (.int (jI (z))), some (.int (jI (y)))], []) σ (fun v σ' => v = [] ∧ σ' = (vw_sr σ.1 kk i (vl_put (σ.1 kk i) z y), σ.2)) := by
  have hz1 := hz.1
  have hz2 := hz.2
  have hy1 := hy.1
  have hy2 := hy.2
  refine vW_X hk (fun t f hf hlen => ?_)
  have hcap := vw_cap_le kk
  refine w0 vi28_0 rfl rfl ?_
  refine w7 vi28_1 (vwz_2 ⟨by omega, by omega⟩) (fun h1 => ?_) (fun h1 => ?_)
  ·
    refine w43 vi28_28 vm28.2.2.2 ?_
    exact ⟨_, hf, rfl, hlen, rfl, by rw [vl_put_no y (by omega)]⟩
  ·
    refine w0 vi28_4 rfl rfl ?_
    refine w1 vi28_5 rfl rfl ?_
    refine x14s vi28_6 hk ?_
    refine w8 vi28_9 (vwc_3 ⟨by omega, by omega⟩ ⟨by omega, by omega⟩) (fun h9 => ?_) (fun h9 => ?_)
    ·
      refine w43 vi28_28 vm28.2.2.2 ?_
      exact ⟨_, hf, rfl, hlen, rfl, by rw [vl_put_no y (by omega)]⟩
    ·
      refine w0 vi28_12 rfl rfl ?_
      refine w1 vi28_13 rfl rfl ?_
      refine x14a vi28_14 hk ?_
      refine x26 vi28_17 hk ?_
      refine w8 vi28_18 (vwc_3 ⟨by omega, by omega⟩ ⟨by omega, by omega⟩) (fun h18 => by exfalso; omega) (fun h18 => ?_)
      refine w1 vi28_21 rfl rfl ?_
      refine x14a vi28_22 hk ?_
      refine w0 vi28_25 rfl rfl ?_
      refine w0 vi28_26 rfl rfl ?_
      refine x17 vi28_27 hk (by omega) (by omega) ?_
      exact w43 vi28_28 vm28.2.2.2 ⟨_, vl_put_hd hf hy (by omega), by rw [vl_put_len], by rw [vl_put_len]; exact hlen, rfl, rfl⟩
theorem c_put (hc : vt_code k pc = (27, 28, b, c)) (hk : vw_ok kk i) (hz : vw_in z) (hy : vw_in y) (hs : Nat.ble (vj_cat sc) 8 = true) (t : vW vw_rep L xs (k, pc + 3, lc, sc) (vw_sr σ.1 kk i (vl_put (σ.1 kk i) z y), σ.2) Q) : vW vw_rep L xs (k, pc, lc, .int (jI (y)) :: .int (jI (z)) :: .ref (vw_rr kk i) :: sc) σ Q := by
  obtain ⟨-, -, b3, b4⟩ := vw_row hk
  refine w27 (n := 3) (vs := [.int (jI (y)), .int (jI (z)), .ref (vw_rr kk i)]) hc vm28.2.1 rfl (by rw [vm28.2.2.1]; rfl) hs (by simp only [List.length_cons]; omega) ⟨_, rfl⟩ (fun M hM => (hM.2.1 kk i hk).2.1) ⟨b3, by omega⟩ vm28.1 ?_
  rw [vm28.2.2.1]
  refine (m_put hk hz hy).mono (fun v σ' h => ?_)
  obtain ⟨rfl, rfl⟩ := h
  exact t
theorem m_clear (hk : vw_ok kk i) : vW vw_rep L xs (32, 0, [some (.ref (vw_rr kk i))], []) σ (fun v σ' => v = [] ∧ σ' = (vw_sr σ.1 kk i [], σ.2)) := by
  refine vW_X hk (fun t f hf hlen => ?_)
  have hcap := vw_cap_le kk
  refine w1 vi32_0 rfl rfl ?_
  refine w2 (0) vi32_1 (by decide) ?_
  refine x15s vi32_2 hk ?_
  refine w43 vi32_5 vm32.2.2.2 ?_
  exact ⟨[], fun j x h => by simp at h, rfl, Nat.zero_le _, rfl, rfl⟩
theorem c_clear (hc : vt_code k pc = (27, 32, b, c)) (hk : vw_ok kk i) (hs : Nat.ble (vj_cat sc) 8 = true) (t : vW vw_rep L xs (k, pc + 3, lc, sc) (vw_sr σ.1 kk i [], σ.2) Q) : vW vw_rep L xs (k, pc, lc, .ref (vw_rr kk i) :: sc) σ Q := by
  obtain ⟨-, -, b3, b4⟩ := vw_row hk
  refine w27 (n := 1) (vs := [.ref (vw_rr kk i)]) hc vm32.2.1 rfl (by rw [vm32.2.2.1]; rfl) hs (by simp only [List.length_cons]; omega) ⟨_, rfl⟩ (fun M hM => (hM.2.1 kk i hk).2.1) ⟨b3, by omega⟩ vm32.1 ?_
  rw [vm32.2.2.1]
  refine (m_clear hk).mono (fun v σ' h => ?_)
  obtain ⟨rfl, rfl⟩ := h
  exact t
theorem vl_ins_len {c : Nat} {l : List Int} {z y : Int} (h : l.length < c ∧ 0 ≤ z ∧ z ≤ l.length) : (vl_ins c l z y).length = l.length + 1 := by
  unfold vl_ins
  rw [if_pos h, List.length_append, List.length_take, List.length_cons, List.length_drop]
  omega
theorem vl_ins_hd {c : Nat} {l : List Int} {f : Nat → Int32} {z y : Int} (h : vw_hd l f) (hy : vw_in y) (hh : l.length < c ∧ 0 ≤ z ∧ z ≤ l.length) : vw_hd (vl_ins c l z y) (upd (fun m => if z.toNat < m ∧ m ≤ l.length then f (m - 1) else f m) z.toNat (jI y)) := by
  intro j x hx
  unfold vl_ins at hx
  rw [if_pos hh] at hx
  unfold upd
  have ht : (l.take z.toNat).length = z.toNat := by rw [List.length_take]; omega
  by_cases e : j = z.toNat
  · rw [if_pos e]
    rw [List.getElem?_append_right (by omega), e, ht, Nat.sub_self] at hx
    cases hx
    exact ⟨hy, rfl⟩
  · rw [if_neg e]
    dsimp only
    by_cases e2 : j < z.toNat
    · rw [if_neg (by omega)]
      rw [List.getElem?_append_left (by omega), List.getElem?_take, if_pos e2] at hx
      exact h j x hx
    · rw [List.getElem?_append_right (by omega), ht] at hx
      obtain ⟨m, hm⟩ : ∃ m, j - z.toNat = m + 1 := ⟨j - z.toNat - 1, by omega⟩
      rw [hm, List.getElem?_cons_succ, List.getElem?_drop] at hx
      have hlt := (List.getElem?_eq_some_iff.mp hx).1
      rw [if_pos (by omega), show j - 1 = z.toNat + m by omega]
      exact h _ _ hx
theorem vl_ins_no {c : Nat} {l : List Int} {z : Int} (y : Int) (h : ¬ (l.length < c ∧ 0 ≤ z ∧ z ≤ l.length)) : vl_ins c l z y = l := if_neg h
theorem m_ins_loop (hk : vw_ok kk i) (hy : vw_in y) {t : Nat} {f : Nat → Int32} {n : Nat} {QX : List Value → (Nat → Int32) × Int32 → Prop} (h0 : 0 ≤ z) (h1 : z ≤ n) (hn : n < vw_cap kk)
    (hQ : QX [] (upd (fun m => if z.toNat < m ∧ m ≤ n then f (m - 1) else f m) z.toNat (jI y), jI (n + 1))) : ∀ (d : Nat), z + d ≤ n → vW (vw_X σ kk i t) L xs (30, 37, [some (.ref (vw_rr kk i)), some (.int (jI z)), some (.int (jI y)), some (.int (jI (z + d)))], []) ((fun m => if (z + d).toNat < m ∧ m ≤ n then f (m - 1) else f m), jI n) QX := by
  have hcap := vw_cap_le kk
  intro d
  induction d with
  | zero =>
    intro hd
    refine w0 vi30_37 rfl rfl ?_
    refine w0 vi30_38 rfl rfl ?_
    refine w8 vi30_39 (vwc_5 ⟨by omega, by omega⟩ ⟨by omega, by omega⟩) (fun h39 => ?_) (fun h39 => by exfalso; omega)
    refine w1 vi30_62 rfl rfl ?_
    refine x14a vi30_63 hk ?_
    refine w0 vi30_66 rfl rfl ?_
    refine w0 vi30_67 rfl rfl ?_
    refine x17 vi30_68 hk h0 (by omega) ?_
    refine w1 vi30_69 rfl rfl ?_
    refine w38 vi30_70 rfl ?_
    refine x14s vi30_71 hk ?_
    refine w2 (1) vi30_74 (by decide) ?_
    refine w9 vi30_75 ?_
    refine x15s vi30_76 hk ?_
    refine w43 vi30_79 vm30.2.2.2 ?_
    have e : (z + ((0 : Nat) : Int)).toNat = z.toNat := by rw [show z + ((0 : Nat) : Int) = z by omega]
    rw [e]
    exact hQ
  | succ d ih =>
    intro hd
    refine w0 vi30_37 rfl rfl ?_
    refine w0 vi30_38 rfl rfl ?_
    refine w8 vi30_39 (vwc_5 ⟨by omega, by omega⟩ ⟨by omega, by omega⟩) (fun h39 => by exfalso; omega) (fun h39 => ?_)
    refine w1 vi30_42 rfl rfl ?_
    refine x14a vi30_43 hk ?_
    refine w0 vi30_46 rfl rfl ?_
    refine w1 vi30_47 rfl rfl ?_
    refine x14a vi30_48 hk ?_
    refine w0 vi30_51 rfl rfl ?_
    refine w2 (1) vi30_52 (by decide) ?_
    refine w10 vi30_53 ?_
    refine x16 vi30_54 hk (by omega) (by omega) ?_
    refine x17 vi30_55 hk (by omega) (by omega) ?_
    refine w6 (-1) vi30_56 rfl (by decide) rfl ?_
    refine w5 vi30_59 ?_
    have e : z + ((d + 1 : Nat) : Int) + -1 = z + (d : Int) := by omega
    rw [e]
    have e2 : upd (fun m => if (z + ((d + 1 : Nat) : Int)).toNat < m ∧ m ≤ n then f (m - 1) else f m) (z + ((d + 1 : Nat) : Int)).toNat ((fun m => if (z + ((d + 1 : Nat) : Int)).toNat < m ∧ m ≤ n then f (m - 1) else f m) (z + ((d + 1 : Nat) : Int) - 1).toNat) = (fun m => if (z + (d : Int)).toNat < m ∧ m ≤ n then f (m - 1) else f m) := by
      funext m
      unfold upd
      dsimp only
      by_cases g : m = (z + ((d + 1 : Nat) : Int)).toNat
      · rw [if_pos g, if_neg (by omega), if_pos (by omega)]
        exact congrArg f (by omega)
      · rw [if_neg g]
        by_cases g2 : (z + (d : Int)).toNat < m ∧ m ≤ n
        · rw [if_pos g2, if_pos (by omega)]
        · rw [if_neg g2, if_neg (by omega)]
    refine cast (congrArg (fun s => vW (vw_X σ kk i t) L xs _ (s, jI n) QX) e2.symm) (ih (by omega))
theorem m_insert (hk : vw_ok kk i) (hz : vw_in z) (hy : vw_in y) : vW vw_rep L xs (30, 0, [some (.ref (vw_rr kk i)), some (.int (jI (z))), some (.int (jI (y))), none], []) σ (fun v σ' => v = [] ∧ σ' = (vw_sr σ.1 kk i (vl_ins (vw_cap kk) (σ.1 kk i) z y), σ.2)) := by
  have hz1 := hz.1
  have hz2 := hz.2
  have hy1 := hy.1
  have hy2 := hy.2
  refine vW_X hk (fun t f hf hlen => ?_)
  have hcap := vw_cap_le kk
  refine w1 vi30_0 rfl rfl ?_
  refine x14s vi30_1 hk ?_
  refine w7 vi30_4 (vwz_2 ⟨by omega, by omega⟩) (fun h4 => by exfalso; omega) (fun h4 => ?_)
  refine w1 vi30_7 rfl rfl ?_
  refine x14s vi30_8 hk ?_
  refine w1 vi30_11 rfl rfl ?_
  refine x14a vi30_12 hk ?_
  refine x26 vi30_15 hk ?_
  refine w8 vi30_16 (vwc_3 ⟨by omega, by omega⟩ ⟨by omega, by omega⟩) (fun h16 => ?_) (fun h16 => ?_)
  ·
    refine w43 vi30_31 vm30.2.2.2 ?_
    exact ⟨_, hf, rfl, hlen, rfl, by rw [vl_ins_no y (by omega)]⟩
  ·
    refine w0 vi30_19 rfl rfl ?_
    refine w7 vi30_20 (vwz_2 ⟨by omega, by omega⟩) (fun h20 => ?_) (fun h20 => ?_)
    ·
      refine w43 vi30_31 vm30.2.2.2 ?_
      exact ⟨_, hf, rfl, hlen, rfl, by rw [vl_ins_no y (by omega)]⟩
    ·
      refine w0 vi30_23 rfl rfl ?_
      refine w1 vi30_24 rfl rfl ?_
      refine x14s vi30_25 hk ?_
      refine w8 vi30_28 (vwc_5 ⟨by omega, by omega⟩ ⟨by omega, by omega⟩) (fun h28 => ?_) (fun h28 => ?_)
      ·
        refine w1 vi30_32 rfl rfl ?_
        refine x14s vi30_33 hk ?_
        refine w3 vi30_36 rfl rfl ?_
        have hh : (σ.1 kk i).length < vw_cap kk ∧ 0 ≤ z ∧ z ≤ (σ.1 kk i).length := by omega
        obtain ⟨d, hd⟩ : ∃ d : Nat, z + d = (σ.1 kk i).length := ⟨((σ.1 kk i).length - z).toNat, by omega⟩
        have q := m_ins_loop (σ := σ) (L := L) (xs := xs) (y := y) (z := z) (t := t) (f := f) (n := (σ.1 kk i).length) hk hy hh.2.1 hh.2.2 hh.1 (QX := fun v s' => ∃ l', vw_hd l' s'.1 ∧ s'.2 = jI l'.length ∧ l'.length ≤ vw_cap kk ∧ v = [] ∧ (vw_sr σ.1 kk i l', σ.2) = (vw_sr σ.1 kk i (vl_ins (vw_cap kk) (σ.1 kk i) z y), σ.2)) ⟨_, vl_ins_hd hf hy hh, by rw [vl_ins_len hh]; rfl, by rw [vl_ins_len hh]; omega, rfl, rfl⟩ d (by omega)
        rw [hd] at q
        have e : (fun m => if ((σ.1 kk i).length : Int).toNat < m ∧ m ≤ (σ.1 kk i).length then f (m - 1) else f m) = f := by
          funext m
          rw [if_neg (by omega)]
        rw [e] at q
        exact q
      ·
        refine w43 vi30_31 vm30.2.2.2 ?_
        exact ⟨_, hf, rfl, hlen, rfl, by rw [vl_ins_no y (by omega)]⟩
theorem c_insert (hc : vt_code k pc = (27, 30, b, c)) (hk : vw_ok kk i) (hz : vw_in z) (hy : vw_in y) (hs : Nat.ble (vj_cat sc) 8 = true) (t : vW vw_rep L xs (k, pc + 3, lc, sc) (vw_sr σ.1 kk i (vl_ins (vw_cap kk) (σ.1 kk i) z y), σ.2) Q) : vW vw_rep L xs (k, pc, lc, .int (jI (y)) :: .int (jI (z)) :: .ref (vw_rr kk i) :: sc) σ Q := by
  obtain ⟨-, -, b3, b4⟩ := vw_row hk
  refine w27 (n := 3) (vs := [.int (jI (y)), .int (jI (z)), .ref (vw_rr kk i)]) hc vm30.2.1 rfl (by rw [vm30.2.2.1]; rfl) hs (by simp only [List.length_cons]; omega) ⟨_, rfl⟩ (fun M hM => (hM.2.1 kk i hk).2.1) ⟨b3, by omega⟩ vm30.1 ?_
  rw [vm30.2.2.1]
  refine (m_insert hk hz hy).mono (fun v σ' h => ?_)
  obtain ⟨rfl, rfl⟩ := h
  exact t
theorem vl_rem_hd {l : List Int} {f : Nat → Int32} {z : Int} (h : vw_hd l f) (h0 : 0 ≤ z) (h1 : z < l.length) : vw_hd (vl_rem l z) (fun m => if z.toNat ≤ m ∧ m < l.length - 1 then f (m + 1) else f m) := by
  intro j x hx
  unfold vl_rem at hx
  rw [if_pos h0, List.getElem?_eraseIdx] at hx
  by_cases e : j < z.toNat
  · rw [if_pos e] at hx
    dsimp only
    rw [if_neg (by omega)]
    exact h j x hx
  · rw [if_neg e] at hx
    have := (List.getElem?_eq_some_iff.mp hx).1
    dsimp only
    rw [if_pos (by omega)]
    exact h _ x hx
theorem vl_rem_len {l : List Int} {z : Int} (h0 : 0 ≤ z) (h1 : z < l.length) : (vl_rem l z).length = l.length - 1 := by
  unfold vl_rem
  rw [if_pos h0, List.length_eraseIdx_of_lt (by omega)]
theorem vl_rem_no {l : List Int} {z : Int} (h : z < 0 ∨ l.length ≤ z) : vl_rem l z = l := by
  unfold vl_rem
  by_cases h0 : 0 ≤ z
  · rw [if_pos h0, List.eraseIdx_of_length_le (by omega)]
  · rw [if_neg h0]
theorem m_rem_loop (hk : vw_ok kk i) {t : Nat} {f : Nat → Int32} {n : Nat} {r : Int32} {QX : List Value → (Nat → Int32) × Int32 → Prop} (h0 : 0 ≤ z) (hn : n ≤ vw_cap kk)
    (hQ : QX [.int r] ((fun m => if z.toNat ≤ m ∧ m < n - 1 then f (m + 1) else f m), jI ((n : Int) - 1))) : ∀ (d : Nat) (u : Int), z ≤ u → u + d + 1 = n → vW (vw_X σ kk i t) L xs (31, 32, [some (.ref (vw_rr kk i)), some (.int (jI z)), some (.int r), some (.int (jI u))], []) ((fun m => if z.toNat ≤ m ∧ m < u.toNat then f (m + 1) else f m), jI n) QX := by
  have hcap := vw_cap_le kk
  intro d
  induction d with
  | zero =>
    intro u hu hd
    refine w0 vi31_32 rfl rfl ?_
    refine w2 (1) vi31_33 (by decide) ?_
    refine w9 vi31_34 ?_
    refine w1 vi31_35 rfl rfl ?_
    refine x14s vi31_36 hk ?_
    refine w8 vi31_39 (vwc_3 ⟨by omega, by omega⟩ ⟨by omega, by omega⟩) (fun h39 => ?_) (fun h39 => by exfalso; omega)
    refine w1 vi31_73 rfl rfl ?_
    refine w38 vi31_74 rfl ?_
    refine x14s vi31_75 hk ?_
    refine w2 (1) vi31_78 (by decide) ?_
    refine w10 vi31_79 ?_
    refine x15s vi31_80 hk ?_
    refine w0 vi31_83 rfl rfl ?_
    refine w42 vi31_84 vm31.2.2.2 ?_
    have e : u.toNat = n - 1 := by omega
    rw [e]
    exact hQ
  | succ d ih =>
    intro u hu hd
    refine w0 vi31_32 rfl rfl ?_
    refine w2 (1) vi31_33 (by decide) ?_
    refine w9 vi31_34 ?_
    refine w1 vi31_35 rfl rfl ?_
    refine x14s vi31_36 hk ?_
    refine w8 vi31_39 (vwc_3 ⟨by omega, by omega⟩ ⟨by omega, by omega⟩) (fun h39 => by exfalso; omega) (fun h39 => ?_)
    refine w0 vi31_42 rfl rfl ?_
    refine w2 (1) vi31_43 (by decide) ?_
    refine w9 vi31_44 ?_
    refine w1 vi31_45 rfl rfl ?_
    refine x14a vi31_46 hk ?_
    refine x26 vi31_49 hk ?_
    refine w8 vi31_50 (vwc_3 ⟨by omega, by omega⟩ ⟨by omega, by omega⟩) (fun h50 => by exfalso; omega) (fun h50 => ?_)
    refine w1 vi31_53 rfl rfl ?_
    refine x14a vi31_54 hk ?_
    refine w0 vi31_57 rfl rfl ?_
    refine w1 vi31_58 rfl rfl ?_
    refine x14a vi31_59 hk ?_
    refine w0 vi31_62 rfl rfl ?_
    refine w2 (1) vi31_63 (by decide) ?_
    refine w9 vi31_64 ?_
    refine x16 vi31_65 hk (by omega) (by omega) ?_
    refine x17 vi31_66 hk (by omega) (by omega) ?_
    refine w6 (1) vi31_67 rfl (by decide) rfl ?_
    refine w5 vi31_70 ?_
    have e2 : upd (fun m => if z.toNat ≤ m ∧ m < u.toNat then f (m + 1) else f m) u.toNat ((fun m => if z.toNat ≤ m ∧ m < u.toNat then f (m + 1) else f m) (u + 1).toNat) = (fun m => if z.toNat ≤ m ∧ m < (u + 1).toNat then f (m + 1) else f m) := by
      funext m
      unfold upd
      dsimp only
      by_cases g : m = u.toNat
      · rw [if_pos g, if_neg (by omega), if_pos (by omega)]
        exact congrArg f (by omega)
      · rw [if_neg g]
        by_cases g2 : z.toNat ≤ m ∧ m < u.toNat
        · rw [if_pos g2, if_pos (by omega)]
        · rw [if_neg g2, if_neg (by omega)]
    refine cast (congrArg (fun s => vW (vw_X σ kk i t) L xs _ (s, jI n) QX) e2.symm) (ih (u + 1) (by omega) (by omega))
theorem m_rem (hk : vw_ok kk i) (hz : vw_in z) : vW vw_rep L xs (31, 0, [some (.ref (vw_rr kk i)), some (.int (jI (z))), none, none], []) σ (fun v σ' => v = [.int (jI (vl_at (σ.1 kk i) z))] ∧ σ' = (vw_sr σ.1 kk i (vl_rem (σ.1 kk i) z), σ.2)) := by
  have hz1 := hz.1
  have hz2 := hz.2
  refine vW_X hk (fun t f hf hlen => ?_)
  have hcap := vw_cap_le kk
  refine w0 vi31_0 rfl rfl ?_
  refine w7 vi31_1 (vwz_2 ⟨by omega, by omega⟩) (fun h1 => ?_) (fun h1 => ?_)
  ·
    refine w2 (-1) vi31_21 (by decide) ?_
    refine w42 vi31_22 vm31.2.2.2 ?_
    exact ⟨_, hf, rfl, hlen, by rw [vl_at_no (by omega)], by rw [vl_rem_no (by omega)]⟩
  ·
    refine w0 vi31_4 rfl rfl ?_
    refine w1 vi31_5 rfl rfl ?_
    refine x14s vi31_6 hk ?_
    refine w8 vi31_9 (vwc_3 ⟨by omega, by omega⟩ ⟨by omega, by omega⟩) (fun h9 => ?_) (fun h9 => ?_)
    ·
      refine w2 (-1) vi31_21 (by decide) ?_
      refine w42 vi31_22 vm31.2.2.2 ?_
      exact ⟨_, hf, rfl, hlen, by rw [vl_at_no (by omega)], by rw [vl_rem_no (by omega)]⟩
    ·
      refine w0 vi31_12 rfl rfl ?_
      refine w1 vi31_13 rfl rfl ?_
      refine x14a vi31_14 hk ?_
      refine x26 vi31_17 hk ?_
      refine w8 vi31_18 (vwc_2 ⟨by omega, by omega⟩ ⟨by omega, by omega⟩) (fun h18 => ?_) (fun h18 => by exfalso; omega)
      refine w1 vi31_23 rfl rfl ?_
      refine x14a vi31_24 hk ?_
      refine w0 vi31_27 rfl rfl ?_
      refine x16 vi31_28 hk (by omega) (by omega) ?_
      refine w3 vi31_29 rfl rfl ?_
      refine w0 vi31_30 rfl rfl ?_
      refine w3 vi31_31 rfl rfl ?_
      obtain ⟨d, hd⟩ : ∃ d : Nat, z + d + 1 = (σ.1 kk i).length := ⟨((σ.1 kk i).length - z - 1).toNat, by omega⟩
      have q := m_rem_loop (σ := σ) (L := L) (xs := xs) (z := z) (t := t) (f := f) (n := (σ.1 kk i).length) (r := f z.toNat) hk (by omega) hlen (QX := fun v s' => ∃ l', vw_hd l' s'.1 ∧ s'.2 = jI l'.length ∧ l'.length ≤ vw_cap kk ∧ v = [.int (jI (vl_at (σ.1 kk i) z))] ∧ (vw_sr σ.1 kk i l', σ.2) = (vw_sr σ.1 kk i (vl_rem (σ.1 kk i) z), σ.2)) ⟨_, vl_rem_hd hf (by omega) (by omega), by rw [vl_rem_len (by omega) (by omega)]; exact congrArg jI (by omega), by rw [vl_rem_len (by omega) (by omega)]; omega, by rw [(hf _ _ (vl_at_lt (by omega) (by omega))).2], rfl⟩ d z (by omega) hd
      have e : (fun m => if z.toNat ≤ m ∧ m < z.toNat then f (m + 1) else f m) = f := by
        funext m
        rw [if_neg (by omega)]
      rw [e] at q
      exact q
theorem c_rem (hc : vt_code k pc = (27, 31, b, c)) (hk : vw_ok kk i) (hz : vw_in z) (hs : Nat.ble (vj_cat sc) 8 = true) (t : vW vw_rep L xs (k, pc + 3, lc, .int (jI (vl_at (σ.1 kk i) z)) :: sc) (vw_sr σ.1 kk i (vl_rem (σ.1 kk i) z), σ.2) Q) : vW vw_rep L xs (k, pc, lc, .int (jI (z)) :: .ref (vw_rr kk i) :: sc) σ Q := by
  obtain ⟨-, -, b3, b4⟩ := vw_row hk
  refine w27 (n := 2) (vs := [.int (jI (z)), .ref (vw_rr kk i)]) hc vm31.2.1 rfl (by rw [vm31.2.2.1]; rfl) hs (by simp only [List.length_cons]; omega) ⟨_, rfl⟩ (fun M hM => (hM.2.1 kk i hk).2.1) ⟨b3, by omega⟩ vm31.1 ?_
  rw [vm31.2.2.1]
  refine (m_rem hk hz).mono (fun v σ' h => ?_)
  obtain ⟨rfl, rfl⟩ := h
  exact t
theorem vl_fill_hd (n : Nat) (f : Nat → Int32) {y : Int} (hy : vw_in y) : vw_hd (List.replicate n y) (fun m => if m < n then jI y else f m) := by
  intro j x hx
  rw [List.getElem?_replicate] at hx
  by_cases e : j < n
  · rw [if_pos e] at hx
    cases hx
    exact ⟨hy, if_pos e⟩
  · rw [if_neg e] at hx; cases hx
theorem m_fill_loop (hk : vw_ok kk i) (hy : vw_in y) {t : Nat} {f : Nat → Int32} {n : Nat} {QX : List Value → (Nat → Int32) × Int32 → Prop} (hn : n ≤ vw_cap kk)
    (hQ : QX [] ((fun m => if m < n then jI y else f m), jI n)) : ∀ (d : Nat) (u : Int), 0 ≤ u → u + d = n → vW (vw_X σ kk i t) L xs (33, 19, [some (.ref (vw_rr kk i)), some (.int (jI z)), some (.int (jI y)), some (.int (jI u))], []) ((fun m => if m < u.toNat then jI y else f m), jI n) QX := by
  have hcap := vw_cap_le kk
  intro d
  induction d with
  | zero =>
    intro u hu hd
    refine w0 vi33_19 rfl rfl ?_
    refine w1 vi33_20 rfl rfl ?_
    refine x14s vi33_21 hk ?_
    refine w8 vi33_24 (vwc_3 ⟨by omega, by omega⟩ ⟨by omega, by omega⟩) (fun h24 => ?_) (fun h24 => by exfalso; omega)
    refine w43 vi33_49 vm33.2.2.2 ?_
    have e : u.toNat = n := by omega
    rw [e]
    exact hQ
  | succ d ih =>
    intro u hu hd
    refine w0 vi33_19 rfl rfl ?_
    refine w1 vi33_20 rfl rfl ?_
    refine x14s vi33_21 hk ?_
    refine w8 vi33_24 (vwc_3 ⟨by omega, by omega⟩ ⟨by omega, by omega⟩) (fun h24 => by exfalso; omega) (fun h24 => ?_)
    refine w0 vi33_27 rfl rfl ?_
    refine w1 vi33_28 rfl rfl ?_
    refine x14a vi33_29 hk ?_
    refine x26 vi33_32 hk ?_
    refine w8 vi33_33 (vwc_3 ⟨by omega, by omega⟩ ⟨by omega, by omega⟩) (fun h33 => by exfalso; omega) (fun h33 => ?_)
    refine w1 vi33_36 rfl rfl ?_
    refine x14a vi33_37 hk ?_
    refine w0 vi33_40 rfl rfl ?_
    refine w0 vi33_41 rfl rfl ?_
    refine x17 vi33_42 hk (by omega) (by omega) ?_
    refine w6 (1) vi33_43 rfl (by decide) rfl ?_
    refine w5 vi33_46 ?_
    have e2 : upd (fun m => if m < u.toNat then jI y else f m) u.toNat (jI y) = (fun m => if m < (u + 1).toNat then jI y else f m) := by
      funext m
      unfold upd
      dsimp only
      by_cases g : m = u.toNat
      · rw [if_pos g, if_pos (by omega)]
      · rw [if_neg g]
        by_cases g2 : m < u.toNat
        · rw [if_pos g2, if_pos (by omega)]
        · rw [if_neg g2, if_neg (by omega)]
    refine cast (congrArg (fun s => vW (vw_X σ kk i t) L xs _ (s, jI n) QX) e2.symm) (ih (u + 1) (by omega) (by omega))
theorem m_fill (hk : vw_ok kk i) (hz : vw_in z) (hy : vw_in y) : vW vw_rep L xs (33, 0, [some (.ref (vw_rr kk i)), some (.int (jI (z))), some (.int (jI (y))), none], []) σ (fun v σ' => v = [] ∧ σ' = (vw_sr σ.1 kk i (vl_fill (vw_cap kk) z y), σ.2)) := by
  have hz1 := hz.1
  have hz2 := hz.2
  have hy1 := hy.1
  have hy2 := hy.2
  refine vW_X hk (fun t f hf hlen => ?_)
  have hcap := vw_cap_le kk
  refine w1 vi33_0 rfl rfl ?_
  refine w2 (0) vi33_1 (by decide) ?_
  refine w0 vi33_2 rfl rfl ?_
  refine w1 vi33_3 rfl rfl ?_
  refine x14a vi33_4 hk ?_
  refine x26 vi33_7 hk ?_
  refine w32 vi33_8 ⟨by omega, by omega⟩ ⟨by omega, by omega⟩ rfl ?_
  refine w31 vi33_11 ⟨by omega, by omega⟩ ⟨by omega, by omega⟩ rfl ?_
  refine x15s vi33_14 hk ?_
  refine w2 (0) vi33_17 (by decide) ?_
  refine w3 vi33_18 rfl rfl ?_
  have hm : (((max 0 (min z (vw_cap kk : Nat))).toNat : Nat) : Int) = max 0 (min z (vw_cap kk : Nat)) := by omega
  have q := m_fill_loop (σ := σ) (L := L) (xs := xs) (z := z) (y := y) (t := t) (f := f) (n := (max 0 (min z (vw_cap kk : Nat))).toNat) hk hy (by omega) (QX := fun v s' => ∃ l', vw_hd l' s'.1 ∧ s'.2 = jI l'.length ∧ l'.length ≤ vw_cap kk ∧ v = [] ∧ (vw_sr σ.1 kk i l', σ.2) = (vw_sr σ.1 kk i (vl_fill (vw_cap kk) z y), σ.2)) ⟨_, vl_fill_hd _ f hy, by rw [List.length_replicate], by rw [List.length_replicate]; omega, rfl, rfl⟩ (max 0 (min z (vw_cap kk : Nat))).toNat 0 (by omega) (by omega)
  have e : (fun m => if m < (0 : Int).toNat then jI y else f m) = f := by
    funext m
    rw [if_neg (by omega)]
  rw [e, hm] at q
  exact q
theorem c_fill (hc : vt_code k pc = (27, 33, b, c)) (hk : vw_ok kk i) (hz : vw_in z) (hy : vw_in y) (hs : Nat.ble (vj_cat sc) 8 = true) (t : vW vw_rep L xs (k, pc + 3, lc, sc) (vw_sr σ.1 kk i (vl_fill (vw_cap kk) z y), σ.2) Q) : vW vw_rep L xs (k, pc, lc, .int (jI (y)) :: .int (jI (z)) :: .ref (vw_rr kk i) :: sc) σ Q := by
  obtain ⟨-, -, b3, b4⟩ := vw_row hk
  refine w27 (n := 3) (vs := [.int (jI (y)), .int (jI (z)), .ref (vw_rr kk i)]) hc vm33.2.1 rfl (by rw [vm33.2.2.1]; rfl) hs (by simp only [List.length_cons]; omega) ⟨_, rfl⟩ (fun M hM => (hM.2.1 kk i hk).2.1) ⟨b3, by omega⟩ vm33.1 ?_
  rw [vm33.2.2.1]
  refine (m_fill hk hz hy).mono (fun v σ' h => ?_)
  obtain ⟨rfl, rfl⟩ := h
  exact t
theorem vl_add_ins (c : Nat) (l : List Int) (y : Int) : vl_ins c l (l.length : Int) y = vl_add c l y := by
  unfold vl_ins vl_add
  by_cases h : l.length < c
  · rw [if_pos ⟨h, by omega, Int.le_refl _⟩, if_pos h, Int.toNat_natCast, List.take_length, List.drop_length]
  · rw [if_neg (fun q => h q.1), if_neg h]
theorem m_add (hk : vw_ok kk i) (hy : vw_in y) : vW vw_rep L xs (29, 0, [some (.ref (vw_rr kk i)), some (.int (jI (y)))], []) σ (fun v σ' => v = [] ∧ σ' = (vw_sr σ.1 kk i (vl_add (vw_cap kk) (σ.1 kk i) y), σ.2)) := by
  have hy1 := hy.1
  have hy2 := hy.2
  have hcap := vw_cap_le kk
  refine vW_len hk (fun hlen => ?_)
  refine w1 vi29_0 rfl rfl ?_
  refine w1 vi29_1 rfl rfl ?_
  refine w14s vi29_2 hk ?_
  refine w0 vi29_5 rfl rfl ?_
  refine c_insert vi29_6 hk ⟨by omega, by omega⟩ hy rfl ?_
  refine w43 vi29_9 vm29.2.2.2 ?_
  exact ⟨rfl, by rw [vl_add_ins]⟩
theorem c_add (hc : vt_code k pc = (27, 29, b, c)) (hk : vw_ok kk i) (hy : vw_in y) (hs : Nat.ble (vj_cat sc) 8 = true) (t : vW vw_rep L xs (k, pc + 3, lc, sc) (vw_sr σ.1 kk i (vl_add (vw_cap kk) (σ.1 kk i) y), σ.2) Q) : vW vw_rep L xs (k, pc, lc, .int (jI (y)) :: .ref (vw_rr kk i) :: sc) σ Q := by
  obtain ⟨-, -, b3, b4⟩ := vw_row hk
  refine w27 (n := 2) (vs := [.int (jI (y)), .ref (vw_rr kk i)]) hc vm29.2.1 rfl (by rw [vm29.2.2.1]; rfl) hs (by simp only [List.length_cons]; omega) ⟨_, rfl⟩ (fun M hM => (hM.2.1 kk i hk).2.1) ⟨b3, by omega⟩ vm29.1 ?_
  rw [vm29.2.2.1]
  refine (m_add hk hy).mono (fun v σ' h => ?_)
  obtain ⟨rfl, rfl⟩ := h
  exact t
theorem vl_pf_step {l : List Int} {y : Int} {j : Nat} (h : j < l.length) : vl_pf (l.drop j) y j = if vl_at l (j : Int) = y then (j : Int) else vl_pf (l.drop (j + 1)) y (j + 1) := by
  have e : vl_at l (j : Int) = l[j] := by
    have := vl_at_lt (l := l) (z := (j : Int)) (by omega) (by omega)
    rw [Int.toNat_natCast, List.getElem?_eq_getElem h] at this
    exact (Option.some.inj this).symm
  rw [List.drop_eq_getElem_cons h, e]
  rfl
theorem m_placeOf_loop (hk : vw_ok kk i) (hy : vw_in y) : ∀ (d j : Nat), j + d = (σ.1 kk i).length → vW vw_rep L xs (36, 2, [some (.ref (vw_rr kk i)), some (.int (jI y)), some (.int (jI (j : Int)))], []) σ (fun v σ' => v = [.int (jI (vl_pf ((σ.1 kk i).drop j) y j))] ∧ σ' = σ) := by
  have hcap := vw_cap_le kk
  intro d
  induction d with
  | zero =>
    intro j hj
    refine vW_len hk (fun hlen => ?_)
    refine w0 vi36_2 rfl rfl ?_
    refine w1 vi36_3 rfl rfl ?_
    refine w14s vi36_4 hk ?_
    refine w8 vi36_7 (vwc_3 ⟨by omega, by omega⟩ ⟨by omega, by omega⟩) (fun h7 => ?_) (fun h7 => by exfalso; omega)
    refine w2 (-1) vi36_37 (by decide) ?_
    refine w42 vi36_38 vm36.2.2.2 ?_
    exact ⟨by rw [List.drop_of_length_le (by omega)]; rfl, rfl⟩
  | succ d ih =>
    intro j hj
    refine vW_len hk (fun hlen => ?_)
    rw [vl_pf_step (by omega)]
    refine w0 vi36_2 rfl rfl ?_
    refine w1 vi36_3 rfl rfl ?_
    refine w14s vi36_4 hk ?_
    refine w8 vi36_7 (vwc_3 ⟨by omega, by omega⟩ ⟨by omega, by omega⟩) (fun h7 => by exfalso; omega) (fun h7 => ?_)
    refine w0 vi36_10 rfl rfl ?_
    refine w1 vi36_11 rfl rfl ?_
    refine w14a vi36_12 hk ?_
    refine w26r vi36_15 hk ?_
    refine w8 vi36_16 (vwc_3 ⟨by omega, by omega⟩ ⟨by omega, by omega⟩) (fun h16 => by exfalso; omega) (fun h16 => ?_)
    refine w1 vi36_19 rfl rfl ?_
    refine w14a vi36_20 hk ?_
    refine w0 vi36_23 rfl rfl ?_
    refine w16r vi36_24 hk (by omega) (by omega) (fun hv => ?_)
    refine w0 vi36_25 rfl rfl ?_
    refine w8 vi36_26 (vwc_1 hv hy) (fun h26 => ?_) (fun h26 => ?_)
    ·
      refine w6 (1) vi36_31 rfl (by decide) rfl ?_
      refine w5 vi36_34 ?_
      rw [if_neg h26]
      exact ih (j + 1) (by omega)
    ·
      refine w0 vi36_29 rfl rfl ?_
      refine w42 vi36_30 vm36.2.2.2 ?_
      exact ⟨by rw [if_pos (Decidable.not_not.mp h26)], rfl⟩
theorem m_placeOf (hk : vw_ok kk i) (hy : vw_in y) : vW vw_rep L xs (36, 0, [some (.ref (vw_rr kk i)), some (.int (jI (y))), none], []) σ (fun v σ' => v = [.int (jI (vl_pl (σ.1 kk i) y))] ∧ σ' = σ) := by
  have hy1 := hy.1
  have hy2 := hy.2
  refine w2 (0) vi36_0 (by decide) ?_
  refine w3 vi36_1 rfl rfl ?_
  exact m_placeOf_loop hk hy _ 0 (Nat.zero_add _)
theorem c_placeOf (hc : vt_code k pc = (27, 36, b, c)) (hk : vw_ok kk i) (hy : vw_in y) (hs : Nat.ble (vj_cat sc) 8 = true) (t : vW vw_rep L xs (k, pc + 3, lc, .int (jI (vl_pl (σ.1 kk i) y)) :: sc) σ Q) : vW vw_rep L xs (k, pc, lc, .int (jI (y)) :: .ref (vw_rr kk i) :: sc) σ Q := by
  obtain ⟨-, -, b3, b4⟩ := vw_row hk
  refine w27 (n := 2) (vs := [.int (jI (y)), .ref (vw_rr kk i)]) hc vm36.2.1 rfl (by rw [vm36.2.2.1]; rfl) hs (by simp only [List.length_cons]; omega) ⟨_, rfl⟩ (fun M hM => (hM.2.1 kk i hk).2.1) ⟨b3, by omega⟩ vm36.1 ?_
  rw [vm36.2.2.1]
  refine (m_placeOf hk hy).mono (fun v σ' h => ?_)
  obtain ⟨rfl, rfl⟩ := h
  exact t
end
section
variable {L : Nat} {xs : Nat → Int32} {σ : vw_S} {Q : List Value → vw_S → Prop} {k pc b c kk i k2 i2 : Nat} {lc : List (Option Value)} {sc : List Value} {z y : Int}
theorem vl_take_add {c : Nat} {l : List Int} {j : Nat} (h : j < l.length) (hc : l.length ≤ c) : vl_add c (l.take j) (vl_at l (j : Int)) = l.take (j + 1) := by
  have e : l[j]? = some (vl_at l (j : Int)) := by
    have := vl_at_lt (l := l) (z := (j : Int)) (by omega) (by omega)
    rw [Int.toNat_natCast] at this
    exact this
  unfold vl_add
  rw [if_pos (by rw [List.length_take]; omega), List.take_add_one, e]
  rfl
def vl_new (c : Nat) (l ys : List Int) : List Int := ys.foldl (fun l x => if vl_pl l x = -1 then vl_add c l x else l) l
theorem vl_new_step {c : Nat} {l l2 : List Int} {j : Nat} (h : j < l2.length) : vl_new c l (l2.take (j + 1)) = if vl_pl (vl_new c l (l2.take j)) (vl_at l2 (j : Int)) = -1 then vl_add c (vl_new c l (l2.take j)) (vl_at l2 (j : Int)) else vl_new c l (l2.take j) := by
  have e : l2[j]? = some (vl_at l2 (j : Int)) := by
    have := vl_at_lt (l := l2) (z := (j : Int)) (by omega) (by omega)
    rw [Int.toNat_natCast] at this
    exact this
  unfold vl_new
  rw [List.take_add_one, e, List.foldl_append]
  rfl
theorem vl_pl_in (l : List Int) (y : Int) (h : l.length ≤ 2160) : vw_in (vl_pl l y) := by
  have : ∀ (l : List Int) (j : Nat), (vl_pf l y j = -1 ∨ ((j : Int) ≤ vl_pf l y j ∧ vl_pf l y j < j + l.length)) := by
    intro l
    induction l with
    | nil => intro j; exact Or.inl rfl
    | cons x l ih =>
      intro j
      unfold vl_pf
      by_cases e : x = y
      · rw [if_pos e]; right; rw [List.length_cons]; omega
      · rw [if_neg e]
        rcases ih (j + 1) with q | q
        · exact Or.inl q
        · right; rw [List.length_cons]; omega
  rcases this l 0 with q | q
  · unfold vl_pl; rw [q]; exact ⟨by omega, by omega⟩
  · unfold vl_pl; exact ⟨by omega, by omega⟩
theorem m_copy_loop (hk : vw_ok kk i) (hk2 : vw_ok k2 i2) (hne : ¬ (k2 = kk ∧ i2 = i)) (hlen : (σ.1 k2 i2).length ≤ vw_cap kk) (hQ : Q [] (vw_sr σ.1 kk i (σ.1 k2 i2), σ.2)) : ∀ j, j ≤ (σ.1 k2 i2).length → vW vw_rep L xs (34, 6, [some (.ref (vw_rr kk i)), some (.ref (vw_rr k2 i2)), some (.int (jI (j : Int)))], []) (vw_sr σ.1 kk i ((σ.1 k2 i2).take j), σ.2) Q := by
  have hcap := vw_cap_le kk
  refine vW.loop (fun j => (34, 6, [some (.ref (vw_rr kk i)), some (.ref (vw_rr k2 i2)), some (.int (jI (j : Int)))], [])) (fun j => (vw_sr σ.1 kk i ((σ.1 k2 i2).take j), σ.2)) (σ.1 k2 i2).length (fun j hj ih => ?_) ?_
  · try dsimp only at ih ⊢
    refine w0 vi34_6 rfl rfl ?_
    refine w1 vi34_7 rfl rfl ?_
    refine c_size vi34_8 hk2 rfl ?_
    try dsimp only
    rw [vw_sr_ne _ _ hne]
    refine w8 vi34_11 (vwc_3 ⟨by omega, by omega⟩ ⟨by omega, by omega⟩) (fun h11 => by exfalso; omega) (fun h11 => ?_)
    refine w1 vi34_14 rfl rfl ?_
    refine w1 vi34_15 rfl rfl ?_
    refine w0 vi34_16 rfl rfl ?_
    refine vW_val (j := j) hk2 (show (vw_sr σ.1 kk i ((σ.1 k2 i2).take j) k2 i2)[j]? = some (vl_at (σ.1 k2 i2) j) by rw [vw_sr_ne _ _ hne]; exact vl_at_lt (z := (j : Int)) (by omega) (by omega)) (fun hv => ?_)
    refine c_at vi34_17 hk2 ⟨by omega, by omega⟩ rfl ?_
    try dsimp only
    rw [vw_sr_ne _ _ hne]
    refine c_add vi34_20 hk hv rfl ?_
    try dsimp only
    rw [vw_sr_sr, vw_sr_eq, vl_take_add hj hlen]
    refine w6 (1) vi34_23 rfl (by decide) rfl ?_
    refine w5 vi34_26 ?_
    exact ih
  · try dsimp only
    rw [List.take_length]
    refine w0 vi34_6 rfl rfl ?_
    refine w1 vi34_7 rfl rfl ?_
    refine c_size vi34_8 hk2 rfl ?_
    try dsimp only
    rw [vw_sr_ne _ _ hne]
    refine w8 vi34_11 (vwc_3 ⟨by omega, by omega⟩ ⟨by omega, by omega⟩) (fun h11 => ?_) (fun h11 => by exfalso; omega)
    refine w43 vi34_29 vm34.2.2.2 ?_
    exact hQ
theorem m_copyFrom (hk : vw_ok kk i) (hk2 : vw_ok k2 i2) (hne : ¬ (k2 = kk ∧ i2 = i)) (hlen : (σ.1 k2 i2).length ≤ vw_cap kk) : vW vw_rep L xs (34, 0, [some (.ref (vw_rr kk i)), some (.ref (vw_rr k2 i2)), none], []) σ (fun v σ' => v = [] ∧ σ' = (vw_sr σ.1 kk i (σ.1 k2 i2), σ.2)) := by
  refine w1 vi34_0 rfl rfl ?_
  refine c_clear vi34_1 hk rfl ?_
  refine w2 (0) vi34_4 (by decide) ?_
  refine w3 vi34_5 rfl rfl ?_
  exact m_copy_loop hk hk2 hne hlen ⟨rfl, rfl⟩ 0 (Nat.zero_le _)
theorem c_copyFrom (hc : vt_code k pc = (27, 34, b, c)) (hk : vw_ok kk i) (hk2 : vw_ok k2 i2) (hne : ¬ (k2 = kk ∧ i2 = i)) (hlen : (σ.1 k2 i2).length ≤ vw_cap kk) (hs : Nat.ble (vj_cat sc) 8 = true) (t : vW vw_rep L xs (k, pc + 3, lc, sc) (vw_sr σ.1 kk i (σ.1 k2 i2), σ.2) Q) : vW vw_rep L xs (k, pc, lc, .ref (vw_rr k2 i2) :: .ref (vw_rr kk i) :: sc) σ Q := by
  obtain ⟨-, -, b3, b4⟩ := vw_row hk
  refine w27 (n := 2) (vs := [.ref (vw_rr k2 i2), .ref (vw_rr kk i)]) hc vm34.2.1 rfl (by rw [vm34.2.2.1]; rfl) hs (by simp only [List.length_cons]; omega) ⟨_, rfl⟩ (fun M hM => (hM.2.1 kk i hk).2.1) ⟨b3, by omega⟩ vm34.1 ?_
  rw [vm34.2.2.1]
  refine (m_copyFrom hk hk2 hne hlen).mono (fun v σ' h => ?_)
  obtain ⟨rfl, rfl⟩ := h
  exact t
theorem m_new_loop (hk : vw_ok kk i) (hk2 : vw_ok k2 i2) (hne : ¬ (k2 = kk ∧ i2 = i)) (hQ : Q [] (vw_sr σ.1 kk i (vl_new (vw_cap kk) (σ.1 kk i) (σ.1 k2 i2)), σ.2)) : ∀ j, j ≤ (σ.1 k2 i2).length → vW vw_rep L xs (35, 2, [some (.ref (vw_rr kk i)), some (.ref (vw_rr k2 i2)), some (.int (jI (j : Int)))], []) (vw_sr σ.1 kk i (vl_new (vw_cap kk) (σ.1 kk i) ((σ.1 k2 i2).take j)), σ.2) Q := by
  have hcap := vw_cap_le kk
  have hcap2 := vw_cap_le k2
  refine vW.loop (fun j => (35, 2, [some (.ref (vw_rr kk i)), some (.ref (vw_rr k2 i2)), some (.int (jI (j : Int)))], [])) (fun j => (vw_sr σ.1 kk i (vl_new (vw_cap kk) (σ.1 kk i) ((σ.1 k2 i2).take j)), σ.2)) (σ.1 k2 i2).length (fun j hj ih => ?_) ?_
  · try dsimp only at ih ⊢
    refine vW_len hk (fun hl1 => ?_)
    refine vW_len hk2 (fun hl2 => ?_)
    try dsimp only at hl1 hl2
    rw [vw_sr_eq] at hl1
    rw [vw_sr_ne _ _ hne] at hl2
    refine w0 vi35_2 rfl rfl ?_
    refine w1 vi35_3 rfl rfl ?_
    refine c_size vi35_4 hk2 rfl ?_
    try dsimp only
    rw [vw_sr_ne _ _ hne]
    refine w8 vi35_7 (vwc_3 ⟨by omega, by omega⟩ ⟨by omega, by omega⟩) (fun h7 => by exfalso; omega) (fun h7 => ?_)
    refine w1 vi35_10 rfl rfl ?_
    refine w1 vi35_11 rfl rfl ?_
    refine w0 vi35_12 rfl rfl ?_
    refine vW_val (j := j) hk2 (show (vw_sr σ.1 kk i (vl_new (vw_cap kk) (σ.1 kk i) ((σ.1 k2 i2).take j)) k2 i2)[j]? = some (vl_at (σ.1 k2 i2) j) by rw [vw_sr_ne _ _ hne]; exact vl_at_lt (z := (j : Int)) (by omega) (by omega)) (fun hv => ?_)
    refine c_at vi35_13 hk2 ⟨by omega, by omega⟩ rfl ?_
    try dsimp only
    rw [vw_sr_ne _ _ hne]
    refine c_placeOf vi35_16 hk hv rfl ?_
    try dsimp only
    rw [vw_sr_eq]
    refine w2 (-1) vi35_19 (by decide) ?_
    refine w8 vi35_20 (vwc_1 (vl_pl_in _ _ (by omega)) ⟨by omega, by omega⟩) (fun h20 => ?_) (fun h20 => ?_)
    ·
      refine w6 (1) vi35_32 rfl (by decide) rfl ?_
      refine w5 vi35_35 ?_
      rw [vl_new_step hj] at ih
      first
        | (rw [if_pos (Decidable.not_not.mp h20)] at ih; exact ih)
        | (rw [if_neg h20] at ih; exact ih)
    ·
      refine w1 vi35_23 rfl rfl ?_
      refine w1 vi35_24 rfl rfl ?_
      refine w0 vi35_25 rfl rfl ?_
      refine c_at vi35_26 hk2 ⟨by omega, by omega⟩ rfl ?_
      try dsimp only
      rw [vw_sr_ne _ _ hne]
      refine c_add vi35_29 hk hv rfl ?_
      try dsimp only
      rw [vw_sr_sr, vw_sr_eq]
      refine w6 (1) vi35_32 rfl (by decide) rfl ?_
      refine w5 vi35_35 ?_
      rw [vl_new_step hj] at ih
      first
        | (rw [if_pos (Decidable.not_not.mp h20)] at ih; exact ih)
        | (rw [if_neg h20] at ih; exact ih)
  · try dsimp only
    refine vW_len hk2 (fun hl2 => ?_)
    try dsimp only at hl2
    rw [vw_sr_ne _ _ hne] at hl2
    rw [List.take_length]
    refine w0 vi35_2 rfl rfl ?_
    refine w1 vi35_3 rfl rfl ?_
    refine c_size vi35_4 hk2 rfl ?_
    try dsimp only
    rw [vw_sr_ne _ _ hne]
    refine w8 vi35_7 (vwc_3 ⟨by omega, by omega⟩ ⟨by omega, by omega⟩) (fun h7 => ?_) (fun h7 => by exfalso; omega)
    refine w43 vi35_38 vm35.2.2.2 ?_
    exact hQ
theorem m_addNew (hk : vw_ok kk i) (hk2 : vw_ok k2 i2) (hne : ¬ (k2 = kk ∧ i2 = i)) : vW vw_rep L xs (35, 0, [some (.ref (vw_rr kk i)), some (.ref (vw_rr k2 i2)), none], []) σ (fun v σ' => v = [] ∧ σ' = (vw_sr σ.1 kk i (vl_new (vw_cap kk) (σ.1 kk i) (σ.1 k2 i2)), σ.2)) := by
  refine w2 (0) vi35_0 (by decide) ?_
  refine w3 vi35_1 rfl rfl ?_
  have q := m_new_loop (σ := σ) (L := L) (xs := xs) (Q := fun v σ' => v = [] ∧ σ' = (vw_sr σ.1 kk i (vl_new (vw_cap kk) (σ.1 kk i) (σ.1 k2 i2)), σ.2)) hk hk2 hne ⟨rfl, rfl⟩ 0 (Nat.zero_le _)
  have e : vw_sr σ.1 kk i (vl_new (vw_cap kk) (σ.1 kk i) ((σ.1 k2 i2).take 0)) = σ.1 := vw_sr_self _ _ _
  rw [e] at q
  exact q
theorem c_addNew (hc : vt_code k pc = (27, 35, b, c)) (hk : vw_ok kk i) (hk2 : vw_ok k2 i2) (hne : ¬ (k2 = kk ∧ i2 = i)) (hs : Nat.ble (vj_cat sc) 8 = true) (t : vW vw_rep L xs (k, pc + 3, lc, sc) (vw_sr σ.1 kk i (vl_new (vw_cap kk) (σ.1 kk i) (σ.1 k2 i2)), σ.2) Q) : vW vw_rep L xs (k, pc, lc, .ref (vw_rr k2 i2) :: .ref (vw_rr kk i) :: sc) σ Q := by
  obtain ⟨-, -, b3, b4⟩ := vw_row hk
  refine w27 (n := 2) (vs := [.ref (vw_rr k2 i2), .ref (vw_rr kk i)]) hc vm35.2.1 rfl (by rw [vm35.2.2.1]; rfl) hs (by simp only [List.length_cons]; omega) ⟨_, rfl⟩ (fun M hM => (hM.2.1 kk i hk).2.1) ⟨b3, by omega⟩ vm35.1 ?_
  rw [vm35.2.2.1]
  refine (m_addNew hk hk2 hne).mono (fun v σ' h => ?_)
  obtain ⟨rfl, rfl⟩ := h
  exact t
end
end VW5
