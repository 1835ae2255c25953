/-! ===== the share that is asked; the law's own helpers ===== -/
section VW24
def vy_own (V : Nat → Nat → Int) (r13 tx : List Int) (a : Int) (n : Nat) : Nat := vf (fun j s => if V 5 (ve_ix (vl_at r13 (vl_at tx (j : Int)))) = a then s + 1 else s) n 0
theorem vy_own_le (V : Nat → Nat → Int) (r13 tx : List Int) (a : Int) (n : Nat) : vy_own V r13 tx a n ≤ n := by
  induction n with
  | zero => exact Nat.le_refl _
  | succ n ih =>
    have e : vy_own V r13 tx a (n + 1) = if V 5 (ve_ix (vl_at r13 (vl_at tx (n : Int)))) = a then vy_own V r13 tx a n + 1 else vy_own V r13 tx a n := rfl
    rw [e]
    split <;> omega
def vy_sh (own n : Nat) : UInt64 := if n = 0 then FP.dconst0 else FP.ddiv (FP.i2d (jI (own : Int))) (FP.i2d (jI (n : Int)))
theorem vy_sh_b {own n : Nat} (h : own ≤ n) (n0 : 1 ≤ n) (n1 : n ≤ 720) : vz_d (vy_sh own n) (own * 2 ^ 14 / n) (own * 2 ^ 14 / n + 1) ∧ vj_n64 (FP.ddiv (FP.i2d (jI (own : Int))) (FP.i2d (jI (n : Int)))) = true := by
  unfold vy_sh
  rw [if_neg (by omega)]
  refine vz_div h n0 n1 (Nat.div_mul_le_self _ _) ?_
  have h1 := Nat.lt_mul_div_succ (own * 2 ^ 14) (show 0 < n by omega)
  rw [Nat.mul_comm n] at h1
  exact Nat.le_of_lt h1
theorem vy_mask (x : Int32) : 0 ≤ (x &&& jI 2147483647).toInt ∧ (x &&& jI 2147483647).toInt ≤ 2147483647 := by
  have h : (x &&& jI 2147483647).toBitVec.toNat ≤ 2147483647 := by
    rw [Int32.toBitVec_and, BitVec.toNat_and]
    exact Nat.le_trans Nat.and_le_right (by decide)
  have e : (x &&& jI 2147483647).toInt = ((x &&& jI 2147483647).toBitVec.toNat : Int) := by
    show (x &&& jI 2147483647).toBitVec.toInt = _
    rw [BitVec.toInt_eq_toNat_cond, if_pos (by omega)]
  rw [e]
  omega
variable {L : Nat} {xs : Nat → Int32} {σ σ2 : vw_S} {Q : List Value → vw_S → Prop} {k pc a b c kk i : Nat} {lc : List (Option Value)} {sc : List Value} {fr : vj_F} {l l2 r12 r13 sh cs tx tx2 d2 he od dec : List Int} {V : Nat → Nat → Int} {z y : Int}
theorem r_and {x y : Int32} (hc : vt_code k pc = (12, a, b, c)) (t : vW vw_rep L xs (k, pc + 1, lc, .int (jI (x &&& y).toInt) :: sc) σ Q) : vW vw_rep L xs (k, pc, lc, .int y :: .int x :: sc) σ Q := w12 (x &&& y).toInt hc (jI_of _) t
theorem r_shr {x y : Int32} (hc : vt_code k pc = (66, a, b, c)) (t : ∀ z : Int, -2147483648 ≤ z → z < 2147483648 → vW vw_rep L xs (k, pc + 1, lc, .int (jI z) :: sc) σ Q) : vW vw_rep L xs (k, pc, lc, .int y :: .int x :: sc) σ Q := w66 (x >>> (y &&& 31)).toInt hc (jI_of _) (t _ (vw_in_of _).1 (vw_in_of _).2)
theorem m_sh_loop {w o : Nat} (ho : o < 6) {σ1 : vw_S} (s1 : vw_same σ σ1) (e1 : ∀ k, 15 ≤ k → k ≤ 21 → σ1.1 k 0 = vx σ w k) (hl : (vx σ w 16).length ≤ 720) (hQ : vW vw_rep L xs (84, 68, [some (.ref 8), some (.int (jI ((w : Int)))), some (.int (jI ((o : Int)))), some (.ref (vw_cr w)), some (.ref (vw_rr 16 0)), some (.int (jI (((vy_own σ.2 (σ.1 13 0) (vx σ w 16) (o : Int) (vx σ w 16).length : Nat) : Int)))), some (.int (jI (((vx σ w 16).length : Int))))], []) σ1 Q) : ∀ (e j : Nat), j + e = (vx σ w 16).length → vW vw_rep L xs (84, 28, [some (.ref 8), some (.int (jI ((w : Int)))), some (.int (jI ((o : Int)))), some (.ref (vw_cr w)), some (.ref (vw_rr 16 0)), some (.int (jI (((vy_own σ.2 (σ.1 13 0) (vx σ w 16) (o : Int) j : Nat) : Int)))), some (.int (jI ((j : Int))))], []) σ1 Q := by
  intro e
  induction e with
  | zero =>
    intro j hj
    have hle := vy_own_le σ.2 (σ.1 13 0) (vx σ w 16) (o : Int) j
    refine w0 vi84_28 rfl rfl ?_
    refine w1 vi84_30 rfl rfl ?_
    refine r_size (l := (vx σ w 16)) vi84_32 ⟨by decide, (show 0 < 2 by omega)⟩ (e1 16 (by decide) (by decide)) rfl ?_
    refine w8 vi84_35 (vwc_3 ⟨by omega, by omega⟩ ⟨by omega, by omega⟩) (fun h35 => ?_) (fun h35 => by exfalso; omega)
    rw [show j = (vx σ w 16).length by omega]
    exact hQ
  | succ e ih =>
    intro j hj
    have hle := vy_own_le σ.2 (σ.1 13 0) (vx σ w 16) (o : Int) j
    refine w0 vi84_28 rfl rfl ?_
    refine w1 vi84_30 rfl rfl ?_
    refine r_size (l := (vx σ w 16)) vi84_32 ⟨by decide, (show 0 < 2 by omega)⟩ (e1 16 (by decide) (by decide)) rfl ?_
    refine w8 vi84_35 (vwc_3 ⟨by omega, by omega⟩ ⟨by omega, by omega⟩) (fun h35 => by exfalso; omega) (fun h35 => ?_)
    refine w1 vi84_38 rfl rfl ?_
    refine w14m (v := .ref 9) vi84_39  rfl ?_
    refine w1 vi84_42 rfl rfl ?_
    refine w0 vi84_44 rfl rfl ?_
    refine r_at (l := (vx σ w 16)) vi84_46 ⟨by decide, (show 0 < 2 by omega)⟩ (e1 16 (by decide) (by decide)) (by first | omega | exact ve_ix_le _ | exact vk_lat_le _ _ _ _ | assumption) (by first | omega | exact ve_ix_le _ | exact vk_lat_le _ _ _ _ | assumption) rfl (fun _ _ => ?_)
    refine c_typeOfR (l := (σ.1 13 0)) vi84_49 (s1.2 13 0 (by unfold vw_sc; omega)) (by first | omega | exact ve_ix_le _ | exact vk_lat_le _ _ _ _ | assumption) (by first | omega | exact ve_ix_le _ | exact vk_lat_le _ _ _ _ | assumption) rfl ?_
    refine w14d (v := .int (jI ((σ.2 5 ((ve_ix (vl_at (σ.1 13 0) (vl_at (vx σ w 16) ((j : Int)))))))))) vi84_52 (by first | omega | exact ve_ix_le _ | exact vk_lat_le _ _ _ _ | assumption) (by rw [s1.1]; rfl) ?_
    refine vW_nR (V := σ.2) s1.1 5 ((ve_ix (vl_at (σ.1 13 0) (vl_at (vx σ w 16) ((j : Int)))))) (fun _ _ => ?_)
    refine w0 vi84_55 rfl rfl ?_
    refine w8 vi84_56 (vwc_1 ⟨by omega, by omega⟩ ⟨by omega, by omega⟩) (fun h56 => ?_) (fun h56 => ?_)
    ·
      refine w6 (lc' := [some (.ref 8), some (.int (jI ((w : Int)))), some (.int (jI ((o : Int)))), some (.ref (vw_cr w)), some (.ref (vw_rr 16 0)), some (.int (jI (((vy_own σ.2 (σ.1 13 0) (vx σ w 16) (o : Int) j : Nat) : Int)))), some (.int (jI ((j : Int) + 1)))]) (1) vi84_62 rfl (by decide) rfl ?_
      refine w5 vi84_65 ?_
      have q := ih (j + 1) (by omega)
      have e2 : vy_own σ.2 (σ.1 13 0) (vx σ w 16) (o : Int) (j + 1) = if σ.2 5 (ve_ix (vl_at (σ.1 13 0) (vl_at (vx σ w 16) (j : Int)))) = (o : Int) then vy_own σ.2 (σ.1 13 0) (vx σ w 16) (o : Int) j + 1 else vy_own σ.2 (σ.1 13 0) (vx σ w 16) (o : Int) j := rfl
      rw [e2] at q
      first
        | (rw [if_pos (by omega)] at q; exact q)
        | (rw [if_neg (by omega)] at q; exact q)
    ·
      refine w6 (lc' := [some (.ref 8), some (.int (jI ((w : Int)))), some (.int (jI ((o : Int)))), some (.ref (vw_cr w)), some (.ref (vw_rr 16 0)), some (.int (jI (((vy_own σ.2 (σ.1 13 0) (vx σ w 16) (o : Int) j : Nat) : Int) + 1))), some (.int (jI ((j : Int))))]) (1) vi84_59 rfl (by decide) rfl ?_
      refine w6 (lc' := [some (.ref 8), some (.int (jI ((w : Int)))), some (.int (jI ((o : Int)))), some (.ref (vw_cr w)), some (.ref (vw_rr 16 0)), some (.int (jI (((vy_own σ.2 (σ.1 13 0) (vx σ w 16) (o : Int) j : Nat) : Int) + 1))), some (.int (jI ((j : Int) + 1)))]) (1) vi84_62 rfl (by decide) rfl ?_
      refine w5 vi84_65 ?_
      have q := ih (j + 1) (by omega)
      have e2 : vy_own σ.2 (σ.1 13 0) (vx σ w 16) (o : Int) (j + 1) = if σ.2 5 (ve_ix (vl_at (σ.1 13 0) (vl_at (vx σ w 16) (j : Int)))) = (o : Int) then vy_own σ.2 (σ.1 13 0) (vx σ w 16) (o : Int) j + 1 else vy_own σ.2 (σ.1 13 0) (vx σ w 16) (o : Int) j := rfl
      rw [e2] at q
      first
        | (rw [if_pos (by omega)] at q; exact q)
        | (rw [if_neg (by omega)] at q; exact q)
theorem m_shareOf {w : Nat} (hw : w < 6) (hc0 : (w : Int) < σ.2 0 0) (hp : σ.2 2 w = 1) {o : Nat} (ho : o < 6) (ho0 : (o : Int) < σ.2 0 0) (n0 : 0 ≤ σ.2 1 0) (n1 : σ.2 1 0 ≤ 120) (hQ : ∀ σ', vw_same σ σ' → Q [.double (vy_sh (vy_own σ.2 (σ.1 13 0) (vx σ w 16) (o : Int) (vx σ w 16).length) (vx σ w 16).length)] σ') : vW vw_rep L xs (84, 0, [some (.ref 8), some (.int (jI ((w : Int)))), some (.int (jI ((o : Int)))), none, none, none, none], []) σ Q := by
  refine w1 vi84_0 rfl rfl ?_
  refine w0 vi84_1 rfl rfl ?_
  refine c_presentCopy vi84_2 (by first | omega | exact ve_ix_le _ | exact vk_lat_le _ _ _ _ | assumption) (by first | omega | exact ve_ix_le _ | exact vk_lat_le _ _ _ _ | assumption) (by first | omega | exact ve_ix_le _ | exact vk_lat_le _ _ _ _ | assumption) rfl ?_
  refine w4 (lc' := [some (.ref 8), some (.int (jI ((w : Int)))), some (.int (jI ((o : Int)))), some (.ref (vw_cr w)), none, none, none]) vi84_5 rfl rfl ?_
  refine w1 vi84_6 rfl rfl ?_
  refine w0 vi84_7 rfl rfl ?_
  refine c_copyThatCame vi84_8 (by first | omega | exact ve_ix_le _ | exact vk_lat_le _ _ _ _ | assumption) (by first | omega | exact ve_ix_le _ | exact vk_lat_le _ _ _ _ | assumption) rfl ?_
  refine w39 vi84_11 rfl ?_
  refine w1 vi84_12 rfl rfl ?_
  refine w1 vi84_13 rfl rfl ?_
  refine c_see vi84_14 (by first | omega | exact ve_ix_le _ | exact vk_lat_le _ _ _ _ | assumption) n0 n1 rfl (fun σ1 g1 => ?_)
  obtain ⟨s1, e1⟩ := vx_see (vw_same.refl σ) g1
  refine w14v (v := .ref (vw_rr 16 0)) vi84_17 (by first | omega | exact ve_ix_le _ | exact vk_lat_le _ _ _ _ | assumption) rfl ?_
  refine w4 (lc' := [some (.ref 8), some (.int (jI ((w : Int)))), some (.int (jI ((o : Int)))), some (.ref (vw_cr w)), some (.ref (vw_rr 16 0)), none, none]) vi84_20 rfl rfl ?_
  refine w2 (0) vi84_22 (by decide) ?_
  refine w3 (lc' := [some (.ref 8), some (.int (jI ((w : Int)))), some (.int (jI ((o : Int)))), some (.ref (vw_cr w)), some (.ref (vw_rr 16 0)), some (.int (jI (0))), none]) vi84_23 rfl rfl ?_
  refine w2 (0) vi84_25 (by decide) ?_
  refine w3 (lc' := [some (.ref 8), some (.int (jI ((w : Int)))), some (.int (jI ((o : Int)))), some (.ref (vw_cr w)), some (.ref (vw_rr 16 0)), some (.int (jI (0))), some (.int (jI (0)))]) vi84_26 rfl rfl ?_
  refine vW_len (kk := 16) (i := 0) ⟨by decide, by decide⟩ (fun hl => ?_)
  have hl : (σ1.1 16 0).length ≤ 720 := hl
  rw [e1 16 (by decide) (by decide)] at hl
  refine m_sh_loop ho s1 e1 hl ?_ _ 0 (Nat.zero_add _)
  refine w1 vi84_68 rfl rfl ?_
  refine r_size (l := (vx σ w 16)) vi84_70 ⟨by decide, (show 0 < 2 by omega)⟩ (e1 16 (by decide) (by decide)) rfl ?_
  refine w3 (lc' := [some (.ref 8), some (.int (jI ((w : Int)))), some (.int (jI ((o : Int)))), some (.ref (vw_cr w)), some (.ref (vw_rr 16 0)), some (.int (jI (((vy_own σ.2 (σ.1 13 0) (vx σ w 16) (o : Int) (vx σ w 16).length : Nat) : Int)))), some (.int (jI (((vx σ w 16).length : Int))))]) vi84_73 rfl rfl ?_
  refine w0 vi84_75 rfl rfl ?_
  refine w7 vi84_77 (vwz_1 ⟨by omega, by omega⟩) (fun h77 => ?_) (fun h77 => ?_)
  ·
    refine w0 vi84_84 rfl rfl ?_
    refine w67 vi84_86 ?_
    refine w0 vi84_87 rfl rfl ?_
    refine w67 vi84_89 ?_
    refine w68 vi84_90 (vy_sh_b (vy_own_le _ _ _ _ _) (by omega) hl).2 ?_
    refine w46 vi84_91 vm84.2.2.2 ?_
    have q := hQ σ1 s1
    unfold vy_sh at q
    first
      | (rw [if_pos (by omega)] at q; exact q)
      | (rw [if_neg (by omega)] at q; exact q)
  ·
    refine w54 vi84_80 ?_
    refine w5 vi84_81 ?_
    refine w46 vi84_91 vm84.2.2.2 ?_
    have q := hQ σ1 s1
    unfold vy_sh at q
    first
      | (rw [if_pos (by omega)] at q; exact q)
      | (rw [if_neg (by omega)] at q; exact q)
theorem c_shareOf (hc : vt_code k pc = (27, 84, b, c)) {w : Nat} (hw : w < 6) (hc0 : (w : Int) < σ.2 0 0) (hp : σ.2 2 w = 1) {o : Nat} (ho : o < 6) (ho0 : (o : Int) < σ.2 0 0) (n0 : 0 ≤ σ.2 1 0) (n1 : σ.2 1 0 ≤ 120) (hs : Nat.ble (vj_cat sc) 8 = true) (hQ : ∀ σ', vw_same σ σ' → vW vw_rep L xs (k, pc + 3, lc, .double (vy_sh (vy_own σ.2 (σ.1 13 0) (vx σ w 16) (o : Int) (vx σ w 16).length) (vx σ w 16).length) :: sc) σ' Q) : vW vw_rep L xs (k, pc, lc, .int (jI ((o : Int))) :: .int (jI ((w : Int))) :: .ref 8 :: sc) σ Q := by
  refine w27 (n := 3) (vs := [.int (jI ((o : Int))), .int (jI ((w : Int))), .ref 8]) hc vm84.2.1 rfl (by rw [vm84.2.2.1]; rfl) hs (by simp only [List.length_cons]; omega) ⟨_, rfl⟩ (fun M hM => hM.2.2.2.2.2.1) ⟨by omega, by omega⟩ vm84.1 ?_
  rw [vm84.2.2.1]
  exact m_shareOf hw hc0 hp ho ho0 n0 n1 (Q := fun v σ1 => vW vw_rep L xs (k, pc + 3, lc, v ++ sc) σ1 Q) hQ
theorem m_below {x n : Int} (n0 : 0 < n) (n1 : n < 2147483648) (hQ : ∀ z : Int, 0 ≤ z → z < n → Q [.int (jI (z))] σ) : vW vw_rep L xs (123, 0, [some (.int (jI (x))), some (.int (jI (n)))], []) σ Q := by
  refine w0 vi123_0 rfl rfl ?_
  refine w71 (2147483647) vi123_1 (by decide) ?_
  refine r_and vi123_3 ?_
  have hm := vy_mask (jI x)
  refine w0 vi123_4 rfl rfl ?_
  refine w13 vi123_5 (by omega) ⟨by omega, by omega⟩ (by omega) ⟨by omega, by omega⟩ ?_
  refine w42 vi123_6 vm123.2.2.2 ?_
  exact hQ _ (Int.emod_nonneg _ (by omega)) (Int.emod_lt_of_pos _ n0)
theorem c_below (hc : vt_code k pc = (29, 123, b, c)) {x n : Int} (n0 : 0 < n) (n1 : n < 2147483648) (hs : Nat.ble (vj_cat sc) 8 = true) (hQ : ∀ z : Int, 0 ≤ z → z < n → vW vw_rep L xs (k, pc + 3, lc, .int (jI (z)) :: sc) σ Q) : vW vw_rep L xs (k, pc, lc, .int (jI (n)) :: .int (jI (x)) :: sc) σ Q := by
  refine w29 (n := 2) (vs := [.int (jI (n)), .int (jI (x))]) hc vm123.2.1 rfl (by rw [vm123.2.2.1]; rfl) hs (by simp only [List.length_cons]; omega) ?_
  rw [vm123.2.2.1]
  exact m_below n0 n1 (Q := fun v σ1 => vW vw_rep L xs (k, pc + 3, lc, v ++ sc) σ1 Q) hQ
theorem c_writersR (hc : vt_code k pc = (27, 63, b, c)) (hz : σ.2 0 0 = z) (hs : Nat.ble (vj_cat sc) 8 = true) (t : vW vw_rep L xs (k, pc + 3, lc, .int (jI z) :: sc) σ Q) : vW vw_rep L xs (k, pc, lc, .ref 8 :: sc) σ Q := by
  subst hz; exact c_writers hc hs t
/-- how far it is to one that is there -/
theorem vy_next {cm : Nat} {th : Nat → Int} (h6 : cm ≤ 6) (h : ∃ i : Nat, i < cm ∧ th i = 1) (w : Nat) (hw : w < cm) : ∃ d : Nat, d < 6 ∧ th ((w + d) % cm) = 1 := by
  obtain ⟨i, hi, hp⟩ := h
  by_cases q : w ≤ i
  · exact ⟨i - w, by omega, by rw [show w + (i - w) = i by omega, Nat.mod_eq_of_lt hi]; exact hp⟩
  · refine ⟨i + cm - w, by omega, ?_⟩
    rw [show w + (i + cm - w) = i + cm by omega, Nat.add_mod_right, Nat.mod_eq_of_lt hi]
    exact hp
theorem m_wr_loop {x : Int} {cm : Nat} (hcm : σ.2 0 0 = (cm : Int)) (h6 : cm ≤ 6) (hQ : ∀ w : Nat, w < cm → σ.2 2 w = 1 → Q [.int (jI (w : Int))] σ) : ∀ (d w : Nat) (u : Int), w < cm → 0 ≤ u → u + d ≤ 100 → σ.2 2 ((w + d) % cm) = 1 → vW vw_rep L xs (125, 11, [some (.ref 8), some (.int (jI (x))), some (.int (jI ((w : Int)))), some (.int (jI (u)))], []) σ Q := by
  intro d
  induction d with
  | zero =>
    intro w u hw u0 u1 hd
    rw [Nat.add_zero, Nat.mod_eq_of_lt hw] at hd
    refine w1 vi125_11 rfl rfl ?_
    refine w0 vi125_12 rfl rfl ?_
    refine c_isPresent vi125_13 (by omega) rfl (fun _ => ?_) (fun hb => absurd hd hb)
    refine w7 vi125_16 (vwz_1 ⟨by omega, by omega⟩) (fun h16 => ?_) (fun h16 => by exfalso; omega)
    refine w0 vi125_34 rfl rfl ?_
    refine w42 vi125_35 vm125.2.2.2 ?_
    exact hQ w hw hd
  | succ d ih =>
    intro w u hw u0 u1 hd
    refine w1 vi125_11 rfl rfl ?_
    refine w0 vi125_12 rfl rfl ?_
    refine c_isPresent vi125_13 (by first | omega | exact ve_ix_le _ | exact vk_lat_le _ _ _ _ | exact ⟨by decide, by decide⟩ | exact ⟨by decide, by assumption⟩ | exact ⟨by decide, Nat.lt_succ_of_le (by first | exact ve_ix_le _ | exact vk_lat_le _ _ _ _ | assumption)⟩ | assumption) rfl (fun hb13 => ?_) (fun hb13 => ?_)
    ·
      refine w7 vi125_16 (vwz_1 ⟨by omega, by omega⟩) (fun h16 => ?_) (fun h16 => by exfalso; omega)
      refine w0 vi125_34 rfl rfl ?_
      refine w42 vi125_35 vm125.2.2.2 ?_
      exact hQ w hw (by assumption)
    ·
      refine w7 vi125_16 (vwz_1 ⟨by omega, by omega⟩) (fun h16 => by exfalso; omega) (fun h16 => ?_)
      refine w0 vi125_19 rfl rfl ?_
      refine w2 (1) vi125_20 (by decide) ?_
      refine w9 vi125_21 ?_
      refine w1 vi125_22 rfl rfl ?_
      refine c_writersR (z := (σ.2 0 0)) vi125_23 rfl rfl ?_
      have hmod : ((w : Int) + 1) % σ.2 0 0 = (((w + 1) % cm : Nat) : Int) := by rw [hcm, Int.natCast_emod]; rfl
      refine w13 vi125_26 (by omega) ⟨by omega, by omega⟩ (by omega) ⟨by omega, by omega⟩ ?_
      rw [hmod]
      refine w3 (lc' := [some (.ref 8), some (.int (jI (x))), some (.int (jI ((((w + 1) % cm : Nat) : Int)))), some (.int (jI (u)))]) vi125_27 rfl rfl ?_
      refine w6 (lc' := [some (.ref 8), some (.int (jI (x))), some (.int (jI ((((w + 1) % cm : Nat) : Int)))), some (.int (jI (u + 1)))]) (1) vi125_28 rfl (by decide) rfl ?_
      refine w5 vi125_31 ?_
      refine ih ((w + 1) % cm) _ (Nat.mod_lt _ (by omega)) (by omega) (by omega) ?_
      rw [Nat.mod_add_mod, show w + 1 + d = w + (d + 1) by omega]
      exact hd
theorem m_writer {x : Int} {cm : Nat} (hcm : σ.2 0 0 = (cm : Int)) (h1 : 1 ≤ cm) (h6 : cm ≤ 6) (hex : ∃ i : Nat, i < cm ∧ σ.2 2 i = 1) (hQ : ∀ w : Nat, w < cm → σ.2 2 w = 1 → Q [.int (jI ((w : Int)))] σ) : vW vw_rep L xs (125, 0, [some (.ref 8), some (.int (jI (x))), none, none], []) σ Q := by
  refine w0 vi125_0 rfl rfl ?_
  refine w1 vi125_1 rfl rfl ?_
  refine c_writersR (z := (σ.2 0 0)) vi125_2 rfl rfl ?_
  refine c_below vi125_5 (by first | omega | exact ve_ix_le _ | exact vk_lat_le _ _ _ _ | assumption) (by first | omega | exact ve_ix_le _ | exact vk_lat_le _ _ _ _ | assumption) rfl (fun z5 _ _ => ?_)
  refine w3 (lc' := [some (.ref 8), some (.int (jI (x))), some (.int (jI (z5))), none]) vi125_8 rfl rfl ?_
  refine w2 (0) vi125_9 (by decide) ?_
  refine w3 (lc' := [some (.ref 8), some (.int (jI (x))), some (.int (jI (z5))), some (.int (jI (0)))]) vi125_10 rfl rfl ?_
  obtain ⟨w, hwz⟩ : ∃ w : Nat, z5 = (w : Int) := ⟨z5.toNat, by omega⟩
  subst hwz
  obtain ⟨d, d6, hd⟩ := vy_next h6 hex w (by omega)
  exact m_wr_loop hcm h6 hQ d w 0 (by omega) (by omega) (by omega) hd
theorem c_writer (hc : vt_code k pc = (29, 125, b, c)) {x : Int} {cm : Nat} (hcm : σ.2 0 0 = (cm : Int)) (h1 : 1 ≤ cm) (h6 : cm ≤ 6) (hex : ∃ i : Nat, i < cm ∧ σ.2 2 i = 1) (hs : Nat.ble (vj_cat sc) 8 = true) (hQ : ∀ w : Nat, w < cm → σ.2 2 w = 1 → vW vw_rep L xs (k, pc + 3, lc, .int (jI ((w : Int))) :: sc) σ Q) : vW vw_rep L xs (k, pc, lc, .int (jI (x)) :: .ref 8 :: sc) σ Q := by
  refine w29 (n := 2) (vs := [.int (jI (x)), .ref 8]) hc vm125.2.1 rfl (by rw [vm125.2.2.1]; rfl) hs (by simp only [List.length_cons]; omega) ?_
  rw [vm125.2.2.1]
  exact m_writer hcm h1 h6 hex (Q := fun v σ1 => vW vw_rep L xs (k, pc + 3, lc, v ++ sc) σ1 Q) hQ
theorem m_cell {n : Nat} (hn : n < 100) (hL : L ≤ 1000) (hQ : ∀ z : Int, -2147483648 ≤ z → z < 2147483648 → Q [.int (jI (z))] σ) : vW vw_rep L xs (124, 0, [some (.ref 0), some (.int (jI ((n : Int))))], []) σ Q := by
  refine w0 vi124_0 rfl rfl ?_
  refine w1 vi124_1 rfl rfl ?_
  refine w26s vi124_2 ?_
  rw [jI_nat]
  refine w8 vi124_3 (vwc_3 ⟨by omega, by omega⟩ ⟨by omega, by omega⟩) (fun h3 => ?_) (fun h3 => ?_)
  ·
    refine w71 (790386105) vi124_12 (by decide) ?_
    refine w0 vi124_14 rfl rfl ?_
    refine w2 (3) vi124_15 (by decide) ?_
    refine w9 vi124_16 ?_
    refine w11 vi124_17 ?_
    rw [jI_N (790386105 * ((n : Int) + 3))]
    have hN := jN_in (790386105 * ((n : Int) + 3))
    obtain ⟨hN1, hN2⟩ := hN
    refine w42 vi124_18 vm124.2.2.2 ?_
    exact hQ _ (by omega) (by omega)
  ·
    refine w1 vi124_6 rfl rfl ?_
    refine w0 vi124_7 rfl rfl ?_
    refine w16s vi124_8 (by
      have h2 := jI_clamp (z := (n : Int)) (by omega) (by omega)
      refine decide_eq_true ?_
      rw [h2, jI_pos ⟨by omega, by omega⟩]
      omega) ?_
    rw [jI_of (xs (jI (n : Int)).toNatClampNeg)]
    have hxi := vw_in_of (xs (jI (n : Int)).toNatClampNeg)
    obtain ⟨hxi1, hxi2⟩ := hxi
    refine w5 vi124_9 ?_
    refine w42 vi124_18 vm124.2.2.2 ?_
    exact hQ _ (by omega) (by omega)
theorem c_cell (hc : vt_code k pc = (29, 124, b, c)) {n : Nat} (hn : n < 100) (hL : L ≤ 1000) (hs : Nat.ble (vj_cat sc) 8 = true) (hQ : ∀ z : Int, -2147483648 ≤ z → z < 2147483648 → vW vw_rep L xs (k, pc + 3, lc, .int (jI (z)) :: sc) σ Q) : vW vw_rep L xs (k, pc, lc, .int (jI ((n : Int))) :: .ref 0 :: sc) σ Q := by
  refine w29 (n := 2) (vs := [.int (jI ((n : Int))), .ref 0]) hc vm124.2.1 rfl (by rw [vm124.2.2.1]; rfl) hs (by simp only [List.length_cons]; omega) ?_
  rw [vm124.2.2.1]
  exact m_cell hn hL (Q := fun v σ1 => vW vw_rep L xs (k, pc + 3, lc, v ++ sc) σ1 Q) hQ
end VW24
