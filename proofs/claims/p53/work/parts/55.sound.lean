/-! ===== a text is sound ===== -/
section VW27
def vy_sn (σ : vw_S) (w k : Nat) : Nat := (((vx σ w 15).take k).filter (fun x => decide (vl_at (vx σ w 20) x = 1))).length
theorem vy_sn_all {σ : vw_S} (hI : vI σ) (w : Nat) : vy_sn σ w (vx σ w 15).length = (vx σ w 16).length := by
  unfold vy_sn
  rw [List.take_length, ← (vx_ok hI w).2.2.1]
theorem vy_sn_vis {σ : vw_S} (hI : vI σ) {w k : Nat} (hk : k < (vx σ w 15).length) (h : vl_at (vx σ w 20) (vl_at (vx σ w 15) (k : Int)) = 1) : vy_sn σ w k < (vx σ w 16).length ∧ vl_at (vx σ w 16) (vy_sn σ w k : Int) = vl_at (vx σ w 15) (k : Int) ∧ vy_sn σ w (k + 1) = vy_sn σ w k + 1 := by
  have h1 := vl_filter_at (f := fun x => decide (vl_at (vx σ w 20) x = 1)) hk (decide_eq_true h)
  have h2 := vl_filter_take (f := fun x => decide (vl_at (vx σ w 20) x = 1)) hk
  rw [← (vx_ok hI w).2.2.1] at h1
  rw [if_pos (decide_eq_true h)] at h2
  exact ⟨h1.1, h1.2, h2⟩
theorem vy_sn_not {σ : vw_S} {w k : Nat} (hk : k < (vx σ w 15).length) (h : ¬ vl_at (vx σ w 20) (vl_at (vx σ w 15) (k : Int)) = 1) : vy_sn σ w (k + 1) = vy_sn σ w k := by
  have h2 := vl_filter_take (f := fun x => decide (vl_at (vx σ w 20) x = 1)) hk
  rw [if_neg (show ¬ decide (vl_at (vx σ w 20) (vl_at (vx σ w 15) (k : Int)) = 1) = true by rw [decide_eq_true_eq]; exact h)] at h2
  exact h2
theorem vy_seen_ge (V : Nat → Nat → Int) (he od sh cs : List Int) (x o : Int) : -1 ≤ vy_seen V he od sh cs x o := by
  unfold vy_seen
  split
  · omega
  · have := (vp_pos_in sh cs (V 8 (vk_lat V od o od.length))).1
    omega
theorem vy_O_mono (f : Nat → Nat) {m m' : Nat} (h : m ≤ m') : vy_O f m ≤ vy_O f m' := by
  induction m' with
  | zero => rw [show m = 0 by omega]; exact Nat.le_refl _
  | succ n ih =>
    by_cases e : m = n + 1
    · rw [e]; exact Nat.le_refl _
    · exact Nat.le_trans (ih (by omega)) (Nat.le_add_right _ _)
/-- what is added up of the shares -/
def vy_hsh (f : Nat → Nat) (n a : Nat) (s : UInt64) : Prop := (n = 0 ∧ s = FP.dconst0) ∨ (1 ≤ n ∧ vz_d s (vy_O (fun a => f a * 2 ^ 14 / n) a) (vy_O (fun a => f a * 2 ^ 14 / n) a + a))
theorem vy_hsh0 (f : Nat → Nat) (n : Nat) : vy_hsh f n 0 FP.dconst0 := by
  by_cases h : n = 0
  · exact Or.inl ⟨h, rfl⟩
  · exact Or.inr ⟨by omega, vz_zero⟩
theorem vy_hsh_step {f : Nat → Nat} {n a cm : Nat} {s : UInt64} (h : vy_hsh f n a s) (hle : f a ≤ n) (hn : n ≤ 720) (ha : a < cm) (hc : cm ≤ 6) (hO : vy_O f cm = n) : vy_hsh f n (a + 1) (FP.dadd s (vy_sh (f a) n)) ∧ vj_n64 (FP.dadd s (vy_sh (f a) n)) = true := by
  rcases h with ⟨h1, h2⟩ | ⟨h1, h2⟩
  · subst h1
    subst h2
    have e : vy_sh (f a) 0 = FP.dconst0 := if_pos rfl
    rw [e]
    have e2 : FP.dadd FP.dconst0 FP.dconst0 = FP.dconst0 := by decide +kernel
    rw [e2]
    exact ⟨Or.inl ⟨rfl, rfl⟩, by decide⟩
  · have hb := (vy_sh_b hle h1 hn).1
    have hg := (vy_O_g (f := f) (n := n) (by omega) (a + 1)).1
    have hm := vy_O_mono f (show a + 1 ≤ cm by omega)
    rw [hO] at hm
    have h14 : vy_O (fun a => f a * 2 ^ 14 / n) (a + 1) ≤ 2 ^ 14 := by
      have h3 : vy_O (fun a => f a * 2 ^ 14 / n) (a + 1) * n ≤ 2 ^ 14 * n := by
        calc _ ≤ vy_O f (a + 1) * 2 ^ 14 := hg
          _ ≤ n * 2 ^ 14 := Nat.mul_le_mul_right _ hm
          _ = 2 ^ 14 * n := Nat.mul_comm _ _
      exact (Nat.mul_le_mul_right_iff (show 0 < n by omega)).mp h3
    have e1 : vy_O (fun a => f a * 2 ^ 14 / n) (a + 1) = vy_O (fun a => f a * 2 ^ 14 / n) a + f a * 2 ^ 14 / n := rfl
    have p14 : (2 : Nat) ^ 14 = 16384 := by decide
    have p15 : (2 : Nat) ^ 15 = 32768 := by decide
    obtain ⟨v1, v2⟩ := vz_add h2 hb (by rw [p15]; rw [p14] at h14; rw [e1] at h14; omega)
    refine ⟨Or.inr ⟨h1, ?_⟩, v2⟩
    rw [e1]
    have e2 : vy_O (fun a => f a * 2 ^ 14 / n) a + a + (f a * 2 ^ 14 / n + 1) = vy_O (fun a => f a * 2 ^ 14 / n) a + f a * 2 ^ 14 / n + (a + 1) := by omega
    rw [e2] at v1
    exact v1
theorem vy_hsh_end {f : Nat → Nat} {n cm : Nat} {s : UInt64} (h : vy_hsh f n cm s) (n1 : 1 ≤ n) (hc : cm ≤ 6) (hO : vy_O f cm = n) : FP.dcmp s (UInt64.ofNat 4607173411600762667) = some .gt ∧ FP.dcmp s (UInt64.ofNat 4607186922399644778) = some .lt := by
  rcases h with ⟨h1, h2⟩ | ⟨h1, h2⟩
  · omega
  · obtain ⟨g1, g2⟩ := vy_O_g (f := f) (n := n) (by omega) cm
    rw [hO] at g1 g2
    have p14 : (2 : Nat) ^ 14 = 16384 := by decide
    rw [p14] at g1 g2
    have a1 : vy_O (fun a => f a * 2 ^ 14 / n) cm ≤ 16384 := by
      refine (Nat.mul_le_mul_right_iff (show 0 < n by omega)).mp ?_
      rw [p14] at *
      rw [Nat.mul_comm 16384]
      exact g1
    have a2 : 16384 ≤ vy_O (fun a => f a * 2 ^ 14 / n) cm + cm := by
      refine (Nat.mul_le_mul_right_iff (show 0 < n by omega)).mp ?_
      rw [Nat.mul_comm 16384]
      exact g2
    exact ⟨vz_gt h2 (by omega), vz_lt h2 (by omega)⟩
variable {L : Nat} {xs : Nat → Int32} {σ σ1 : vw_S} {Q : List Value → vw_S → Prop} {k pc a b c kk i : Nat} {lc : List (Option Value)} {sc : List Value} {fr : vj_F} {l l2 r12 r13 sh cs tx tx2 d2 he od dec : List Int} {V : Nat → Nat → Int} {z y : Int}
theorem m_is1_loop {w : Nat} (hI : vI σ) (hw : w < 6) (hc0 : (w : Int) < σ.2 0 0) (hp : σ.2 2 w = 1) {x : Int} (hQ : ∀ (σ1 : vw_S) (u v7 : Option Value), vw_same σ σ1 → vW vw_rep L xs (127, 86, [some (.ref 8), some (.int (jI ((w : Int)))), some (.int (jI (x))), some (.int (jI (((vx σ w 16).length : Int)))), some (.int (jI (((vx σ w 16).length : Int)))), some (.int (jI (((vx σ w 15).length : Int)))), u, v7, none], []) σ1 Q) : ∀ (e k : Nat) (σ1 : vw_S) (u v7 : Option Value), k + e = (vx σ w 15).length → vw_same σ σ1 → vW vw_rep L xs (127, 12, [some (.ref 8), some (.int (jI ((w : Int)))), some (.int (jI (x))), some (.int (jI (((vx σ w 16).length : Int)))), some (.int (jI ((vy_sn σ w k : Int)))), some (.int (jI ((k : Int)))), u, v7, none], []) σ1 Q := by
  have hok := vx_ok hI w
  intro e
  induction e with
  | zero =>
    intro k σ1 u v7 hk s1
    refine w0 vi127_12 rfl rfl ?_
    refine w1 vi127_14 rfl rfl ?_
    refine w0 vi127_15 rfl rfl ?_
    refine k_cellsOf vi127_16 s1 hI hw hc0 hp rfl (fun τ16 t16 => ?_)
    refine w8 vi127_19 (vwc_3 ⟨by omega, by omega⟩ ⟨by omega, by omega⟩) (fun h19 => ?_) (fun h19 => by exfalso; omega)
    have hk' : k = (vx σ w 15).length := by omega
    subst hk'
    rw [vy_sn_all hI w]
    exact hQ _ u v7 (by assumption)
  | succ e ih =>
    intro k σ1 u v7 hk0 s1
    have hk : k < (vx σ w 15).length := by omega
    have hsl : (vx σ w 16).length ≤ 720 := hok.2.2.2
    refine w0 vi127_12 rfl rfl ?_
    refine w1 vi127_14 rfl rfl ?_
    refine w0 vi127_15 rfl rfl ?_
    refine k_cellsOf vi127_16 s1 hI hw hc0 hp rfl (fun τ16 t16 => ?_)
    refine w8 vi127_19 (vwc_3 ⟨by omega, by omega⟩ ⟨by omega, by omega⟩) (fun h19 => by exfalso; omega) (fun h19 => ?_)
    refine w1 vi127_22 rfl rfl ?_
    refine w0 vi127_23 rfl rfl ?_
    refine w0 vi127_24 rfl rfl ?_
    refine k_cellAt vi127_26 t16 hI hw hc0 hp (z := (k : Int)) (by omega) (by omega) hok.2.1 rfl (fun τ26 t26 => ?_)
    have hcell := hok.1 _ (vl_at_mem (l := vx σ w 15) (z := (k : Int)) (by omega) (by omega))
    have hval := vI_cell hI hcell.1.1 hcell.1.2
    have hcm := vI_c hI
    obtain ⟨v, hv⟩ : ∃ v : Int, vy_val σ.2 (σ.1 12 0) (σ.1 13 0) (vl_at (vx σ w 15) (k : Int)) = v := ⟨_, rfl⟩
    have hv2 : 32 * σ.2 5 (ve_ix (vl_at (σ.1 13 0) (vl_at (vx σ w 15) (k : Int)))) + vl_at (σ.1 12 0) (vl_at (vx σ w 15) (k : Int)) = v := hv
    by_cases hvis : vl_at (vx σ w 20) (vl_at (vx σ w 15) (k : Int)) = 1
    · obtain ⟨f1, f2, f3⟩ := vy_sn_vis hI hk hvis
      have hd : vy_desc σ.2 (σ.1 12 0) (σ.1 13 0) (vx σ w 15) (vx σ w 20) (k : Int) = v := by unfold vy_desc; rw [if_pos hvis, hv]
      rw [hd]
      refine w3 (lc' := [some (.ref 8), some (.int (jI ((w : Int)))), some (.int (jI (x))), some (.int (jI (((vx σ w 16).length : Int)))), some (.int (jI ((vy_sn σ w k : Int)))), some (.int (jI ((k : Int)))), some (.int (jI (v))), v7, none]) vi127_29 rfl rfl ?_
      refine w0 vi127_31 rfl rfl ?_
      refine w7 vi127_33 (vwz_3 ⟨by omega, by omega⟩) (fun h33 => ?_) (fun h33 => by exfalso; omega)
      refine w0 vi127_39 rfl rfl ?_
      refine w0 vi127_41 rfl rfl ?_
      refine w8 vi127_42 (vwc_3 ⟨by omega, by omega⟩ ⟨by omega, by omega⟩) (fun h42 => by exfalso; omega) (fun h42 => ?_)
      refine w0 vi127_45 rfl rfl ?_
      refine w2 (32) vi127_47 (by decide) ?_
      refine w13 vi127_49 (by omega) ⟨by omega, by omega⟩ (by omega) ⟨by omega, by omega⟩ ?_
      refine w1 vi127_50 rfl rfl ?_
      refine w0 vi127_51 rfl rfl ?_
      refine w0 vi127_52 rfl rfl ?_
      refine k_letterAt vi127_54 t26 hI hw hc0 hp (z := (vy_sn σ w k : Int)) (by omega) (by omega) rfl (fun τ54 t54 => ?_)
      rw [f2]
      refine w8 vi127_57 (vwc_1 ⟨by omega, by omega⟩ ⟨by omega, by omega⟩) (fun h57 => by exfalso; omega) (fun h57 => ?_)
      refine w0 vi127_60 rfl rfl ?_
      refine w2 (32) vi127_62 (by decide) ?_
      refine w64 vi127_64 (by omega) ⟨by omega, by omega⟩ (by omega) ⟨by omega, by omega⟩ ?_
      refine w1 vi127_65 rfl rfl ?_
      refine w0 vi127_66 rfl rfl ?_
      refine w0 vi127_67 rfl rfl ?_
      refine k_authorAt vi127_69 t54 hI hw hc0 hp (z := (vy_sn σ w k : Int)) (by omega) (by omega) rfl (fun τ69 t69 => ?_)
      rw [f2]
      refine w8 vi127_72 (vwc_0 ⟨by omega, by omega⟩ ⟨by omega, by omega⟩) (fun h72 => ?_) (fun h72 => by exfalso; omega)
      refine w6 (lc' := [some (.ref 8), some (.int (jI ((w : Int)))), some (.int (jI (x))), some (.int (jI (((vx σ w 16).length : Int)))), some (.int (jI ((vy_sn σ w k : Int) + 1))), some (.int (jI ((k : Int)))), some (.int (jI (v))), v7, none]) (1) vi127_77 rfl (by decide) rfl ?_
      refine w6 (lc' := [some (.ref 8), some (.int (jI ((w : Int)))), some (.int (jI (x))), some (.int (jI (((vx σ w 16).length : Int)))), some (.int (jI ((vy_sn σ w k : Int) + 1))), some (.int (jI ((k : Int) + 1))), some (.int (jI (v))), v7, none]) (1) vi127_80 rfl (by decide) rfl ?_
      refine w5 vi127_83 ?_
      have q := ih (k + 1) τ69 (some (.int (jI (v)))) v7 (by omega) t69
      rw [f3] at q
      exact q
    · have f3 := vy_sn_not hk hvis
      have hd : vy_desc σ.2 (σ.1 12 0) (σ.1 13 0) (vx σ w 15) (vx σ w 20) (k : Int) = -1 - v := by unfold vy_desc; rw [if_neg hvis, hv]
      rw [hd]
      refine w3 (lc' := [some (.ref 8), some (.int (jI ((w : Int)))), some (.int (jI (x))), some (.int (jI (((vx σ w 16).length : Int)))), some (.int (jI ((vy_sn σ w k : Int)))), some (.int (jI ((k : Int)))), some (.int (jI ((-1) - v))), v7, none]) vi127_29 rfl rfl ?_
      refine w0 vi127_31 rfl rfl ?_
      refine w7 vi127_33 (vwz_3 ⟨by omega, by omega⟩) (fun h33 => by exfalso; omega) (fun h33 => ?_)
      refine w5 vi127_36 ?_
      refine w6 (lc' := [some (.ref 8), some (.int (jI ((w : Int)))), some (.int (jI (x))), some (.int (jI (((vx σ w 16).length : Int)))), some (.int (jI ((vy_sn σ w k : Int)))), some (.int (jI ((k : Int) + 1))), some (.int (jI ((-1) - v))), v7, none]) (1) vi127_80 rfl (by decide) rfl ?_
      refine w5 vi127_83 ?_
      have q := ih (k + 1) τ26 (some (.int (jI ((-1) - v)))) v7 (by omega) t26
      rw [f3] at q
      exact q
theorem m_is2_loop {w : Nat} (hI : vI σ) (hw : w < 6) (hc0 : (w : Int) < σ.2 0 0) (hp : σ.2 2 w = 1) {x : Int} {cm : Nat} (hcm : σ.2 0 0 = (cm : Int)) (hcm6 : cm ≤ 6) (hsl : (vx σ w 16).length ≤ 720) (hO : vy_O (fun a => vy_own σ.2 (σ.1 13 0) (vx σ w 16) (a : Int) (vx σ w 16).length) cm = (vx σ w 16).length) (hQ : ∀ (σ1 : vw_S) (share : UInt64), vw_same σ σ1 → vy_hsh (fun a => vy_own σ.2 (σ.1 13 0) (vx σ w 16) (a : Int) (vx σ w 16).length) (vx σ w 16).length cm share → vW vw_rep L xs (127, 174, [some (.ref 8), some (.int (jI ((w : Int)))), some (.int (jI (x))), some (.int (jI (((vx σ w 16).length : Int)))), some (.int (jI (((vx σ w 16).length : Int)))), some (.int (jI (vk_sum (σ.1 1 w) cm))), some (.double (share)), none, some (.int (jI ((cm : Int))))], []) σ1 Q) : ∀ (e a : Nat) (σ1 : vw_S) (share : UInt64), a + e = cm → vw_same σ σ1 → vy_hsh (fun a => vy_own σ.2 (σ.1 13 0) (vx σ w 16) (a : Int) (vx σ w 16).length) (vx σ w 16).length a share → vW vw_rep L xs (127, 95, [some (.ref 8), some (.int (jI ((w : Int)))), some (.int (jI (x))), some (.int (jI (((vx σ w 16).length : Int)))), some (.int (jI (((vx σ w 16).length : Int)))), some (.int (jI (vk_sum (σ.1 1 w) a))), some (.double (share)), none, some (.int (jI ((a : Int))))], []) σ1 Q := by
  have hok := vx_ok hI w
  intro e
  induction e with
  | zero =>
    intro a σ1 share ha s1 hsh
    refine w0 vi127_95 rfl rfl ?_
    refine w1 vi127_97 rfl rfl ?_
    refine k_writers vi127_98 s1 hI  rfl ?_
    refine w8 vi127_101 (vwc_3 ⟨by omega, by omega⟩ ⟨by omega, by omega⟩) (fun h101 => ?_) (fun h101 => by exfalso; omega)
    have ha2 : a = cm := by omega
    subst ha2
    exact hQ σ1 share s1 hsh
  | succ e ih =>
    intro a σ1 share ha s1 hsh
    have hHd := (hI.1.1.2.2.2.2.1 w hw).2.1 a (by omega)
    have hb := vI_he hI w hw a (by omega)
    have hba := vI_he hI a (by omega) a (by omega)
    refine w0 vi127_95 rfl rfl ?_
    refine w1 vi127_97 rfl rfl ?_
    refine k_writers vi127_98 s1 hI  rfl ?_
    refine w8 vi127_101 (vwc_3 ⟨by omega, by omega⟩ ⟨by omega, by omega⟩) (fun h101 => by exfalso; omega) (fun h101 => ?_)
    refine w0 vi127_104 rfl rfl ?_
    refine w1 vi127_106 rfl rfl ?_
    refine w0 vi127_107 rfl rfl ?_
    refine w0 vi127_108 rfl rfl ?_
    refine k_knownOf vi127_110 s1 hI hw hc0 hp (o := a) (by omega) (by omega) rfl ?_
    refine w9 vi127_113 ?_
    refine w3 (lc' := [some (.ref 8), some (.int (jI ((w : Int)))), some (.int (jI (x))), some (.int (jI (((vx σ w 16).length : Int)))), some (.int (jI (((vx σ w 16).length : Int)))), some (.int (jI ((vk_sum (σ.1 1 w) a) + (vl_at (σ.1 1 w) (a : Int))))), some (.double (share)), none, some (.int (jI ((a : Int))))]) vi127_114 rfl rfl ?_
    refine w1 vi127_116 rfl rfl ?_
    refine w0 vi127_117 rfl rfl ?_
    refine w0 vi127_118 rfl rfl ?_
    refine k_knownOf vi127_120 s1 hI hw hc0 hp (o := a) (by omega) (by omega) rfl ?_
    refine w1 vi127_123 rfl rfl ?_
    refine w0 vi127_124 rfl rfl ?_
    refine k_deedsOf vi127_126 s1 hI (o := a) (by omega) (by omega) rfl ?_
    refine w8 vi127_129 (vwc_4 ⟨by omega, by omega⟩ ⟨by omega, by omega⟩) (fun h129 => by exfalso; omega) (fun h129 => ?_)
    refine w1 vi127_132 rfl rfl ?_
    refine w0 vi127_133 rfl rfl ?_
    refine w0 vi127_134 rfl rfl ?_
    refine k_caretSeen vi127_136 s1 hI hw hc0 hp (o := a) (by omega) (by omega) rfl (fun τ136 t136 => ?_)
    have hse1 := vy_seen_ge σ.2 (σ.1 1 w) (σ.1 0 w) (vx σ w 20) (vx σ w 15) (w : Int) (a : Int)
    have hse2 := vy_seen_le σ.2 (σ.1 1 w) (σ.1 0 w) (vx σ w 20) (vx σ w 15) (w : Int) (a : Int)
    rw [← hok.2.2.1] at hse2
    refine w0 vi127_139 rfl rfl ?_
    refine w8 vi127_140 (vwc_4 ⟨by omega, by omega⟩ ⟨by omega, by omega⟩) (fun h140 => by exfalso; omega) (fun h140 => ?_)
    refine w1 vi127_143 rfl rfl ?_
    refine w0 vi127_144 rfl rfl ?_
    refine w0 vi127_145 rfl rfl ?_
    refine k_longestBy vi127_147 t136 hI hw hc0 hp (o := a) (by omega) (by omega) rfl (fun zl τ147 t147 zl0 zl1 => ?_)
    refine w0 vi127_150 rfl rfl ?_
    refine w8 vi127_151 (vwc_5 ⟨by omega, by omega⟩ ⟨by omega, by omega⟩) (fun h151 => ?_) (fun h151 => by exfalso; omega)
    refine w55 vi127_156 rfl rfl ?_
    refine w1 vi127_158 rfl rfl ?_
    refine w0 vi127_159 rfl rfl ?_
    refine w0 vi127_160 rfl rfl ?_
    refine k_shareOf vi127_162 t147 hI hw hc0 hp (o := a) (by omega) (by omega) rfl (fun τ162 t162 => ?_)
    have hst := vy_hsh_step hsh (vy_own_le σ.2 (σ.1 13 0) (vx σ w 16) (a : Int) (vx σ w 16).length) hsl (by omega) hcm6 hO
    refine w69 vi127_165 hst.2 ?_
    refine w56 (lc' := [some (.ref 8), some (.int (jI ((w : Int)))), some (.int (jI (x))), some (.int (jI (((vx σ w 16).length : Int)))), some (.int (jI (((vx σ w 16).length : Int)))), some (.int (jI ((vk_sum (σ.1 1 w) a) + (vl_at (σ.1 1 w) (a : Int))))), some (.double (FP.dadd share (vy_sh (vy_own σ.2 (σ.1 13 0) (vx σ w 16) (a : Int) (vx σ w 16).length) (vx σ w 16).length))), none, some (.int (jI ((a : Int))))]) vi127_166 rfl rfl ?_
    refine w6 (lc' := [some (.ref 8), some (.int (jI ((w : Int)))), some (.int (jI (x))), some (.int (jI (((vx σ w 16).length : Int)))), some (.int (jI (((vx σ w 16).length : Int)))), some (.int (jI ((vk_sum (σ.1 1 w) a) + (vl_at (σ.1 1 w) (a : Int))))), some (.double (FP.dadd share (vy_sh (vy_own σ.2 (σ.1 13 0) (vx σ w 16) (a : Int) (vx σ w 16).length) (vx σ w 16).length))), none, some (.int (jI ((a : Int) + 1)))]) (1) vi127_168 rfl (by decide) rfl ?_
    refine w5 vi127_171 ?_
    exact ih (a + 1) τ162 _ (by omega) t162 hst.1
theorem m_is3 {w : Nat} (hI : vI σ) (hw : w < 6) (hc0 : (w : Int) < σ.2 0 0) (hp : σ.2 2 w = 1) {x : Int} {cm : Nat} (hcm : σ.2 0 0 = (cm : Int)) (hcm6 : cm ≤ 6) (hsl : (vx σ w 16).length ≤ 720) (hO : vy_O (fun a => vy_own σ.2 (σ.1 13 0) (vx σ w 16) (a : Int) (vx σ w 16).length) cm = (vx σ w 16).length) (hQ : ∀ σ', vw_same σ σ' → Q [.int (jI 1)] σ') {σ1 : vw_S} {share : UInt64} (s1 : vw_same σ σ1) (hsh : vy_hsh (fun a => vy_own σ.2 (σ.1 13 0) (vx σ w 16) (a : Int) (vx σ w 16).length) (vx σ w 16).length cm share) : vW vw_rep L xs (127, 174, [some (.ref 8), some (.int (jI ((w : Int)))), some (.int (jI (x))), some (.int (jI (((vx σ w 16).length : Int)))), some (.int (jI (((vx σ w 16).length : Int)))), some (.int (jI (vk_sum (σ.1 1 w) cm))), some (.double (share)), none, some (.int (jI ((cm : Int))))], []) σ1 Q := by
  have hok := vx_ok hI w
  have hD := hI.2.2 w hw
  have hall : vk_sum (σ.1 1 w) cm = ((σ.1 0 w).length : Int) := by
    rw [vk_sum_cm hI hw hcm]
    exact (hI.1.1.2.2.2.2.2.1 w hw).2.2.2.1.symm
  have hol : (σ.1 0 w).length ≤ 120 := by
    have := vK_len hI.1.1 hw
    have := vI_n hI
    omega
  have hmis : vk_bey (σ.1 1 w) (σ.1 1 w) 6 = 0 := (vk_bey_in (vI_he hI w hw) (vI_he hI w hw) 6 (Nat.le_refl _)).2.mpr (fun a _ => Int.le_refl _)
  refine w1 vi127_174 rfl rfl ?_
  refine w0 vi127_175 rfl rfl ?_
  refine k_lengthUndone vi127_176 s1 hI hw hc0 hp rfl (fun zu τ176 t176 zu0 zu1 zu2 => ?_)
  refine w3 (lc' := [some (.ref 8), some (.int (jI ((w : Int)))), some (.int (jI (x))), some (.int (jI (((vx σ w 16).length : Int)))), some (.int (jI (((vx σ w 16).length : Int)))), some (.int (jI (vk_sum (σ.1 1 w) cm))), some (.double (share)), none, some (.int (jI (zu)))]) vi127_179 rfl rfl ?_
  refine w0 vi127_181 rfl rfl ?_
  refine w0 vi127_183 rfl rfl ?_
  refine w8 vi127_184 (vwc_1 ⟨by omega, by omega⟩ ⟨by omega, by omega⟩) (fun h184 => by exfalso; omega) (fun h184 => ?_)
  refine w1 vi127_187 rfl rfl ?_
  refine w0 vi127_188 rfl rfl ?_
  refine k_known vi127_189 t176 hI hw hc0 hp rfl ?_
  refine w0 vi127_192 rfl rfl ?_
  refine w8 vi127_194 (vwc_1 ⟨by omega, by omega⟩ ⟨by omega, by omega⟩) (fun h194 => by exfalso; omega) (fun h194 => ?_)
  refine w1 vi127_197 rfl rfl ?_
  refine w0 vi127_198 rfl rfl ?_
  refine k_caret vi127_199 t176 hI hw hc0 hp rfl (fun τ199 t199 => ?_)
  have hca1 := vp_pos_in (vx σ w 20) (vx σ w 15) (σ.2 3 w)
  have hca2 := vp_pos_le (vx σ w 20) (vx σ w 15) (σ.2 3 w)
  rw [← hok.2.2.1] at hca2
  refine w0 vi127_202 rfl rfl ?_
  refine w8 vi127_203 (vwc_4 ⟨by omega, by omega⟩ ⟨by omega, by omega⟩) (fun h203 => by exfalso; omega) (fun h203 => ?_)
  refine w1 vi127_206 rfl rfl ?_
  refine w0 vi127_207 rfl rfl ?_
  refine w0 vi127_208 rfl rfl ?_
  rw [hall]
  refine k_lengthIn vi127_210 t199 hI hw hc0 hp (n := (σ.1 0 w).length) (Nat.le_refl _) rfl (fun τ210 t210 => ?_)
  rw [show vq_vw σ (σ.1 0 w) (σ.1 0 w).length (-1) 16 = vx σ w 16 from rfl]
  refine w0 vi127_213 rfl rfl ?_
  refine w8 vi127_214 (vwc_1 ⟨by omega, by omega⟩ ⟨by omega, by omega⟩) (fun h214 => by exfalso; omega) (fun h214 => ?_)
  refine w1 vi127_217 rfl rfl ?_
  refine w0 vi127_218 rfl rfl ?_
  refine w2 (0) vi127_219 (by decide) ?_
  refine k_lengthIn vi127_220 t210 hI hw hc0 hp (n := 0) (Nat.zero_le _) rfl (fun τ220 t220 => ?_)
  rw [vx_zero hI, List.length_nil]
  refine w7 vi127_223 (vwz_1 ⟨by omega, by omega⟩) (fun h223 => by exfalso; omega) (fun h223 => ?_)
  refine w1 vi127_226 rfl rfl ?_
  refine w0 vi127_227 rfl rfl ?_
  refine k_undoable vi127_228 t220 hI hw hc0 hp rfl ?_
  refine w2 (8) vi127_231 (by decide) ?_
  refine w8 vi127_233 (vwc_4 ⟨by omega, by omega⟩ ⟨by omega, by omega⟩) (fun h233 => by exfalso; omega) (fun h233 => ?_)
  refine w0 vi127_236 rfl rfl ?_
  refine w7 vi127_238 (vwz_3 ⟨by omega, by omega⟩) (fun h238 => ?_) (fun h238 => ?_)
  ·
    refine w2 (0) vi127_245 (by decide) ?_
    refine w1 vi127_246 rfl rfl ?_
    refine w0 vi127_247 rfl rfl ?_
    refine k_undoable vi127_248 t220 hI hw hc0 hp rfl ?_
    refine w7 vi127_251 (vwz_1 ⟨by omega, by omega⟩) (fun h251 => ?_) (fun h251 => ?_)
    ·
      refine w2 (0) vi127_258 (by decide) ?_
      refine w8 vi127_259 (vwc_1 ⟨by omega, by omega⟩ ⟨by omega, by omega⟩) (fun h259 => by exfalso; omega) (fun h259 => ?_)
      refine w0 vi127_262 rfl rfl ?_
      refine w7 vi127_263 (vwz_1 ⟨by omega, by omega⟩) (fun h263 => ?_) (fun h263 => ?_)
      ·
        refine w55 vi127_276 rfl rfl ?_
        refine w72 vi127_278 ?_
        have hend := vy_hsh_end hsh (by omega) hcm6 hO
        refine w57 vi127_281 ?_
        rw [hend.1, show Op.cmpValue (some .gt) .l = jI 1 by decide +kernel]
        refine w7 vi127_282 (vwz_5 ⟨by omega, by omega⟩) (fun h282 => by exfalso; omega) (fun h282 => ?_)
        refine w55 vi127_285 rfl rfl ?_
        refine w72 vi127_287 ?_
        refine w70 vi127_290 ?_
        rw [hend.2, show Op.cmpValue (some .lt) .g = jI (-1) by decide +kernel]
        refine w7 vi127_291 (vwz_3 ⟨by omega, by omega⟩) (fun h291 => by exfalso; omega) (fun h291 => ?_)
        refine w1 vi127_294 rfl rfl ?_
        refine w0 vi127_295 rfl rfl ?_
        refine w0 vi127_296 rfl rfl ?_
        refine k_missing vi127_297 t220 hI hw hc0 hp hw hc0 hp rfl ?_
        rw [hmis]
        refine w7 vi127_300 (vwz_1 ⟨by omega, by omega⟩) (fun h300 => by exfalso; omega) (fun h300 => ?_)
        refine w1 vi127_303 rfl rfl ?_
        refine w0 vi127_304 rfl rfl ?_
        refine w0 vi127_305 rfl rfl ?_
        refine k_apart vi127_306 t220 hI hw hc0 hp rfl (fun τ306 t306 => ?_)
        refine w7 vi127_309 (vwz_1 ⟨by omega, by omega⟩) (fun h309 => by exfalso; omega) (fun h309 => ?_)
        refine w1 vi127_312 rfl rfl ?_
        refine w0 vi127_313 rfl rfl ?_
        refine w0 vi127_314 rfl rfl ?_
        refine k_areAlike vi127_315 t306 hI hw hc0 hp hw hc0 hp rfl (fun _ τ315 t315 => ?_) (fun h => absurd (vy_same_refl σ w) h)
        refine w7 vi127_318 (vwz_0 ⟨by omega, by omega⟩) (fun h318 => by exfalso; omega) (fun h318 => ?_)
        refine w2 (1) vi127_321 (by decide) ?_
        refine w5 vi127_322 ?_
        refine w42b vi127_326 vm127.2.2.2 (by first | exact Or.inl rfl | exact Or.inr rfl | omega) ?_
        exact hQ τ315 t315
      ·
        refine w55 vi127_266 rfl rfl ?_
        refine w54 vi127_268 ?_
        refine w57 vi127_269 ?_
        have hs0 : share = FP.dconst0 := by
          rcases hsh with g | g
          · exact g.2
          · exfalso; omega
        rw [hs0, show Op.cmpValue (FP.dcmp FP.dconst0 FP.dconst0) .l = jI 0 by decide +kernel]
        refine w7 vi127_270 (vwz_1 ⟨by omega, by omega⟩) (fun h270 => by exfalso; omega) (fun h270 => ?_)
        refine w5 vi127_273 ?_
        refine w1 vi127_294 rfl rfl ?_
        refine w0 vi127_295 rfl rfl ?_
        refine w0 vi127_296 rfl rfl ?_
        refine k_missing vi127_297 t220 hI hw hc0 hp hw hc0 hp rfl ?_
        rw [hmis]
        refine w7 vi127_300 (vwz_1 ⟨by omega, by omega⟩) (fun h300 => by exfalso; omega) (fun h300 => ?_)
        refine w1 vi127_303 rfl rfl ?_
        refine w0 vi127_304 rfl rfl ?_
        refine w0 vi127_305 rfl rfl ?_
        refine k_apart vi127_306 t220 hI hw hc0 hp rfl (fun τ306 t306 => ?_)
        refine w7 vi127_309 (vwz_1 ⟨by omega, by omega⟩) (fun h309 => by exfalso; omega) (fun h309 => ?_)
        refine w1 vi127_312 rfl rfl ?_
        refine w0 vi127_313 rfl rfl ?_
        refine w0 vi127_314 rfl rfl ?_
        refine k_areAlike vi127_315 t306 hI hw hc0 hp hw hc0 hp rfl (fun _ τ315 t315 => ?_) (fun h => absurd (vy_same_refl σ w) h)
        refine w7 vi127_318 (vwz_0 ⟨by omega, by omega⟩) (fun h318 => by exfalso; omega) (fun h318 => ?_)
        refine w2 (1) vi127_321 (by decide) ?_
        refine w5 vi127_322 ?_
        refine w42b vi127_326 vm127.2.2.2 (by first | exact Or.inl rfl | exact Or.inr rfl | omega) ?_
        exact hQ τ315 t315
    ·
      refine w2 (1) vi127_254 (by decide) ?_
      refine w5 vi127_255 ?_
      refine w8 vi127_259 (vwc_1 ⟨by omega, by omega⟩ ⟨by omega, by omega⟩) (fun h259 => ?_) (fun h259 => by exfalso; omega)
      refine w2 (0) vi127_325 (by decide) ?_
      refine w42b vi127_326 vm127.2.2.2 (by first | exact Or.inl rfl | exact Or.inr rfl | omega) ?_
      exfalso; omega
  ·
    refine w2 (1) vi127_241 (by decide) ?_
    refine w5 vi127_242 ?_
    refine w1 vi127_246 rfl rfl ?_
    refine w0 vi127_247 rfl rfl ?_
    refine k_undoable vi127_248 t220 hI hw hc0 hp rfl ?_
    refine w7 vi127_251 (vwz_1 ⟨by omega, by omega⟩) (fun h251 => ?_) (fun h251 => ?_)
    ·
      refine w2 (0) vi127_258 (by decide) ?_
      refine w8 vi127_259 (vwc_1 ⟨by omega, by omega⟩ ⟨by omega, by omega⟩) (fun h259 => ?_) (fun h259 => by exfalso; omega)
      refine w2 (0) vi127_325 (by decide) ?_
      refine w42b vi127_326 vm127.2.2.2 (by first | exact Or.inl rfl | exact Or.inr rfl | omega) ?_
      exfalso; omega
    ·
      refine w2 (1) vi127_254 (by decide) ?_
      refine w5 vi127_255 ?_
      refine w8 vi127_259 (vwc_1 ⟨by omega, by omega⟩ ⟨by omega, by omega⟩) (fun h259 => by exfalso; omega) (fun h259 => ?_)
      refine w0 vi127_262 rfl rfl ?_
      refine w7 vi127_263 (vwz_1 ⟨by omega, by omega⟩) (fun h263 => ?_) (fun h263 => ?_)
      ·
        refine w55 vi127_276 rfl rfl ?_
        refine w72 vi127_278 ?_
        have hend := vy_hsh_end hsh (by omega) hcm6 hO
        refine w57 vi127_281 ?_
        rw [hend.1, show Op.cmpValue (some .gt) .l = jI 1 by decide +kernel]
        refine w7 vi127_282 (vwz_5 ⟨by omega, by omega⟩) (fun h282 => by exfalso; omega) (fun h282 => ?_)
        refine w55 vi127_285 rfl rfl ?_
        refine w72 vi127_287 ?_
        refine w70 vi127_290 ?_
        rw [hend.2, show Op.cmpValue (some .lt) .g = jI (-1) by decide +kernel]
        refine w7 vi127_291 (vwz_3 ⟨by omega, by omega⟩) (fun h291 => by exfalso; omega) (fun h291 => ?_)
        refine w1 vi127_294 rfl rfl ?_
        refine w0 vi127_295 rfl rfl ?_
        refine w0 vi127_296 rfl rfl ?_
        refine k_missing vi127_297 t220 hI hw hc0 hp hw hc0 hp rfl ?_
        rw [hmis]
        refine w7 vi127_300 (vwz_1 ⟨by omega, by omega⟩) (fun h300 => by exfalso; omega) (fun h300 => ?_)
        refine w1 vi127_303 rfl rfl ?_
        refine w0 vi127_304 rfl rfl ?_
        refine w0 vi127_305 rfl rfl ?_
        refine k_apart vi127_306 t220 hI hw hc0 hp rfl (fun τ306 t306 => ?_)
        refine w7 vi127_309 (vwz_1 ⟨by omega, by omega⟩) (fun h309 => by exfalso; omega) (fun h309 => ?_)
        refine w1 vi127_312 rfl rfl ?_
        refine w0 vi127_313 rfl rfl ?_
        refine w0 vi127_314 rfl rfl ?_
        refine k_areAlike vi127_315 t306 hI hw hc0 hp hw hc0 hp rfl (fun _ τ315 t315 => ?_) (fun h => absurd (vy_same_refl σ w) h)
        refine w7 vi127_318 (vwz_0 ⟨by omega, by omega⟩) (fun h318 => by exfalso; omega) (fun h318 => ?_)
        refine w2 (1) vi127_321 (by decide) ?_
        refine w5 vi127_322 ?_
        refine w42b vi127_326 vm127.2.2.2 (by first | exact Or.inl rfl | exact Or.inr rfl | omega) ?_
        exact hQ τ315 t315
      ·
        refine w55 vi127_266 rfl rfl ?_
        refine w54 vi127_268 ?_
        refine w57 vi127_269 ?_
        have hs0 : share = FP.dconst0 := by
          rcases hsh with g | g
          · exact g.2
          · exfalso; omega
        rw [hs0, show Op.cmpValue (FP.dcmp FP.dconst0 FP.dconst0) .l = jI 0 by decide +kernel]
        refine w7 vi127_270 (vwz_1 ⟨by omega, by omega⟩) (fun h270 => by exfalso; omega) (fun h270 => ?_)
        refine w5 vi127_273 ?_
        refine w1 vi127_294 rfl rfl ?_
        refine w0 vi127_295 rfl rfl ?_
        refine w0 vi127_296 rfl rfl ?_
        refine k_missing vi127_297 t220 hI hw hc0 hp hw hc0 hp rfl ?_
        rw [hmis]
        refine w7 vi127_300 (vwz_1 ⟨by omega, by omega⟩) (fun h300 => by exfalso; omega) (fun h300 => ?_)
        refine w1 vi127_303 rfl rfl ?_
        refine w0 vi127_304 rfl rfl ?_
        refine w0 vi127_305 rfl rfl ?_
        refine k_apart vi127_306 t220 hI hw hc0 hp rfl (fun τ306 t306 => ?_)
        refine w7 vi127_309 (vwz_1 ⟨by omega, by omega⟩) (fun h309 => by exfalso; omega) (fun h309 => ?_)
        refine w1 vi127_312 rfl rfl ?_
        refine w0 vi127_313 rfl rfl ?_
        refine w0 vi127_314 rfl rfl ?_
        refine k_areAlike vi127_315 t306 hI hw hc0 hp hw hc0 hp rfl (fun _ τ315 t315 => ?_) (fun h => absurd (vy_same_refl σ w) h)
        refine w7 vi127_318 (vwz_0 ⟨by omega, by omega⟩) (fun h318 => by exfalso; omega) (fun h318 => ?_)
        refine w2 (1) vi127_321 (by decide) ?_
        refine w5 vi127_322 ?_
        refine w42b vi127_326 vm127.2.2.2 (by first | exact Or.inl rfl | exact Or.inr rfl | omega) ?_
        exact hQ τ315 t315
theorem m_isSound {w : Nat} (hI : vI σ) (hw : w < 6) (hc0 : (w : Int) < σ.2 0 0) (hp : σ.2 2 w = 1) {x : Int} (hQ : ∀ σ', vw_same σ σ' → Q [.int (jI (1))] σ') : vW vw_rep L xs (127, 0, [some (.ref 8), some (.int (jI ((w : Int)))), some (.int (jI (x))), none, none, none, none, none, none], []) σ Q := by
  have hok := vx_ok hI w
  have hcc := vI_c hI
  obtain ⟨cm, hcm⟩ : ∃ cm : Nat, σ.2 0 0 = (cm : Int) := ⟨(σ.2 0 0).toNat, by omega⟩
  have hO : vy_O (fun a => vy_own σ.2 (σ.1 13 0) (vx σ w 16) (a : Int) (vx σ w 16).length) cm = (vx σ w 16).length := vy_O_own σ.2 (σ.1 13 0) (vx σ w 16) (vx σ w 16).length (fun j hj => by
    have hm := vl_at_mem (l := vx σ w 16) (z := (j : Int)) (by omega) (by omega)
    rw [hok.2.2.1] at hm
    have h15 := (hok.1 _ ((List.mem_filter.mp hm).1)).1
    have h2 := (vI_cell hI h15.1 h15.2).2
    rw [← hok.2.2.1, hcm] at h2
    exact h2)
  refine w1 vi127_0 rfl rfl ?_
  refine w0 vi127_1 rfl rfl ?_
  refine k_length vi127_2 (vw_same.refl σ) hI hw hc0 hp rfl (fun τ2 t2 => ?_)
  refine w3 (lc' := [some (.ref 8), some (.int (jI ((w : Int)))), some (.int (jI (x))), some (.int (jI (((vx σ w 16).length : Int)))), none, none, none, none, none]) vi127_5 rfl rfl ?_
  refine w2 (0) vi127_6 (by decide) ?_
  refine w3 (lc' := [some (.ref 8), some (.int (jI ((w : Int)))), some (.int (jI (x))), some (.int (jI (((vx σ w 16).length : Int)))), some (.int (jI (0))), none, none, none, none]) vi127_7 rfl rfl ?_
  refine w2 (0) vi127_9 (by decide) ?_
  refine w3 (lc' := [some (.ref 8), some (.int (jI ((w : Int)))), some (.int (jI (x))), some (.int (jI (((vx σ w 16).length : Int)))), some (.int (jI (0))), some (.int (jI (0))), none, none, none]) vi127_10 rfl rfl ?_
  refine m_is1_loop hI hw hc0 hp (fun σ1 u v7 s1 => ?_) (vx σ w 15).length 0 τ2 none none (Nat.zero_add _) t2
  refine w2 (0) vi127_86 (by decide) ?_
  refine w3 (lc' := [some (.ref 8), some (.int (jI ((w : Int)))), some (.int (jI (x))), some (.int (jI (((vx σ w 16).length : Int)))), some (.int (jI (((vx σ w 16).length : Int)))), some (.int (jI (0))), u, v7, none]) vi127_87 rfl rfl ?_
  refine w54 vi127_89 ?_
  refine w56 (lc' := [some (.ref 8), some (.int (jI ((w : Int)))), some (.int (jI (x))), some (.int (jI (((vx σ w 16).length : Int)))), some (.int (jI (((vx σ w 16).length : Int)))), some (.int (jI (0))), some (.double (FP.dconst0)), none, none]) vi127_90 rfl rfl ?_
  refine w2 (0) vi127_92 (by decide) ?_
  refine w3 (lc' := [some (.ref 8), some (.int (jI ((w : Int)))), some (.int (jI (x))), some (.int (jI (((vx σ w 16).length : Int)))), some (.int (jI (((vx σ w 16).length : Int)))), some (.int (jI (0))), some (.double (FP.dconst0)), none, some (.int (jI (0)))]) vi127_93 rfl rfl ?_
  exact m_is2_loop hI hw hc0 hp hcm (by omega) hok.2.2.2 hO (fun σ2 share s2 hsh => m_is3 hI hw hc0 hp hcm (by omega) hok.2.2.2 hO hQ s2 hsh) cm 0 σ1 FP.dconst0 (Nat.zero_add _) s1 (vy_hsh0 _ _)
theorem c_isSound (hc : vt_code k pc = (29, 127, b, c)) {w : Nat} (hI : vI σ) (hw : w < 6) (hc0 : (w : Int) < σ.2 0 0) (hp : σ.2 2 w = 1) {x : Int} (hs : Nat.ble (vj_cat sc) 8 = true) (hQ : ∀ σ', vw_same σ σ' → vW vw_rep L xs (k, pc + 3, lc, .int (jI (1)) :: sc) σ' Q) : vW vw_rep L xs (k, pc, lc, .int (jI (x)) :: .int (jI ((w : Int))) :: .ref 8 :: sc) σ Q := by
  refine w29 (n := 3) (vs := [.int (jI (x)), .int (jI ((w : Int))), .ref 8]) hc vm127.2.1 rfl (by rw [vm127.2.2.1]; rfl) hs (by simp only [List.length_cons]; omega) ?_
  rw [vm127.2.2.1]
  exact m_isSound hI hw hc0 hp (Q := fun v σ1 => vW vw_rep L xs (k, pc + 3, lc, v ++ sc) σ1 Q) hQ
end VW27
