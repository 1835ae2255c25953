/-! ===== the law: the acts, and what is asked behind them ===== -/
section VW29
theorem lg_same (x : Int64) : lg_cmp x x = jI 0 := by
  unfold lg_cmp
  rw [if_neg (Int64.lt_irrefl (a := x)), if_pos rfl]
  rfl
theorem vI_ex {σ : vw_S} (hI : vI σ) : ∃ cm : Nat, σ.2 0 0 = (cm : Int) ∧ 1 ≤ cm ∧ cm ≤ 6 ∧ ∃ i : Nat, i < cm ∧ σ.2 2 i = 1 := by
  have hc := vI_c hI
  obtain ⟨i, hi, hp⟩ := hI.1.2.2.2.1.2
  have h2 := hI.1.2.2.2.1.1 i hi hp
  exact ⟨(σ.2 0 0).toNat, by omega, by omega, by omega, i, by omega, hp⟩
variable {L : Nat} {xs : Nat → Int32} {σ σ1 : vw_S} {Q : List Value → vw_S → Prop} {k pc a b c kk i : Nat} {lc : List (Option Value)} {sc : List Value}
theorem m_lawA {v5 v6 v7 : Option Value} (hL : L ≤ 1000) (hQ : ∀ (σ : vw_S) (u3 u4 : Option Value), vI σ → vW vw_rep L xs (128, 109, [some (.ref 0), some (.ref 8), some (.int (jI ((70 : Nat)))), u3, u4, v5, v6, v7], []) σ Q) : ∀ (e k : Nat) (σ : vw_S) (u3 u4 : Option Value), k + e = 70 → vI σ → vW vw_rep L xs (128, 10, [some (.ref 0), some (.ref 8), some (.int (jI ((k : Int)))), u3, u4, v5, v6, v7], []) σ Q := by
  intro e
  induction e with
  | zero =>
    intro k σ u3 u4 hk hI
    refine w0 vi128_10 rfl rfl ?_
    refine w2 (70) vi128_11 (by decide) ?_
    refine w8 vi128_13 (vwc_3 ⟨by omega, by omega⟩ ⟨by omega, by omega⟩) (fun h13 => ?_) (fun h13 => by exfalso; omega)
    rw [show k = 70 by omega]
    exact hQ σ u3 u4 hI
  | succ e ih =>
    intro k σ u3 u4 hk hI
    refine w0 vi128_10 rfl rfl ?_
    refine w2 (70) vi128_11 (by decide) ?_
    refine w8 vi128_13 (vwc_3 ⟨by omega, by omega⟩ ⟨by omega, by omega⟩) (fun h13 => by exfalso; omega) (fun h13 => ?_)
    refine w1 vi128_16 rfl rfl ?_
    refine w0 vi128_17 rfl rfl ?_
    refine w2 (15) vi128_18 (by decide) ?_
    refine w13 vi128_20 (by omega) ⟨by omega, by omega⟩ (by omega) ⟨by omega, by omega⟩ ?_
    rw [show (k : Int) % 15 = ((k % 15 : Nat) : Int) by omega]
    refine c_cell vi128_21 (n := k % 15) (by omega) hL rfl (fun zc21 _ _ => ?_)
    refine w0 vi128_24 rfl rfl ?_
    refine w2 (15) vi128_25 (by decide) ?_
    refine w64 vi128_27 (by omega) ⟨by omega, by omega⟩ (by omega) ⟨by omega, by omega⟩ ?_
    refine w2 (5) vi128_28 (by decide) ?_
    refine w11 vi128_29 ?_
    refine r_shr vi128_30 (fun s30 _ _ => ?_)
    refine w3 (lc' := [some (.ref 0), some (.ref 8), some (.int (jI ((k : Int)))), some (.int (jI (s30))), u4, v5, v6, v7]) vi128_31 rfl rfl ?_
    refine w1 vi128_32 rfl rfl ?_
    refine w0 vi128_33 rfl rfl ?_
    refine w2 (4) vi128_34 (by decide) ?_
    refine w9 vi128_35 ?_
    refine w2 (16) vi128_36 (by decide) ?_
    refine w13 vi128_38 (by omega) ⟨by omega, by omega⟩ (by omega) ⟨by omega, by omega⟩ ?_
    rw [show ((k : Int) + 4) % 16 = (((k + 4) % 16 : Nat) : Int) by omega]
    refine c_cell vi128_39 (n := (k + 4) % 16) (by omega) hL rfl (fun zc39 _ _ => ?_)
    refine w0 vi128_42 rfl rfl ?_
    refine w2 (16) vi128_43 (by decide) ?_
    refine w64 vi128_45 (by omega) ⟨by omega, by omega⟩ (by omega) ⟨by omega, by omega⟩ ?_
    refine w2 (4) vi128_46 (by decide) ?_
    refine w11 vi128_47 ?_
    refine r_shr vi128_48 (fun s48 _ _ => ?_)
    refine w3 (lc' := [some (.ref 0), some (.ref 8), some (.int (jI ((k : Int)))), some (.int (jI (s30))), some (.int (jI (s48))), v5, v6, v7]) vi128_49 rfl rfl ?_
    refine w1 vi128_51 rfl rfl ?_
    refine w0 vi128_52 rfl rfl ?_
    refine w7 vi128_53 (vwz_1 ⟨by omega, by omega⟩) (fun h53 => ?_) (fun h53 => ?_)
    ·
      refine w0 vi128_62 rfl rfl ?_
      refine w0 vi128_63 rfl rfl ?_
      refine w7 vi128_64 (vwz_1 ⟨by omega, by omega⟩) (fun h64 => ?_) (fun h64 => by exfalso; omega)
      refine w0 vi128_73 rfl rfl ?_
      refine c_act vi128_75 hI rfl (fun σ2 hI2 => ?_)
      refine w0 vi128_78 rfl rfl ?_
      refine w2 (10) vi128_79 (by decide) ?_
      refine w13 vi128_81 (by omega) ⟨by omega, by omega⟩ (by omega) ⟨by omega, by omega⟩ ?_
      refine w2 (9) vi128_82 (by decide) ?_
      refine w8 vi128_84 (vwc_1 ⟨by omega, by omega⟩ ⟨by omega, by omega⟩) (fun h84 => ?_) (fun h84 => ?_)
      ·
        refine w6 (lc' := [some (.ref 0), some (.ref 8), some (.int (jI ((k : Int) + 1))), some (.int (jI (s30))), some (.int (jI (s48))), v5, v6, v7]) (1) vi128_103 rfl (by decide) rfl ?_
        refine w5 vi128_106 ?_
        exact ih (k + 1) σ2 _ _ (by omega) hI2
      ·
        refine w1 vi128_87 rfl rfl ?_
        refine w1 vi128_88 rfl rfl ?_
        refine w0 vi128_89 rfl rfl ?_
        obtain ⟨cm, hcm, hcm1, hcm6, hex⟩ := vI_ex hI2
        refine c_writer vi128_91 hcm hcm1 hcm6 hex rfl (fun w wc wp => ?_)
        refine w0 vi128_94 rfl rfl ?_
        refine k_isSound vi128_95 (vw_same.refl σ2) hI2 (by omega) (by omega) wp rfl (fun σ3 s3 => ?_)
        refine w7 vi128_98 (vwz_1 ⟨by omega, by omega⟩) (fun h98 => ?_) (fun h98 => by exfalso; omega)
        refine w6 (lc' := [some (.ref 0), some (.ref 8), some (.int (jI ((k : Int) + 1))), some (.int (jI (s30))), some (.int (jI (s48))), v5, v6, v7]) (1) vi128_103 rfl (by decide) rfl ?_
        refine w5 vi128_106 ?_
        exact ih (k + 1) σ3 _ _ (by omega) (vI_same hI2 s3)
    ·
      refine w2 (136) vi128_56 (by decide) ?_
      refine w5 vi128_59 ?_
      refine w0 vi128_63 rfl rfl ?_
      refine w7 vi128_64 (vwz_1 ⟨by omega, by omega⟩) (fun h64 => by exfalso; omega) (fun h64 => ?_)
      refine w2 (128) vi128_67 (by decide) ?_
      refine w5 vi128_70 ?_
      refine c_act vi128_75 hI rfl (fun σ2 hI2 => ?_)
      refine w0 vi128_78 rfl rfl ?_
      refine w2 (10) vi128_79 (by decide) ?_
      refine w13 vi128_81 (by omega) ⟨by omega, by omega⟩ (by omega) ⟨by omega, by omega⟩ ?_
      refine w2 (9) vi128_82 (by decide) ?_
      refine w8 vi128_84 (vwc_1 ⟨by omega, by omega⟩ ⟨by omega, by omega⟩) (fun h84 => ?_) (fun h84 => ?_)
      ·
        refine w6 (lc' := [some (.ref 0), some (.ref 8), some (.int (jI ((k : Int) + 1))), some (.int (jI (s30))), some (.int (jI (s48))), v5, v6, v7]) (1) vi128_103 rfl (by decide) rfl ?_
        refine w5 vi128_106 ?_
        exact ih (k + 1) σ2 _ _ (by omega) hI2
      ·
        refine w1 vi128_87 rfl rfl ?_
        refine w1 vi128_88 rfl rfl ?_
        refine w0 vi128_89 rfl rfl ?_
        obtain ⟨cm, hcm, hcm1, hcm6, hex⟩ := vI_ex hI2
        refine c_writer vi128_91 hcm hcm1 hcm6 hex rfl (fun w wc wp => ?_)
        refine w0 vi128_94 rfl rfl ?_
        refine k_isSound vi128_95 (vw_same.refl σ2) hI2 (by omega) (by omega) wp rfl (fun σ3 s3 => ?_)
        refine w7 vi128_98 (vwz_1 ⟨by omega, by omega⟩) (fun h98 => ?_) (fun h98 => by exfalso; omega)
        refine w6 (lc' := [some (.ref 0), some (.ref 8), some (.int (jI ((k : Int) + 1))), some (.int (jI (s30))), some (.int (jI (s48))), v5, v6, v7]) (1) vi128_103 rfl (by decide) rfl ?_
        refine w5 vi128_106 ?_
        exact ih (k + 1) σ3 _ _ (by omega) (vI_same hI2 s3)
theorem m_lawO {w cm : Nat} {v7 : Option Value} (hI : vI σ) (hcm : σ.2 0 0 = (cm : Int)) (hcm6 : cm ≤ 6) (hw : w < cm) (hp : σ.2 2 w = 1) (hQ : ∀ σ1, vw_same σ σ1 → vW vw_rep L xs (128, 254, [some (.ref 0), some (.ref 8), some (.long (vg_d σ)), none, some (.int (jI (vy_all σ))), some (.int (jI ((w : Int)))), some (.int (jI ((cm : Int)))), v7], []) σ1 Q) : ∀ (e o : Nat) (σ1 : vw_S), o + e = cm → vw_same σ σ1 → vW vw_rep L xs (128, 180, [some (.ref 0), some (.ref 8), some (.long (vg_d σ)), none, some (.int (jI (vy_all σ))), some (.int (jI ((w : Int)))), some (.int (jI ((o : Int)))), v7], []) σ1 Q := by
  intro e
  induction e with
  | zero =>
    intro o σ1 ho s1
    refine w0 vi128_180 rfl rfl ?_
    refine w1 vi128_182 rfl rfl ?_
    refine k_writers vi128_183 s1 hI rfl ?_
    refine w8 vi128_186 (vwc_3 ⟨by omega, by omega⟩ ⟨by omega, by omega⟩) (fun h186 => ?_) (fun h186 => by exfalso; omega)
    rw [show o = cm by omega]
    exact hQ σ1 s1
  | succ e ih =>
    intro o σ1 ho s1
    refine w0 vi128_180 rfl rfl ?_
    refine w1 vi128_182 rfl rfl ?_
    refine k_writers vi128_183 s1 hI rfl ?_
    refine w8 vi128_186 (vwc_3 ⟨by omega, by omega⟩ ⟨by omega, by omega⟩) (fun h186 => by exfalso; omega) (fun h186 => ?_)
    refine w1 vi128_189 rfl rfl ?_
    refine w0 vi128_190 rfl rfl ?_
    refine k_isPresent vi128_192 s1 (w := o) (by omega) rfl (fun hb192 => ?_) (fun hb192 => ?_)
    ·
      refine w7 vi128_195 (vwz_0 ⟨by omega, by omega⟩) (fun h195 => by exfalso; omega) (fun h195 => ?_)
      refine w1 vi128_198 rfl rfl ?_
      refine w0 vi128_199 rfl rfl ?_
      refine w0 vi128_201 rfl rfl ?_
      have hbr203 := (vk_bey_in (vI_he hI w (by omega)) (vI_he hI o (by omega)) 6 (Nat.le_refl _)).1
      refine k_missing vi128_203 s1 hI (w := w) (o := o) (by omega) (by omega) hp (by omega) (by omega) hb192 rfl ?_
      refine w7 vi128_206 (vwz_1 ⟨by omega, by omega⟩) (fun h206 => ?_) (fun h206 => ?_)
      ·
        refine w6 (lc' := [some (.ref 0), some (.ref 8), some (.long (vg_d σ)), none, some (.int (jI (vy_all σ))), some (.int (jI ((w : Int)))), some (.int (jI ((o : Int) + 1))), v7]) (1) vi128_248 rfl (by decide) rfl ?_
        refine w5 vi128_251 ?_
        exact ih (o + 1) σ1 (by omega) s1
      ·
        refine w1 vi128_209 rfl rfl ?_
        refine w0 vi128_210 rfl rfl ?_
        refine w0 vi128_212 rfl rfl ?_
        have hbr214 := (vk_bey_in (vI_he hI o (by omega)) (vI_he hI w (by omega)) 6 (Nat.le_refl _)).1
        refine k_missing vi128_214 s1 hI (w := o) (o := w) (by omega) (by omega) hb192 (by omega) (by omega) hp rfl ?_
        refine w7 vi128_217 (vwz_1 ⟨by omega, by omega⟩) (fun h217 => ?_) (fun h217 => ?_)
        ·
          refine w6 (lc' := [some (.ref 0), some (.ref 8), some (.long (vg_d σ)), none, some (.int (jI (vy_all σ))), some (.int (jI ((w : Int)))), some (.int (jI ((o : Int) + 1))), v7]) (1) vi128_248 rfl (by decide) rfl ?_
          refine w5 vi128_251 ?_
          exact ih (o + 1) σ1 (by omega) s1
        ·
          refine w1 vi128_220 rfl rfl ?_
          refine w0 vi128_221 rfl rfl ?_
          refine w0 vi128_223 rfl rfl ?_
          have hxx : vx σ w = vx σ o := vx_bey hI (by omega) (by omega) (by omega) (by omega)
          have hlen : (vx σ w 16).length = (vx σ o 16).length := by rw [hxx]
          have hl7 := vq_len hI (σ.1 0 w) (σ.1 0 w).length (-1)
          have hl7 : (vx σ w 16).length ≤ 720 := hl7
          refine k_areAlike vi128_225 s1 hI (w := w) (o := o) (by omega) (by omega) hp (by omega) (by omega) hb192 rfl (fun _ τ225 t225 => ?_) (fun h => absurd (vy_same_of hxx) h)
          refine w7 vi128_228 (vwz_0 ⟨by omega, by omega⟩) (fun h228 => by exfalso; omega) (fun h228 => ?_)
          refine w1 vi128_231 rfl rfl ?_
          refine w0 vi128_232 rfl rfl ?_
          refine k_length vi128_234 t225 hI (w := w) (by omega) (by omega) hp rfl (fun τ234 t234 => ?_)
          refine w1 vi128_237 rfl rfl ?_
          refine w0 vi128_238 rfl rfl ?_
          refine k_length vi128_240 t234 hI (w := o) (by omega) (by omega) hb192 rfl (fun τ240 t240 => ?_)
          refine w8 vi128_243 (vwc_0 ⟨by omega, by omega⟩ ⟨by omega, by omega⟩) (fun h243 => ?_) (fun h243 => by exfalso; omega)
          refine w6 (lc' := [some (.ref 0), some (.ref 8), some (.long (vg_d σ)), none, some (.int (jI (vy_all σ))), some (.int (jI ((w : Int)))), some (.int (jI ((o : Int) + 1))), v7]) (1) vi128_248 rfl (by decide) rfl ?_
          refine w5 vi128_251 ?_
          exact ih (o + 1) τ240 (by omega) t240
    ·
      refine w7 vi128_195 (vwz_0 ⟨by omega, by omega⟩) (fun h195 => ?_) (fun h195 => by exfalso; omega)
      refine w6 (lc' := [some (.ref 0), some (.ref 8), some (.long (vg_d σ)), none, some (.int (jI (vy_all σ))), some (.int (jI ((w : Int)))), some (.int (jI ((o : Int) + 1))), v7]) (1) vi128_248 rfl (by decide) rfl ?_
      refine w5 vi128_251 ?_
      exact ih (o + 1) σ1 (by omega) s1
theorem m_lawW {cm : Nat} {v7 : Option Value} (hI : vI σ) (hcm : σ.2 0 0 = (cm : Int)) (hcm6 : cm ≤ 6) (hex : ∃ i : Nat, i < cm ∧ σ.2 2 i = 1) (hQ : ∀ (σ1 : vw_S) (u6 : Option Value), vw_same σ σ1 → vW vw_rep L xs (128, 260, [some (.ref 0), some (.ref 8), some (.long (vg_d σ)), none, some (.int (jI (vy_all σ))), some (.int (jI ((cm : Int)))), u6, v7], []) σ1 Q) : ∀ (e w : Nat) (σ1 : vw_S) (f : Int) (u6 : Option Value), w + e = cm → vw_same σ σ1 → (f = -1 ∨ f = vy_all σ) → (f = -1 → ∀ i : Nat, i < w → ¬ σ.2 2 i = 1) → vW vw_rep L xs (128, 120, [some (.ref 0), some (.ref 8), some (.long (vg_d σ)), none, some (.int (jI (f))), some (.int (jI ((w : Int)))), u6, v7], []) σ1 Q := by
  have hva := vy_all_in hI
  intro e
  induction e with
  | zero =>
    intro w σ1 f u6 hw s1 hf hff
    refine w0 vi128_120 rfl rfl ?_
    refine w1 vi128_122 rfl rfl ?_
    refine k_writers vi128_123 s1 hI rfl ?_
    refine w8 vi128_126 (vwc_3 ⟨by omega, by omega⟩ ⟨by omega, by omega⟩) (fun h126 => ?_) (fun h126 => by exfalso; omega)
    have e2 : f = vy_all σ := by
      rcases hf with g | g
      · obtain ⟨i, hi, hp⟩ := hex
        exact absurd hp (hff g i (by omega))
      · exact g
    rw [e2, show w = cm by omega]
    exact hQ σ1 u6 s1
  | succ e ih =>
    intro w σ1 f u6 hw s1 hf hff
    refine w0 vi128_120 rfl rfl ?_
    refine w1 vi128_122 rfl rfl ?_
    refine k_writers vi128_123 s1 hI rfl ?_
    refine w8 vi128_126 (vwc_3 ⟨by omega, by omega⟩ ⟨by omega, by omega⟩) (fun h126 => by exfalso; omega) (fun h126 => ?_)
    refine w1 vi128_129 rfl rfl ?_
    refine w0 vi128_130 rfl rfl ?_
    refine k_isPresent vi128_132 s1 (w := w) (by omega) rfl (fun hb132 => ?_) (fun hb132 => ?_)
    ·
      refine w7 vi128_135 (vwz_1 ⟨by omega, by omega⟩) (fun h135 => ?_) (fun h135 => by exfalso; omega)
      refine w1 vi128_141 rfl rfl ?_
      refine w0 vi128_142 rfl rfl ?_
      refine w2 (0) vi128_144 (by decide) ?_
      refine k_isSound vi128_145 s1 hI (by omega) (by omega) hb132 rfl (fun τ145 t145 => ?_)
      refine w7 vi128_148 (vwz_0 ⟨by omega, by omega⟩) (fun h148 => by exfalso; omega) (fun h148 => ?_)
      refine w0 vi128_151 rfl rfl ?_
      refine w7 vi128_153 (vwz_2 ⟨by omega, by omega⟩) (fun h153 => ?_) (fun h153 => ?_)
      ·
        refine w1 vi128_169 rfl rfl ?_
        refine w0 vi128_170 rfl rfl ?_
        refine k_lengthOfAll vi128_172 t145 hI (by omega) (by omega) hb132 rfl (fun τ172 t172 => ?_)
        refine w3 (lc' := [some (.ref 0), some (.ref 8), some (.long (vg_d σ)), none, some (.int (jI (vy_all σ))), some (.int (jI ((w : Int)))), u6, v7]) vi128_175 rfl rfl ?_
        refine w2 (0) vi128_177 (by decide) ?_
        refine w3 (lc' := [some (.ref 0), some (.ref 8), some (.long (vg_d σ)), none, some (.int (jI (vy_all σ))), some (.int (jI ((w : Int)))), some (.int (jI (0))), v7]) vi128_178 rfl rfl ?_
        refine m_lawO hI hcm hcm6 (by omega) hb132 (fun σ2 s2 => ?_) cm 0 τ172 (Nat.zero_add _) t172
        refine w6 (1) vi128_254 rfl (by decide) rfl ?_
        refine w5 vi128_257 ?_
        exact ih (w + 1) σ2 (vy_all σ) _ (by omega) s2 (Or.inr rfl) (fun hf1 => absurd hf1 (by omega))
      ·
        refine w1 vi128_156 rfl rfl ?_
        refine w0 vi128_157 rfl rfl ?_
        refine k_lengthOfAll vi128_159 t145 hI (by omega) (by omega) hb132 rfl (fun τ159 t159 => ?_)
        refine w0 vi128_162 rfl rfl ?_
        refine w8 vi128_164 (vwc_0 ⟨by omega, by omega⟩ ⟨by omega, by omega⟩) (fun h164 => ?_) (fun h164 => by exfalso; omega)
        refine w1 vi128_169 rfl rfl ?_
        refine w0 vi128_170 rfl rfl ?_
        refine k_lengthOfAll vi128_172 t159 hI (by omega) (by omega) hb132 rfl (fun τ172 t172 => ?_)
        refine w3 (lc' := [some (.ref 0), some (.ref 8), some (.long (vg_d σ)), none, some (.int (jI (vy_all σ))), some (.int (jI ((w : Int)))), u6, v7]) vi128_175 rfl rfl ?_
        refine w2 (0) vi128_177 (by decide) ?_
        refine w3 (lc' := [some (.ref 0), some (.ref 8), some (.long (vg_d σ)), none, some (.int (jI (vy_all σ))), some (.int (jI ((w : Int)))), some (.int (jI (0))), v7]) vi128_178 rfl rfl ?_
        refine m_lawO hI hcm hcm6 (by omega) hb132 (fun σ2 s2 => ?_) cm 0 τ172 (Nat.zero_add _) t172
        refine w6 (1) vi128_254 rfl (by decide) rfl ?_
        refine w5 vi128_257 ?_
        exact ih (w + 1) σ2 (vy_all σ) _ (by omega) s2 (Or.inr rfl) (fun hf1 => absurd hf1 (by omega))
    ·
      refine w7 vi128_135 (vwz_1 ⟨by omega, by omega⟩) (fun h135 => by exfalso; omega) (fun h135 => ?_)
      refine w5 vi128_138 ?_
      refine w6 (lc' := [some (.ref 0), some (.ref 8), some (.long (vg_d σ)), none, some (.int (jI (f))), some (.int (jI ((w : Int) + 1))), u6, v7]) (1) vi128_254 rfl (by decide) rfl ?_
      refine w5 vi128_257 ?_
      refine ih (w + 1) σ1 f u6 (by omega) s1 hf (fun hf1 i hi => ?_)
      by_cases e2 : i = w
      · subst e2; exact hb132
      · exact hff hf1 i (by omega)
theorem m_lawC {cm : Nat} {v7 : Option Value} (hI : vI σ) {u6 : Option Value} (s1 : vw_same σ σ1) (hQ : ∀ σ1, vw_same σ σ1 → vW vw_rep L xs (128, 281, [some (.ref 0), some (.ref 8), some (.long (vg_d σ)), none, some (.int (jI (vy_all σ))), some (.int (jI (1))), u6, v7], []) σ1 Q) : vW vw_rep L xs (128, 260, [some (.ref 0), some (.ref 8), some (.long (vg_d σ)), none, some (.int (jI (vy_all σ))), some (.int (jI ((cm : Int)))), u6, v7], []) σ1 Q := by
  refine w1 vi128_260 rfl rfl ?_
  refine k_digest vi128_261 s1 hI rfl (fun τ261 t261 => ?_)
  refine w52 vi128_264 rfl rfl ?_
  refine w50 vi128_265 ?_
  rw [lg_same]
  refine w7 vi128_266 (vwz_1 ⟨by omega, by omega⟩) (fun h266 => by exfalso; omega) (fun h266 => ?_)
  refine w1 vi128_269 rfl rfl ?_
  refine k_flaws vi128_270 t261 hI rfl ?_
  refine w7 vi128_273 (vwz_0 ⟨by omega, by omega⟩) (fun h273 => ?_) (fun h273 => by exfalso; omega)
  refine w2 (1) vi128_278 (by decide) ?_
  refine w3 (lc' := [some (.ref 0), some (.ref 8), some (.long (vg_d σ)), none, some (.int (jI (vy_all σ))), some (.int (jI (1))), u6, v7]) vi128_279 rfl rfl ?_
  exact hQ τ261 t261
theorem m_lawB {v5 v6 v7 : Option Value} (hI : vI σ) {u3 u4 : Option Value} (hQ : ∀ (σ1 : vw_S) (u6 : Option Value), vw_same σ σ1 → vW vw_rep L xs (128, 281, [some (.ref 0), some (.ref 8), some (.long (vg_d σ)), none, some (.int (jI (vy_all σ))), some (.int (jI (1))), u6, v7], []) σ1 Q) : vW vw_rep L xs (128, 109, [some (.ref 0), some (.ref 8), some (.int (jI ((70 : Nat)))), u3, u4, v5, v6, v7], []) σ Q := by
  obtain ⟨cm, hcm, hcm1, hcm6, hex⟩ := vI_ex hI
  refine w1 vi128_109 rfl rfl ?_
  refine k_digest vi128_110 (vw_same.refl σ) hI rfl (fun τ110 t110 => ?_)
  refine w53 (lc' := [some (.ref 0), some (.ref 8), some (.long (vg_d σ)), none, u4, v5, v6, v7]) vi128_113 rfl rfl ?_
  refine w2 (-1) vi128_114 (by decide) ?_
  refine w3 (lc' := [some (.ref 0), some (.ref 8), some (.long (vg_d σ)), none, some (.int (jI ((-1)))), v5, v6, v7]) vi128_115 rfl rfl ?_
  refine w2 (0) vi128_117 (by decide) ?_
  refine w3 (lc' := [some (.ref 0), some (.ref 8), some (.long (vg_d σ)), none, some (.int (jI ((-1)))), some (.int (jI (0))), v6, v7]) vi128_118 rfl rfl ?_
  exact m_lawW hI hcm hcm6 hex (fun σ2 u6 s2 => m_lawC hI s2 (fun σ3 s3 => hQ σ3 u6 s3)) cm 0 τ110 (-1) v6 (Nat.zero_add _) t110 (Or.inl rfl) (fun _ i hi => absurd hi (Nat.not_lt_zero _))
end VW29
