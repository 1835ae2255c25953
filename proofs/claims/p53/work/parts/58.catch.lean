/-! ===== the law: all catch up with all ===== -/
section VW30
def vT0 (σ : vw_S) : Nat := (σ.1 0 0).length + (σ.1 0 1).length + (σ.1 0 2).length + (σ.1 0 3).length + (σ.1 0 4).length + (σ.1 0 5).length
def vD (σ0 σ : vw_S) : Prop := vI σ ∧ σ.2 = σ0.2 ∧ ∀ k, ¬ vw_sc k → ¬ (k = 0 ∨ k = 1 ∨ k = 2 ∨ k = 9) → σ.1 k = σ0.1 k
def vDn (σ : vw_S) (D : Nat → Nat → Prop) : Prop := ∀ a b : Nat, a < 6 → b < 6 → D a b → ¬ a = b → σ.2 2 a = 1 → σ.2 2 b = 1 → ∀ j d : Nat, (σ.1 0 a)[j]? = some (d : Int) → vk_kn σ b d
def vP (σ0 σs : vw_S) (t : Nat) (D : Nat → Nat → Prop) (σ : vw_S) : Prop := vD σ0 σ ∧ vT0 σ = vT0 σs + t ∧ (t = 0 → σ.1 0 = σs.1 0 ∧ σ.1 1 = σs.1 1 ∧ vDn σs D)
theorem vT0_le {σ : vw_S} (hI : vI σ) : vT0 σ ≤ 720 := by
  have hn := vI_n hI
  have h0 := vK_len hI.1.1 (show 0 < 6 by decide)
  have h1 := vK_len hI.1.1 (show 1 < 6 by decide)
  have h2 := vK_len hI.1.1 (show 2 < 6 by decide)
  have h3 := vK_len hI.1.1 (show 3 < 6 by decide)
  have h4 := vK_len hI.1.1 (show 4 < 6 by decide)
  have h5 := vK_len hI.1.1 (show 5 < 6 by decide)
  unfold vT0
  omega
theorem vT0_LS {σ σ' : vw_S} {o z : Nat} (ho : o < 6) (h : vLS σ o σ' z) : vT0 σ' = vT0 σ + z := by
  have hl := h.2.2.2.1
  have hj : ∀ j, ¬ j = o → σ'.1 0 j = σ.1 0 j := fun j q => h.2.1 0 j (by omega)
  unfold vT0
  rcases (show o = 0 ∨ o = 1 ∨ o = 2 ∨ o = 3 ∨ o = 4 ∨ o = 5 by omega) with e | e | e | e | e | e
  · subst e; rw [hj 1 (by omega), hj 2 (by omega), hj 3 (by omega), hj 4 (by omega), hj 5 (by omega)]; omega
  · subst e; rw [hj 0 (by omega), hj 2 (by omega), hj 3 (by omega), hj 4 (by omega), hj 5 (by omega)]; omega
  · subst e; rw [hj 0 (by omega), hj 1 (by omega), hj 3 (by omega), hj 4 (by omega), hj 5 (by omega)]; omega
  · subst e; rw [hj 0 (by omega), hj 1 (by omega), hj 2 (by omega), hj 4 (by omega), hj 5 (by omega)]; omega
  · subst e; rw [hj 0 (by omega), hj 1 (by omega), hj 2 (by omega), hj 3 (by omega), hj 5 (by omega)]; omega
  · subst e; rw [hj 0 (by omega), hj 1 (by omega), hj 2 (by omega), hj 3 (by omega), hj 4 (by omega)]; omega
theorem vP.weak {σ0 σs σ : vw_S} {t : Nat} {D D' : Nat → Nat → Prop} (h : vP σ0 σs t D σ) (g : ∀ a b : Nat, a < 6 → b < 6 → ¬ a = b → σs.2 2 a = 1 → σs.2 2 b = 1 → D' a b → D a b) : vP σ0 σs t D' σ :=
  ⟨h.1, h.2.1, fun q => ⟨(h.2.2 q).1, (h.2.2 q).2.1, fun a b ha hb hd hne pa pb => (h.2.2 q).2.2 a b ha hb (g a b ha hb hne pa pb hd) hne pa pb⟩⟩
theorem vP.cut {σ0 σs σ σ' : vw_S} {t : Nat} {D : Nat → Nat → Prop} (h : vP σ0 σs t D σ) (hI : vI σ') (h2 : σ'.2 = σ.2) (hr : ∀ k, ¬ k = 9 → σ'.1 k = σ.1 k) : vP σ0 σs t D σ' := by
  obtain ⟨⟨d1, d2, d3⟩, p2, p3⟩ := h
  refine ⟨⟨hI, h2.trans d2, fun k q g => (hr k (by omega)).trans (d3 k q g)⟩, ?_, fun q => ?_⟩
  · rw [← p2]; unfold vT0; rw [hr 0 (by omega)]
  · rw [hr 0 (by omega), hr 1 (by omega)]; exact p3 q
theorem vP.catch {σ0 σs σ σ' : vw_S} {t z w o : Nat} {D : Nat → Nat → Prop} (h : vP σ0 σs t D σ) (hs : σs.2 = σ0.2) (ho : o < 6) (hI : vI σ') (hS : vLS σ o σ' z) (hz : z = 0 → ∀ j d : Nat, (σ.1 0 w)[j]? = some (d : Int) → vk_kn σ' o d) : vP σ0 σs (t + z) (fun a b => D a b ∨ (a = w ∧ b = o)) σ' := by
  obtain ⟨⟨d1, d2, d3⟩, p2, p3⟩ := h
  have hr : ∀ k', ¬ k' < 3 → σ'.1 k' = σ.1 k' := fun k' q => funext fun j => hS.2.1 k' j (by omega)
  refine ⟨⟨hI, hS.1.trans d2, fun k q g => (hr k (by omega)).trans (d3 k q g)⟩, ?_, fun q => ?_⟩
  · rw [vT0_LS ho hS, p2]; omega
  · obtain ⟨q0, q1, q2⟩ := p3 (by omega)
    obtain ⟨y0, y1⟩ := hS.2.2.2.2.2 (by omega)
    have e0 : σ'.1 0 = σ.1 0 := funext fun j => by
      by_cases e : j = o
      · rw [e]; exact y0
      · exact hS.2.1 0 j (by omega)
    have e1 : σ'.1 1 = σ.1 1 := funext fun j => by
      by_cases e : j = o
      · rw [e]; exact y1
      · exact hS.2.1 1 j (by omega)
    refine ⟨e0.trans q0, e1.trans q1, fun a b ha hb hd hne pa pb j d hj => ?_⟩
    rcases hd with hd | ⟨g1, g2⟩
    · exact q2 a b ha hb hd hne pa pb j d hj
    · subst g1; subst g2
      have g := hz (by omega) j d (by rw [q0]; exact hj)
      unfold vk_kn at g ⊢
      rw [hS.1, d2, ← hs, e1, q1] at g
      exact g
variable {L : Nat} {xs : Nat → Int32} {σ0 σs : vw_S} {Q : List Value → vw_S → Prop}
theorem m_lawI {S : Int64} {F : Int} {cm : Nat} (hs : σs.2 = σ0.2) (hcm : σ0.2 0 0 = (cm : Int)) (hcm6 : cm ≤ 6) {w : Nat} (hw : w < cm) (hQ : ∀ (σ : vw_S) (t : Nat), vP σ0 σs t (fun a b => a < w + 1) σ → vW vw_rep L xs (128, 384, [some (.ref 0), some (.ref 8), some (.long (S)), none, some (.int (jI (F))), some (.int (jI ((t : Int)))), some (.int (jI ((w : Int)))), some (.int (jI ((cm : Int))))], []) σ Q) : ∀ (e o : Nat) (σ1 : vw_S) (t : Nat), o + e = cm → vP σ0 σs t (fun a b => a < w ∨ (a = w ∧ b < o)) σ1 → vW vw_rep L xs (128, 304, [some (.ref 0), some (.ref 8), some (.long (S)), none, some (.int (jI (F))), some (.int (jI ((t : Int)))), some (.int (jI ((w : Int)))), some (.int (jI ((o : Int))))], []) σ1 Q := by
  intro e
  induction e with
  | zero =>
    intro o σ1 t ho hP
    refine w0 vi128_304 rfl rfl ?_
    refine w1 vi128_306 rfl rfl ?_
    refine c_writersR (z := (cm : Int)) vi128_307 (by rw [hP.1.2.1]; exact hcm) rfl ?_
    refine w8 vi128_310 (vwc_3 ⟨by omega, by omega⟩ ⟨by omega, by omega⟩) (fun h310 => ?_) (fun h310 => by exfalso; omega)
    rw [show o = cm by omega]
    refine hQ σ1 t (hP.weak (fun a b ha hb hne pa pb hd => ?_))
    have hc := hP.1.1.1.2.2.2.1.1 b hb (by rw [hP.1.2.1, ← hs]; exact pb)
    rw [hP.1.2.1, hcm] at hc
    omega
  | succ e ih =>
    intro o σ1 t ho hP
    refine w0 vi128_304 rfl rfl ?_
    refine w1 vi128_306 rfl rfl ?_
    refine c_writersR (z := (cm : Int)) vi128_307 (by rw [hP.1.2.1]; exact hcm) rfl ?_
    refine w8 vi128_310 (vwc_3 ⟨by omega, by omega⟩ ⟨by omega, by omega⟩) (fun h310 => by exfalso; omega) (fun h310 => ?_)
    refine w0 vi128_313 rfl rfl ?_
    refine w0 vi128_315 rfl rfl ?_
    refine w8 vi128_317 (vwc_0 ⟨by omega, by omega⟩ ⟨by omega, by omega⟩) (fun h317 => ?_) (fun h317 => ?_)
    ·
      refine w6 (lc' := [some (.ref 0), some (.ref 8), some (.long (S)), none, some (.int (jI (F))), some (.int (jI ((t : Int)))), some (.int (jI ((w : Int)))), some (.int (jI ((o : Int) + 1)))]) (1) vi128_378 rfl (by decide) rfl ?_
      refine w5 vi128_381 ?_
      refine ih (o + 1) σ1 t (by omega) (hP.weak (fun a b ha hb hne pa pb hd => by
        rcases hd with g | ⟨g1, g2⟩
        · exact Or.inl g
        · by_cases e : b = o
          · exfalso
            subst g1
            subst e
            first
              | omega
              | (rw [hs, ← hP.1.2.1] at pa; exact hpw pa)
              | (rw [hs, ← hP.1.2.1] at pb; exact hpo pb)
          · exact Or.inr ⟨g1, by omega⟩))
    ·
      refine w1 vi128_320 rfl rfl ?_
      refine w0 vi128_321 rfl rfl ?_
      refine c_isPresent vi128_323 (w := w) (by omega) rfl (fun hpw => ?_) (fun hpw => ?_)
      ·
        refine w7 vi128_326 (vwz_0 ⟨by omega, by omega⟩) (fun h326 => by exfalso; omega) (fun h326 => ?_)
        refine w1 vi128_329 rfl rfl ?_
        refine w0 vi128_330 rfl rfl ?_
        refine c_isPresent vi128_332 (w := o) (by omega) rfl (fun hpo => ?_) (fun hpo => ?_)
        ·
          refine w7 vi128_335 (vwz_1 ⟨by omega, by omega⟩) (fun h335 => ?_) (fun h335 => by exfalso; omega)
          refine w1 vi128_341 rfl rfl ?_
          refine w0 vi128_342 rfl rfl ?_
          refine w0 vi128_344 rfl rfl ?_
          have hI := hP.1.1
          have hV := hP.1.2.1
          refine c_areCut vi128_346 (w := w) (o := o) (by omega) (by rw [hV]; omega) hpw (by omega) (by rw [hV]; omega) hpo (by omega) rfl (fun hb => ?_) (fun hb => ?_)
          ·
            refine w7 vi128_349 (vwz_0 ⟨by omega, by omega⟩) (fun h349 => by exfalso; omega) (fun h349 => ?_)
            refine w1 vi128_352 rfl rfl ?_
            refine w0 vi128_353 rfl rfl ?_
            refine w0 vi128_355 rfl rfl ?_
            refine c_cut vi128_357 hI (w := w) (o := o) (by omega) (by rw [hV]; omega) hpw (by omega) (by rw [hV]; omega) hpo (by omega) rfl (fun hnb => absurd hb hnb) (fun _ σ2 hI2 h22 hr2 hb => ?_)
            have hP := hP.cut hI2 h22 hr2
            have hI := hI2
            have hV := hP.1.2.1
            rw [← h22] at hpw hpo
            refine w7 vi128_360 (vwz_0 ⟨by omega, by omega⟩) (fun h360 => ?_) (fun h360 => by exfalso; omega)
            refine w0 vi128_365 rfl rfl ?_
            refine w1 vi128_367 rfl rfl ?_
            refine w0 vi128_368 rfl rfl ?_
            refine w0 vi128_370 rfl rfl ?_
            refine c_catchUp vi128_372 hI (w := w) (o := o) (by omega) (by rw [hV]; omega) hpw (by omega) (by rw [hV]; omega) hpo (by omega) hb rfl (fun z σ3 hI3 hS3 hz3 => ?_)
            have hP := hP.catch hs (by omega) hI3 hS3 hz3
            refine w9 vi128_375 ?_
            refine w3 (lc' := [some (.ref 0), some (.ref 8), some (.long (S)), none, some (.int (jI (F))), some (.int (jI ((t : Int) + (z : Int)))), some (.int (jI ((w : Int)))), some (.int (jI ((o : Int))))]) vi128_376 rfl rfl ?_
            refine w6 (lc' := [some (.ref 0), some (.ref 8), some (.long (S)), none, some (.int (jI (F))), some (.int (jI ((t : Int) + (z : Int)))), some (.int (jI ((w : Int)))), some (.int (jI ((o : Int) + 1)))]) (1) vi128_378 rfl (by decide) rfl ?_
            refine w5 vi128_381 ?_
            refine ih (o + 1) σ3 (t + z) (by omega) (hP.weak (fun a b ha hb hne pa pb hd => by
              rcases hd with g | ⟨g1, g2⟩
              · exact Or.inl (Or.inl g)
              · by_cases e : b = o
                · exact Or.inr ⟨g1, e⟩
                · exact Or.inl (Or.inr ⟨g1, by omega⟩)))
          ·
            refine w7 vi128_349 (vwz_0 ⟨by omega, by omega⟩) (fun h349 => ?_) (fun h349 => by exfalso; omega)
            refine w0 vi128_365 rfl rfl ?_
            refine w1 vi128_367 rfl rfl ?_
            refine w0 vi128_368 rfl rfl ?_
            refine w0 vi128_370 rfl rfl ?_
            refine c_catchUp vi128_372 hI (w := w) (o := o) (by omega) (by rw [hV]; omega) hpw (by omega) (by rw [hV]; omega) hpo (by omega) hb rfl (fun z σ3 hI3 hS3 hz3 => ?_)
            have hP := hP.catch hs (by omega) hI3 hS3 hz3
            refine w9 vi128_375 ?_
            refine w3 (lc' := [some (.ref 0), some (.ref 8), some (.long (S)), none, some (.int (jI (F))), some (.int (jI ((t : Int) + (z : Int)))), some (.int (jI ((w : Int)))), some (.int (jI ((o : Int))))]) vi128_376 rfl rfl ?_
            refine w6 (lc' := [some (.ref 0), some (.ref 8), some (.long (S)), none, some (.int (jI (F))), some (.int (jI ((t : Int) + (z : Int)))), some (.int (jI ((w : Int)))), some (.int (jI ((o : Int) + 1)))]) (1) vi128_378 rfl (by decide) rfl ?_
            refine w5 vi128_381 ?_
            refine ih (o + 1) σ3 (t + z) (by omega) (hP.weak (fun a b ha hb hne pa pb hd => by
              rcases hd with g | ⟨g1, g2⟩
              · exact Or.inl (Or.inl g)
              · by_cases e : b = o
                · exact Or.inr ⟨g1, e⟩
                · exact Or.inl (Or.inr ⟨g1, by omega⟩)))
        ·
          refine w7 vi128_335 (vwz_1 ⟨by omega, by omega⟩) (fun h335 => by exfalso; omega) (fun h335 => ?_)
          refine w5 vi128_338 ?_
          refine w6 (lc' := [some (.ref 0), some (.ref 8), some (.long (S)), none, some (.int (jI (F))), some (.int (jI ((t : Int)))), some (.int (jI ((w : Int)))), some (.int (jI ((o : Int) + 1)))]) (1) vi128_378 rfl (by decide) rfl ?_
          refine w5 vi128_381 ?_
          refine ih (o + 1) σ1 t (by omega) (hP.weak (fun a b ha hb hne pa pb hd => by
            rcases hd with g | ⟨g1, g2⟩
            · exact Or.inl g
            · by_cases e : b = o
              · exfalso
                subst g1
                subst e
                first
                  | omega
                  | (rw [hs, ← hP.1.2.1] at pa; exact hpw pa)
                  | (rw [hs, ← hP.1.2.1] at pb; exact hpo pb)
              · exact Or.inr ⟨g1, by omega⟩))
      ·
        refine w7 vi128_326 (vwz_0 ⟨by omega, by omega⟩) (fun h326 => ?_) (fun h326 => by exfalso; omega)
        refine w6 (lc' := [some (.ref 0), some (.ref 8), some (.long (S)), none, some (.int (jI (F))), some (.int (jI ((t : Int)))), some (.int (jI ((w : Int)))), some (.int (jI ((o : Int) + 1)))]) (1) vi128_378 rfl (by decide) rfl ?_
        refine w5 vi128_381 ?_
        refine ih (o + 1) σ1 t (by omega) (hP.weak (fun a b ha hb hne pa pb hd => by
          rcases hd with g | ⟨g1, g2⟩
          · exact Or.inl g
          · by_cases e : b = o
            · exfalso
              subst g1
              subst e
              first
                | omega
                | (rw [hs, ← hP.1.2.1] at pa; exact hpw pa)
                | (rw [hs, ← hP.1.2.1] at pb; exact hpo pb)
            · exact Or.inr ⟨g1, by omega⟩))
theorem m_lawM {S : Int64} {F : Int} {cm : Nat} (hs : σs.2 = σ0.2) (hcm : σ0.2 0 0 = (cm : Int)) (hcm6 : cm ≤ 6) (hQ : ∀ (σ : vw_S) (t : Nat) (u7 : Option Value), vP σ0 σs t (fun a b => a < cm) σ → vW vw_rep L xs (128, 390, [some (.ref 0), some (.ref 8), some (.long (S)), none, some (.int (jI (F))), some (.int (jI ((t : Int)))), some (.int (jI ((cm : Int)))), u7], []) σ Q) : ∀ (e w : Nat) (σ1 : vw_S) (t : Nat) (u7 : Option Value), w + e = cm → vP σ0 σs t (fun a b => a < w) σ1 → vW vw_rep L xs (128, 292, [some (.ref 0), some (.ref 8), some (.long (S)), none, some (.int (jI (F))), some (.int (jI ((t : Int)))), some (.int (jI ((w : Int)))), u7], []) σ1 Q := by
  intro e
  induction e with
  | zero =>
    intro w σ1 t u7 hw hP
    refine w0 vi128_292 rfl rfl ?_
    refine w1 vi128_294 rfl rfl ?_
    refine c_writersR (z := (cm : Int)) vi128_295 (by rw [hP.1.2.1]; exact hcm) rfl ?_
    refine w8 vi128_298 (vwc_3 ⟨by omega, by omega⟩ ⟨by omega, by omega⟩) (fun h298 => ?_) (fun h298 => by exfalso; omega)
    rw [show w = cm by omega] at hP ⊢
    exact hQ σ1 t u7 hP
  | succ e ih =>
    intro w σ1 t u7 hw hP
    refine w0 vi128_292 rfl rfl ?_
    refine w1 vi128_294 rfl rfl ?_
    refine c_writersR (z := (cm : Int)) vi128_295 (by rw [hP.1.2.1]; exact hcm) rfl ?_
    refine w8 vi128_298 (vwc_3 ⟨by omega, by omega⟩ ⟨by omega, by omega⟩) (fun h298 => by exfalso; omega) (fun h298 => ?_)
    refine w2 (0) vi128_301 (by decide) ?_
    refine w3 (lc' := [some (.ref 0), some (.ref 8), some (.long (S)), none, some (.int (jI (F))), some (.int (jI ((t : Int)))), some (.int (jI ((w : Int)))), some (.int (jI (0)))]) vi128_302 rfl rfl ?_
    refine m_lawI hs hcm hcm6 (by omega) (fun σ2 t2 hP2 => ?_) cm 0 σ1 t (Nat.zero_add _) (hP.weak (fun a b ha hb hne pa pb hd => by omega))
    refine w6 (1) vi128_384 rfl (by decide) rfl ?_
    refine w5 vi128_387 ?_
    exact ih (w + 1) σ2 t2 _ (by omega) hP2
def vAg (σ : vw_S) : Prop := vDn σ (fun _ _ => True)
theorem vP.ag {σ : vw_S} {cm : Nat} (h : vP σ0 σs 0 (fun a _ => a < cm) σ) (hs : σs.2 = σ0.2) (hcm : σ0.2 0 0 = (cm : Int)) : vAg σ := by
  obtain ⟨⟨d1, d2, d3⟩, p2, p3⟩ := h
  obtain ⟨q0, q1, q2⟩ := p3 rfl
  intro a b ha hb _ hne pa pb j d hj
  have hc := d1.1.2.2.2.1.1 a ha pa
  rw [d2, hcm] at hc
  rw [d2, ← hs] at pa pb
  rw [q0] at hj
  have g := q2 a b ha hb (by omega) hne pa pb j d hj
  unfold vk_kn at g ⊢
  rw [d2, ← hs, q1]
  exact g
theorem m_lawD {S : Int64} {F : Int} {cm : Nat} (hcm : σ0.2 0 0 = (cm : Int)) (hcm6 : cm ≤ 6) (hQ : ∀ (σ : vw_S) (u6 u7 : Option Value), vD σ0 σ → vAg σ → vW vw_rep L xs (128, 393, [some (.ref 0), some (.ref 8), some (.long (S)), none, some (.int (jI (F))), some (.int (jI (0))), u6, u7], []) σ Q) : ∀ (e : Nat) (σ1 : vw_S) (t : Nat) (u6 u7 : Option Value), 720 < vT0 σ1 + e → vD σ0 σ1 → 1 ≤ t → t ≤ 720 → vW vw_rep L xs (128, 281, [some (.ref 0), some (.ref 8), some (.long (S)), none, some (.int (jI (F))), some (.int (jI ((t : Int)))), u6, u7], []) σ1 Q := by
  intro e
  induction e with
  | zero =>
    intro σ1 t u6 u7 he hD t1 t7
    have := vT0_le hD.1
    omega
  | succ e ih =>
    intro σ1 t u6 u7 he hD t1 t7
    refine w0 vi128_281 rfl rfl ?_
    refine w7 vi128_283 (vwz_5 ⟨by omega, by omega⟩) (fun h283 => by exfalso; omega) (fun h283 => ?_)
    refine w2 (0) vi128_286 (by decide) ?_
    refine w3 (lc' := [some (.ref 0), some (.ref 8), some (.long (S)), none, some (.int (jI (F))), some (.int (jI (0))), u6, u7]) vi128_287 rfl rfl ?_
    refine w2 (0) vi128_289 (by decide) ?_
    refine w3 (lc' := [some (.ref 0), some (.ref 8), some (.long (S)), none, some (.int (jI (F))), some (.int (jI (0))), some (.int (jI (0))), u7]) vi128_290 rfl rfl ?_
    refine m_lawM (σs := σ1) hD.2.1 hcm hcm6 (fun σ2 t2 v7 hP => ?_) cm 0 σ1 0 u7 (Nat.zero_add _) ⟨hD, rfl, fun _ => ⟨rfl, rfl, fun a b ha hb hd => absurd hd (Nat.not_lt_zero _)⟩⟩
    refine w5 vi128_390 ?_
    by_cases e2 : t2 = 0
    · subst e2
      refine w0 vi128_281 rfl rfl ?_
      refine w7 vi128_283 (vwz_5 ⟨by omega, by omega⟩) (fun _ => ?_) (fun h => absurd (Int.le_refl 0) h)
      exact hQ σ2 _ v7 hP.1 (hP.ag hD.2.1 hcm)
    · have h7 := vT0_le hP.1.1
      have h8 := hP.2.1
      exact ih σ2 t2 _ v7 (by omega) hP.1 (by omega) (by omega)
end VW30
