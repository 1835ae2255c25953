/-! ===== the law: at the end ===== -/
section VW31
theorem vAg_le {σ : vw_S} (hI : vI σ) (hA : vAg σ) {w o : Nat} (hw : w < 6) (ho : o < 6) (pw : σ.2 2 w = 1) (po : σ.2 2 o = 1) : ∀ a : Nat, a < 6 → vl_at (σ.1 1 w) (a : Int) ≤ vl_at (σ.1 1 o) (a : Int) := by
  by_cases e : w = o
  · intro a _; rw [e]; exact Int.le_refl _
  · exact vk_le_of hI hw ho (hA w o hw ho trivial e pw po)
theorem vAg_vx {σ : vw_S} (hI : vI σ) (hA : vAg σ) {w o : Nat} (hw : w < 6) (ho : o < 6) (pw : σ.2 2 w = 1) (po : σ.2 2 o = 1) : vx σ w = vx σ o :=
  vx_agree hI hw ho (fun a ha => by
    have g1 := vAg_le hI hA hw ho pw po a ha
    have g2 := vAg_le hI hA ho hw po pw a ha
    omega)
theorem vD_vw {σ0 σ : vw_S} (h : vD σ0 σ) (l : List Int) (n : Nat) (tb : Int) : vq_vw σ l n tb = vq_vw σ0 l n tb := by
  unfold vq_vw
  rw [h.2.1, h.2.2 5 (by unfold vw_sc; omega) (by omega), h.2.2 12 (by unfold vw_sc; omega) (by omega), h.2.2 13 (by unfold vw_sc; omega) (by omega), h.2.2 14 (by unfold vw_sc; omega) (by omega)]
/-- if all that came are there, the text is as long as was foreseen -/
theorem vD_all {σ0 σ : vw_S} (hI0 : vI σ0) (h : vD σ0 σ) (hA : vAg σ) (hall : ∀ i : Nat, (i : Int) < σ.2 0 0 → σ.2 2 i = 1) {w : Nat} (hw : w < 6) (pw : σ.2 2 w = 1) : ((vx σ w 16).length : Int) = vy_all σ0 := by
  have hm := vk_all_mem h.1 hall hw (fun o ho po => vAg_le h.1 hA ho hw po pw)
  rw [h.2.1] at hm hall
  rw [vy_all_eq hI0 hall hm, ← vD_vw h]
  rfl
variable {L : Nat} {xs : Nat → Int32} {σ0 σ σ1 : vw_S} {Q : List Value → vw_S → Prop}
theorem m_lawE1 {S : Int64} {F : Int} {cm : Nat} (hI : vI σ) (hcm : σ.2 0 0 = (cm : Int)) (hcm6 : cm ≤ 6) (hQ : ∀ b : Int, (b = 0 ∨ b = 1) → (b = 1 → ∀ i : Nat, i < cm → σ.2 2 i = 1) → vW vw_rep L xs (128, 434, [some (.ref 0), some (.ref 8), some (.long (S)), none, some (.int (jI (F))), some (.int (jI (0))), some (.int (jI (b))), some (.int (jI ((cm : Int))))], []) σ Q) : ∀ (e w : Nat) (b : Int), w + e = cm → (b = 0 ∨ b = 1) → (b = 1 → ∀ i : Nat, i < w → σ.2 2 i = 1) → vW vw_rep L xs (128, 408, [some (.ref 0), some (.ref 8), some (.long (S)), none, some (.int (jI (F))), some (.int (jI (0))), some (.int (jI (b))), some (.int (jI ((w : Int))))], []) σ Q := by
  intro e
  induction e with
  | zero =>
    intro w b hw hb01 hbb
    refine w0 vi128_408 rfl rfl ?_
    refine w1 vi128_410 rfl rfl ?_
    refine k_writers vi128_411 (vw_same.refl σ) hI rfl ?_
    refine w8 vi128_414 (vwc_3 ⟨by omega, by omega⟩ ⟨by omega, by omega⟩) (fun h414 => ?_) (fun h414 => by exfalso; omega)
    rw [show w = cm by omega] at hbb ⊢
    exact hQ b hb01 hbb
  | succ e ih =>
    intro w b hw hb01 hbb
    refine w0 vi128_408 rfl rfl ?_
    refine w1 vi128_410 rfl rfl ?_
    refine k_writers vi128_411 (vw_same.refl σ) hI rfl ?_
    refine w8 vi128_414 (vwc_3 ⟨by omega, by omega⟩ ⟨by omega, by omega⟩) (fun h414 => by exfalso; omega) (fun h414 => ?_)
    refine w0 vi128_417 rfl rfl ?_
    refine w1 vi128_419 rfl rfl ?_
    refine w0 vi128_420 rfl rfl ?_
    refine k_isPresent vi128_422 (vw_same.refl σ) (w := w) (by omega) rfl (fun hpw => ?_) (fun hpw => ?_)
    ·
      refine w12 (b) vi128_425 (by rcases hb01 with e | e <;> subst e <;> decide) ?_
      refine w3 (lc' := [some (.ref 0), some (.ref 8), some (.long (S)), none, some (.int (jI (F))), some (.int (jI (0))), some (.int (jI (b))), some (.int (jI ((w : Int))))]) vi128_426 rfl rfl ?_
      refine w6 (lc' := [some (.ref 0), some (.ref 8), some (.long (S)), none, some (.int (jI (F))), some (.int (jI (0))), some (.int (jI (b))), some (.int (jI ((w : Int) + 1)))]) (1) vi128_428 rfl (by decide) rfl ?_
      refine w5 vi128_431 ?_
      refine ih (w + 1) b (by omega) hb01 (fun hb1 i hi => ?_)
      by_cases e2 : i = w
      · subst e2; exact hpw
      · exact hbb hb1 i (by omega)
    ·
      refine w12 (0) vi128_425 (by rcases hb01 with e | e <;> subst e <;> decide) ?_
      refine w3 (lc' := [some (.ref 0), some (.ref 8), some (.long (S)), none, some (.int (jI (F))), some (.int (jI (0))), some (.int (jI (0))), some (.int (jI ((w : Int))))]) vi128_426 rfl rfl ?_
      refine w6 (lc' := [some (.ref 0), some (.ref 8), some (.long (S)), none, some (.int (jI (F))), some (.int (jI (0))), some (.int (jI (0))), some (.int (jI ((w : Int) + 1)))]) (1) vi128_428 rfl (by decide) rfl ?_
      refine w5 vi128_431 ?_
      exact ih (w + 1) 0 (by omega) (Or.inl rfl) (fun hb1 => absurd hb1 (by decide))
theorem m_lawE2 {S : Int64} {F : Int} {cm : Nat} {b : Int} (hI0 : vI σ0) (hD : vD σ0 σ) (hA : vAg σ) (hF : F = vy_all σ0) (hcm : σ.2 0 0 = (cm : Int)) (hcm1 : 1 ≤ cm) (hcm6 : cm ≤ 6) (hex : ∃ i : Nat, i < cm ∧ σ.2 2 i = 1) (hb01 : b = 0 ∨ b = 1) (hbb : b = 1 → ∀ i : Nat, i < cm → σ.2 2 i = 1) (hQ : ∀ σ', Q [.int (jI 1)] σ') : ∀ (e w : Nat) (σ1 : vw_S), w + e = cm → vw_same σ σ1 → vW vw_rep L xs (128, 437, [some (.ref 0), some (.ref 8), some (.long (S)), none, some (.int (jI (F))), some (.int (jI (0))), some (.int (jI (b))), some (.int (jI ((w : Int))))], []) σ1 Q := by
  have hI := hD.1
  intro e
  induction e with
  | zero =>
    intro w σ1 hw s1
    refine w0 vi128_437 rfl rfl ?_
    refine w1 vi128_439 rfl rfl ?_
    refine k_writers vi128_440 s1 hI rfl ?_
    refine w8 vi128_443 (vwc_3 ⟨by omega, by omega⟩ ⟨by omega, by omega⟩) (fun h443 => ?_) (fun h443 => by exfalso; omega)
    refine w1 vi128_493 rfl rfl ?_
    refine k_flaws vi128_494 s1 hI rfl ?_
    refine w7 vi128_497 (vwz_1 ⟨by omega, by omega⟩) (fun h497 => by exfalso; omega) (fun h497 => ?_)
    refine w2 (1) vi128_500 (by decide) ?_
    refine w5 vi128_501 ?_
    refine w42b vi128_505 vm128.2.2.2 (by first | exact Or.inl rfl | exact Or.inr rfl | omega) ?_
    exact hQ _
  | succ e ih =>
    intro w σ1 hw s1
    refine w0 vi128_437 rfl rfl ?_
    refine w1 vi128_439 rfl rfl ?_
    refine k_writers vi128_440 s1 hI rfl ?_
    refine w8 vi128_443 (vwc_3 ⟨by omega, by omega⟩ ⟨by omega, by omega⟩) (fun h443 => by exfalso; omega) (fun h443 => ?_)
    refine w1 vi128_446 rfl rfl ?_
    refine w0 vi128_447 rfl rfl ?_
    refine k_isPresent vi128_449 s1 (w := w) (by omega) rfl (fun hpw => ?_) (fun hpw => ?_)
    ·
      refine w7 vi128_452 (vwz_0 ⟨by omega, by omega⟩) (fun h452 => by exfalso; omega) (fun h452 => ?_)
      refine w0 vi128_455 rfl rfl ?_
      refine w7 vi128_457 (vwz_0 ⟨by omega, by omega⟩) (fun h457 => ?_) (fun h457 => ?_)
      ·
        refine w1 vi128_471 rfl rfl ?_
        refine w0 vi128_472 rfl rfl ?_
        refine w1 vi128_474 rfl rfl ?_
        refine w2 (0) vi128_475 (by decide) ?_
        refine c_writer vi128_476 (by rw [s1.1]; exact hcm) hcm1 hcm6 (by rw [s1.1]; exact hex) rfl (fun v vc vp => ?_)
        rw [s1.1] at vp
        refine k_areAlike vi128_479 s1 hI (w := w) (o := v) (by omega) (by omega) hpw (by omega) (by omega) vp rfl (fun _ τ479 t479 => ?_) (fun h => absurd (vy_same_of (vAg_vx hI hA (by omega) (by omega) hpw vp)) h)
        refine w7 vi128_482 (vwz_1 ⟨by omega, by omega⟩) (fun h482 => ?_) (fun h482 => by exfalso; omega)
        refine w6 (lc' := [some (.ref 0), some (.ref 8), some (.long (S)), none, some (.int (jI (F))), some (.int (jI (0))), some (.int (jI (b))), some (.int (jI ((w : Int) + 1)))]) (1) vi128_487 rfl (by decide) rfl ?_
        refine w5 vi128_490 ?_
        exact ih (w + 1) τ479 (by omega) t479
      ·
        refine w1 vi128_460 rfl rfl ?_
        refine w0 vi128_461 rfl rfl ?_
        have hlen : ((vx σ w 16).length : Int) = F := by
          rw [hF]
          refine vD_all hI0 hD hA (fun i hi => hbb (by omega) i (by omega)) (by omega) hpw
        have hva := vy_all_in hI0
        refine k_length vi128_463 s1 hI (w := w) (by omega) (by omega) hpw rfl (fun τ463 t463 => ?_)
        refine w0 vi128_466 rfl rfl ?_
        refine w8 vi128_468 (vwc_1 ⟨by omega, by omega⟩ ⟨by omega, by omega⟩) (fun h468 => by exfalso; omega) (fun h468 => ?_)
        refine w1 vi128_471 rfl rfl ?_
        refine w0 vi128_472 rfl rfl ?_
        refine w1 vi128_474 rfl rfl ?_
        refine w2 (0) vi128_475 (by decide) ?_
        refine c_writer vi128_476 (by rw [t463.1]; exact hcm) hcm1 hcm6 (by rw [t463.1]; exact hex) rfl (fun v vc vp => ?_)
        rw [t463.1] at vp
        refine k_areAlike vi128_479 t463 hI (w := w) (o := v) (by omega) (by omega) hpw (by omega) (by omega) vp rfl (fun _ τ479 t479 => ?_) (fun h => absurd (vy_same_of (vAg_vx hI hA (by omega) (by omega) hpw vp)) h)
        refine w7 vi128_482 (vwz_1 ⟨by omega, by omega⟩) (fun h482 => ?_) (fun h482 => by exfalso; omega)
        refine w6 (lc' := [some (.ref 0), some (.ref 8), some (.long (S)), none, some (.int (jI (F))), some (.int (jI (0))), some (.int (jI (b))), some (.int (jI ((w : Int) + 1)))]) (1) vi128_487 rfl (by decide) rfl ?_
        refine w5 vi128_490 ?_
        exact ih (w + 1) τ479 (by omega) t479
    ·
      refine w7 vi128_452 (vwz_0 ⟨by omega, by omega⟩) (fun h452 => ?_) (fun h452 => by exfalso; omega)
      refine w6 (lc' := [some (.ref 0), some (.ref 8), some (.long (S)), none, some (.int (jI (F))), some (.int (jI (0))), some (.int (jI (b))), some (.int (jI ((w : Int) + 1)))]) (1) vi128_487 rfl (by decide) rfl ?_
      refine w5 vi128_490 ?_
      exact ih (w + 1) σ1 (by omega) s1
theorem m_lawE {S : Int64} {F : Int} {u6 u7 : Option Value} (hI0 : vI σ0) (hD : vD σ0 σ) (hA : vAg σ) (hF : F = vy_all σ0) (hQ : ∀ σ', Q [.int (jI 1)] σ') : vW vw_rep L xs (128, 393, [some (.ref 0), some (.ref 8), some (.long (S)), none, some (.int (jI (F))), some (.int (jI (0))), u6, u7], []) σ Q := by
  have hI := hD.1
  obtain ⟨cm, hcm, hcm1, hcm6, hex⟩ := vI_ex hI
  refine w1 vi128_393 rfl rfl ?_
  refine k_agree vi128_394 hI (vy_agr_of hI (fun w o hw ho pw po => vAg_le hI hA hw ho pw po)) rfl ?_
  refine w7 vi128_397 (vwz_1 ⟨by omega, by omega⟩) (fun h397 => ?_) (fun h397 => by exfalso; omega)
  refine w2 (1) vi128_402 (by decide) ?_
  refine w3 (lc' := [some (.ref 0), some (.ref 8), some (.long (S)), none, some (.int (jI (F))), some (.int (jI (0))), some (.int (jI (1))), u7]) vi128_403 rfl rfl ?_
  refine w2 (0) vi128_405 (by decide) ?_
  refine w3 (lc' := [some (.ref 0), some (.ref 8), some (.long (S)), none, some (.int (jI (F))), some (.int (jI (0))), some (.int (jI (1))), some (.int (jI (0)))]) vi128_406 rfl rfl ?_
  refine m_lawE1 hI hcm hcm6 (fun b hb01 hbb => ?_) cm 0 1 (Nat.zero_add _) (Or.inr rfl) (fun _ i hi => absurd hi (Nat.not_lt_zero _))
  refine w2 (0) vi128_434 (by decide) ?_
  refine w3 (lc' := [some (.ref 0), some (.ref 8), some (.long (S)), none, some (.int (jI (F))), some (.int (jI (0))), some (.int (jI (b))), some (.int (jI (0)))]) vi128_435 rfl rfl ?_
  exact m_lawE2 hI0 hD hA hF hcm hcm1 hcm6 hex hb01 hbb hQ cm 0 σ (Nat.zero_add _) (vw_same.refl σ)
theorem m_law7 {v1 v2 v3 v4 v5 v6 v7 : Option Value} (hL : L ≤ 1000) (hI : vI σ) (hQ : ∀ σ', Q [.int (jI 1)] σ') : vW vw_rep L xs (128, 7, [some (.ref 0), v1, v2, v3, v4, v5, v6, v7], [.ref 8]) σ Q := by
  refine w4 (lc' := [some (.ref 0), some (.ref 8), v2, v3, v4, v5, v6, v7]) vi128_7 rfl rfl ?_
  refine w2 (0) vi128_8 (by decide) ?_
  refine w3 (lc' := [some (.ref 0), some (.ref 8), some (.int (jI (0))), v3, v4, v5, v6, v7]) vi128_9 rfl rfl ?_
  refine m_lawA hL (fun σ2 u3 u4 hI2 => m_lawB hI2 (fun σ3 u6 s3 => ?_)) 70 0 σ v3 v4 rfl hI
  obtain ⟨cm, hcm, hcm1, hcm6, hex⟩ := vI_ex (vI_same hI2 s3)
  refine m_lawD (σ0 := σ3) hcm hcm6 (fun σ4 _ _ hD hA => m_lawE (vI_same hI2 s3) hD hA ?_ hQ) 721 σ3 1 u6 v7 (by omega) ⟨vI_same hI2 s3, rfl, fun _ _ _ => rfl⟩ (by decide) (by decide)
  exact (vy_all_same s3).symm
end VW31
