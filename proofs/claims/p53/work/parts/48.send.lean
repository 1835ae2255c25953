/-! ===== what the calls do: sending, coming and leaving ===== -/
section VW20
def vCut (σ : vw_S) (w o : Nat) : Prop := vl_at (σ.1 9 0) (min (w : Int) (o : Int) * 6 + max (w : Int) (o : Int)) = 1
variable {L : Nat} {xs : Nat → Int32} {σ σ2 : vw_S} {Q : List Value → vw_S → Prop} {k pc a b c kk i : Nat} {lc : List (Option Value)} {sc : List Value} {fr : vj_F} {l l2 r12 r13 sh cs tx tx2 d2 he od : List Int} {V : Nat → Nat → Int} {z y : Int}
theorem m_deliver {w : Nat} (hI : vI σ) (hw : w < 6) (hc0 : (w : Int) < σ.2 0 0) (hp : σ.2 2 w = 1) {o : Nat} (ho : o < 6) (ho0 : (o : Int) < σ.2 0 0) (hop : σ.2 2 o = 1) (hne : ¬ w = o) {z : Int} (z0 : 0 ≤ z) (z1 : z < (σ.1 7 (w * 6 + o)).length) (hcut : ¬ vCut σ w o) (hQ : ∀ (x : Int) (σ' : vw_S), vI σ' → Q [.int (jI (x))] σ') : vW vw_rep L xs (57, 0, [some (.ref 8), some (.int (jI ((w : Int)))), some (.int (jI ((o : Int)))), some (.int (jI (z))), none, none], []) σ Q := by
  refine vW_len (kk := 7) (i := w * 6 + o) ⟨by decide, (show w * 6 + o < 36 by omega)⟩ (fun hlc => ?_)
  have hlc : (σ.1 7 (w * 6 + o)).length ≤ 270 := hlc
  refine w1 vi57_0 rfl rfl ?_
  refine w0 vi57_1 rfl rfl ?_
  refine c_presentCopy vi57_2 (by first | omega | exact ve_ix_le _ | exact vk_lat_le _ _ _ _ | assumption) (by first | omega | exact ve_ix_le _ | exact vk_lat_le _ _ _ _ | assumption) (by first | omega | exact ve_ix_le _ | exact vk_lat_le _ _ _ _ | assumption) rfl ?_
  refine w39 vi57_5 rfl ?_
  refine w1 vi57_6 rfl rfl ?_
  refine w0 vi57_7 rfl rfl ?_
  refine c_presentCopy vi57_8 (by first | omega | exact ve_ix_le _ | exact vk_lat_le _ _ _ _ | assumption) (by first | omega | exact ve_ix_le _ | exact vk_lat_le _ _ _ _ | assumption) (by first | omega | exact ve_ix_le _ | exact vk_lat_le _ _ _ _ | assumption) rfl ?_
  refine w4 vi57_11 rfl rfl ?_
  refine w0 vi57_13 rfl rfl ?_
  refine w0 vi57_14 rfl rfl ?_
  refine c_demandTwo vi57_15 (by first | omega | exact ve_ix_le _ | exact vk_lat_le _ _ _ _ | assumption) (by first | omega | exact ve_ix_le _ | exact vk_lat_le _ _ _ _ | assumption) (by first | omega | exact ve_ix_le _ | exact vk_lat_le _ _ _ _ | assumption) rfl ?_
  refine w1 vi57_18 rfl rfl ?_
  refine w0 vi57_19 rfl rfl ?_
  refine w0 vi57_20 rfl rfl ?_
  refine c_channelOf vi57_21 (by first | omega | exact ve_ix_le _ | exact vk_lat_le _ _ _ _ | assumption) (by first | omega | exact ve_ix_le _ | exact vk_lat_le _ _ _ _ | assumption) rfl ?_
  refine w4 vi57_24 rfl rfl ?_
  refine w1 vi57_26 rfl rfl ?_
  refine w0 vi57_28 rfl rfl ?_
  refine c_demandPlace vi57_29 ⟨by decide, (show w * 6 + o < 36 by omega)⟩ z0 z1 rfl ?_
  refine w1 vi57_32 rfl rfl ?_
  refine w0 vi57_33 rfl rfl ?_
  refine w0 vi57_34 rfl rfl ?_
  refine c_demandJoined vi57_35 hw ho hcut rfl ?_
  refine w1 vi57_38 rfl rfl ?_
  refine w1 vi57_40 rfl rfl ?_
  refine w14m (v := .ref 9) vi57_41  rfl ?_
  refine w1 vi57_44 rfl rfl ?_
  refine w0 vi57_46 rfl rfl ?_
  refine r_rem (l := (σ.1 7 (w * 6 + o))) (σ2 := ((vw_sr σ.1 7 (w * 6 + o) (vl_rem (σ.1 7 (w * 6 + o)) (z))), σ.2)) vi57_47 ⟨by decide, (show (w * 6 + o) < 36 by omega)⟩ (by first | rfl | (dsimp only; repeat (first | rw [vw_sr_eq] | rw [vw_sr_ne _ _ (by omega)]))) (by first | omega | exact ve_ix_le _ | exact vk_lat_le _ _ _ _ | assumption) (by first | omega | exact ve_ix_le _ | exact vk_lat_le _ _ _ _ | assumption) rfl rfl (fun _ _ => ?_)
  have hmem := vl_at_mem (l := σ.1 7 (w * 6 + o)) z0 z1
  have hx := hI.1.2.2.1 (w * 6 + o) (by omega) _ hmem
  have hIa : vI (vw_sr σ.1 7 (w * 6 + o) (vl_rem (σ.1 7 (w * 6 + o)) z), σ.2) := by
    obtain ⟨⟨j1, j2, j3, j4, j5⟩, hC, hD⟩ := hI
    refine ⟨⟨?_, fun i' hi' => ?_, fun p hp x hx' => ?_, j4, ?_⟩, ?_, ?_⟩
    · unfold vKs
      dsimp only
      rw [vw_sr_j _ _ _ (by omega), vw_sr_j _ _ _ (by omega), vw_sr_j _ _ _ (by omega), vw_sr_j _ _ _ (by omega)]
      exact j1
    · unfold vRds
      dsimp only
      rw [vw_sr_j _ _ _ (by omega), vw_sr_j _ _ _ (by omega), vw_sr_j _ _ _ (by omega)]
      exact j2 i' hi'
    · dsimp only at hx'
      rw [vw_sr_k] at hx'
      by_cases e : p = w * 6 + o
      · subst e
        rw [vu_eq] at hx'
        unfold vl_rem at hx'
        rw [if_pos z0] at hx'
        exact j3 _ hp x ((List.eraseIdx_sublist _ _).mem hx')
      · rw [vu_ne _ _ e] at hx'
        exact j3 p hp x hx'
    · dsimp only
      rw [vw_sr_j _ _ _ (by omega)]
      exact j5
    · dsimp only
      rw [vw_sr_j _ _ _ (by omega), vw_sr_j _ _ _ (by omega), vw_sr_j _ _ _ (by omega)]
      exact hC
    · dsimp only
      rw [vw_sr_j _ _ _ (by omega), vw_sr_j _ _ _ (by omega)]
      exact hD
  have hn0 := hI.1.1.1
  obtain ⟨d, hd⟩ : ∃ d : Nat, vl_at (σ.1 7 (w * 6 + o)) z = (d : Int) := ⟨(vl_at (σ.1 7 (w * 6 + o)) z).toNat, by omega⟩
  rw [hd] at hx
  rw [hd]
  refine c_receive (σ := (vw_sr σ.1 7 (w * 6 + o) (vl_rem (σ.1 7 (w * 6 + o)) z), σ.2)) vi57_50 ho ho0 hIa.1.1 (hIa.1.2.1 o ho) hx.2 rfl (fun z2 σ2 hS2 hR2 _ => ?_)
  refine w42 vi57_53 vm57.2.2.2 ?_
  exact hQ _ σ2 (vI_LS hIa hS2 hR2)
theorem c_deliver (hc : vt_code k pc = (27, 57, b, c)) {w : Nat} (hI : vI σ) (hw : w < 6) (hc0 : (w : Int) < σ.2 0 0) (hp : σ.2 2 w = 1) {o : Nat} (ho : o < 6) (ho0 : (o : Int) < σ.2 0 0) (hop : σ.2 2 o = 1) (hne : ¬ w = o) {z : Int} (z0 : 0 ≤ z) (z1 : z < (σ.1 7 (w * 6 + o)).length) (hcut : ¬ vCut σ w o) (hs : Nat.ble (vj_cat sc) 8 = true) (hQ : ∀ (x : Int) (σ' : vw_S), vI σ' → vW vw_rep L xs (k, pc + 3, lc, .int (jI (x)) :: sc) σ' Q) : vW vw_rep L xs (k, pc, lc, .int (jI (z)) :: .int (jI ((o : Int))) :: .int (jI ((w : Int))) :: .ref 8 :: sc) σ Q := by
  refine w27 (n := 4) (vs := [.int (jI (z)), .int (jI ((o : Int))), .int (jI ((w : Int))), .ref 8]) hc vm57.2.1 rfl (by rw [vm57.2.2.1]; rfl) hs (by simp only [List.length_cons]; omega) ⟨_, rfl⟩ (fun M hM => hM.2.2.2.2.2.1) ⟨by omega, by omega⟩ vm57.1 ?_
  rw [vm57.2.2.1]
  exact m_deliver hI hw hc0 hp ho ho0 hop hne z0 z1 hcut (Q := fun v σ1 => vW vw_rep L xs (k, pc + 3, lc, v ++ sc) σ1 Q) hQ
theorem m_lose {w : Nat} (hI : vI σ) (hw : w < 6) (hc0 : (w : Int) < σ.2 0 0) (hp : σ.2 2 w = 1) {o : Nat} (ho : o < 6) (ho0 : (o : Int) < σ.2 0 0) (hop : σ.2 2 o = 1) (hne : ¬ w = o) {z : Int} (z0 : 0 ≤ z) (z1 : z < (σ.1 7 (w * 6 + o)).length) (hQ : ∀ (x : Int) (σ' : vw_S), vI σ' → Q [.int (jI (x))] σ') : vW vw_rep L xs (58, 0, [some (.ref 8), some (.int (jI ((w : Int)))), some (.int (jI ((o : Int)))), some (.int (jI (z))), none], []) σ Q := by
  refine vW_len (kk := 7) (i := w * 6 + o) ⟨by decide, (show w * 6 + o < 36 by omega)⟩ (fun hlc => ?_)
  have hlc : (σ.1 7 (w * 6 + o)).length ≤ 270 := hlc
  refine w1 vi58_0 rfl rfl ?_
  refine w0 vi58_1 rfl rfl ?_
  refine c_presentCopy vi58_2 (by first | omega | exact ve_ix_le _ | exact vk_lat_le _ _ _ _ | assumption) (by first | omega | exact ve_ix_le _ | exact vk_lat_le _ _ _ _ | assumption) (by first | omega | exact ve_ix_le _ | exact vk_lat_le _ _ _ _ | assumption) rfl ?_
  refine w39 vi58_5 rfl ?_
  refine w1 vi58_6 rfl rfl ?_
  refine w0 vi58_7 rfl rfl ?_
  refine c_presentCopy vi58_8 (by first | omega | exact ve_ix_le _ | exact vk_lat_le _ _ _ _ | assumption) (by first | omega | exact ve_ix_le _ | exact vk_lat_le _ _ _ _ | assumption) (by first | omega | exact ve_ix_le _ | exact vk_lat_le _ _ _ _ | assumption) rfl ?_
  refine w39 vi58_11 rfl ?_
  refine w0 vi58_12 rfl rfl ?_
  refine w0 vi58_13 rfl rfl ?_
  refine c_demandTwo vi58_14 (by first | omega | exact ve_ix_le _ | exact vk_lat_le _ _ _ _ | assumption) (by first | omega | exact ve_ix_le _ | exact vk_lat_le _ _ _ _ | assumption) (by first | omega | exact ve_ix_le _ | exact vk_lat_le _ _ _ _ | assumption) rfl ?_
  refine w1 vi58_17 rfl rfl ?_
  refine w0 vi58_18 rfl rfl ?_
  refine w0 vi58_19 rfl rfl ?_
  refine c_channelOf vi58_20 (by first | omega | exact ve_ix_le _ | exact vk_lat_le _ _ _ _ | assumption) (by first | omega | exact ve_ix_le _ | exact vk_lat_le _ _ _ _ | assumption) rfl ?_
  refine w4 vi58_23 rfl rfl ?_
  refine w1 vi58_25 rfl rfl ?_
  refine w0 vi58_27 rfl rfl ?_
  refine c_demandPlace vi58_28 ⟨by decide, (show w * 6 + o < 36 by omega)⟩ z0 z1 rfl ?_
  refine w1 vi58_31 rfl rfl ?_
  refine w14m (v := .ref 9) vi58_32  rfl ?_
  refine w1 vi58_35 rfl rfl ?_
  refine w0 vi58_37 rfl rfl ?_
  refine r_rem (l := (σ.1 7 (w * 6 + o))) (σ2 := ((vw_sr σ.1 7 (w * 6 + o) (vl_rem (σ.1 7 (w * 6 + o)) (z))), σ.2)) vi58_38 ⟨by decide, (show (w * 6 + o) < 36 by omega)⟩ (by first | rfl | (dsimp only; repeat (first | rw [vw_sr_eq] | rw [vw_sr_ne _ _ (by omega)]))) (by first | omega | exact ve_ix_le _ | exact vk_lat_le _ _ _ _ | assumption) (by first | omega | exact ve_ix_le _ | exact vk_lat_le _ _ _ _ | assumption) rfl rfl (fun _ _ => ?_)
  have hmem := vl_at_mem (l := σ.1 7 (w * 6 + o)) z0 z1
  have hx := hI.1.2.2.1 (w * 6 + o) (by omega) _ hmem
  have hIa : vI (vw_sr σ.1 7 (w * 6 + o) (vl_rem (σ.1 7 (w * 6 + o)) z), σ.2) := by
    obtain ⟨⟨j1, j2, j3, j4, j5⟩, hC, hD⟩ := hI
    refine ⟨⟨?_, fun i' hi' => ?_, fun p hp x hx' => ?_, j4, ?_⟩, ?_, ?_⟩
    · unfold vKs
      dsimp only
      rw [vw_sr_j _ _ _ (by omega), vw_sr_j _ _ _ (by omega), vw_sr_j _ _ _ (by omega), vw_sr_j _ _ _ (by omega)]
      exact j1
    · unfold vRds
      dsimp only
      rw [vw_sr_j _ _ _ (by omega), vw_sr_j _ _ _ (by omega), vw_sr_j _ _ _ (by omega)]
      exact j2 i' hi'
    · dsimp only at hx'
      rw [vw_sr_k] at hx'
      by_cases e : p = w * 6 + o
      · subst e
        rw [vu_eq] at hx'
        unfold vl_rem at hx'
        rw [if_pos z0] at hx'
        exact j3 _ hp x ((List.eraseIdx_sublist _ _).mem hx')
      · rw [vu_ne _ _ e] at hx'
        exact j3 p hp x hx'
    · dsimp only
      rw [vw_sr_j _ _ _ (by omega)]
      exact j5
    · dsimp only
      rw [vw_sr_j _ _ _ (by omega), vw_sr_j _ _ _ (by omega), vw_sr_j _ _ _ (by omega)]
      exact hC
    · dsimp only
      rw [vw_sr_j _ _ _ (by omega), vw_sr_j _ _ _ (by omega)]
      exact hD
  refine c_deedAt vi58_41 (by first | omega | exact ve_ix_le _ | exact vk_lat_le _ _ _ _ | assumption) (by first | omega | exact ve_ix_le _ | exact vk_lat_le _ _ _ _ | assumption) rfl ?_
  refine w14d (v := .int (jI ((σ.2 6 ((ve_ix (vl_at (σ.1 7 (w * 6 + o)) (z)))))))) vi58_44 (by first | omega | exact ve_ix_le _ | exact vk_lat_le _ _ _ _ | assumption) rfl ?_
  refine vW_nR (V := σ.2) rfl 6 ((ve_ix (vl_at (σ.1 7 (w * 6 + o)) (z)))) (fun _ _ => ?_)
  refine w42 vi58_47 vm58.2.2.2 ?_
  exact hQ _ _ hIa
theorem c_lose (hc : vt_code k pc = (27, 58, b, c)) {w : Nat} (hI : vI σ) (hw : w < 6) (hc0 : (w : Int) < σ.2 0 0) (hp : σ.2 2 w = 1) {o : Nat} (ho : o < 6) (ho0 : (o : Int) < σ.2 0 0) (hop : σ.2 2 o = 1) (hne : ¬ w = o) {z : Int} (z0 : 0 ≤ z) (z1 : z < (σ.1 7 (w * 6 + o)).length) (hs : Nat.ble (vj_cat sc) 8 = true) (hQ : ∀ (x : Int) (σ' : vw_S), vI σ' → vW vw_rep L xs (k, pc + 3, lc, .int (jI (x)) :: sc) σ' Q) : vW vw_rep L xs (k, pc, lc, .int (jI (z)) :: .int (jI ((o : Int))) :: .int (jI ((w : Int))) :: .ref 8 :: sc) σ Q := by
  refine w27 (n := 4) (vs := [.int (jI (z)), .int (jI ((o : Int))), .int (jI ((w : Int))), .ref 8]) hc vm58.2.1 rfl (by rw [vm58.2.2.1]; rfl) hs (by simp only [List.length_cons]; omega) ⟨_, rfl⟩ (fun M hM => hM.2.2.2.2.2.1) ⟨by omega, by omega⟩ vm58.1 ?_
  rw [vm58.2.2.1]
  exact m_lose hI hw hc0 hp ho ho0 hop hne z0 z1 (Q := fun v σ1 => vW vw_rep L xs (k, pc + 3, lc, v ++ sc) σ1 Q) hQ
theorem m_catchUp {w : Nat} (hI : vI σ) (hw : w < 6) (hc0 : (w : Int) < σ.2 0 0) (hp : σ.2 2 w = 1) {o : Nat} (ho : o < 6) (ho0 : (o : Int) < σ.2 0 0) (hop : σ.2 2 o = 1) (hne : ¬ w = o) (hcut : ¬ vCut σ w o) (hQ : ∀ (z : Nat) (σ' : vw_S), vI σ' → vLS σ o σ' z → (z = 0 → ∀ (j d : Nat), (σ.1 0 w)[j]? = some (d : Int) → vk_kn σ' o d) → Q [.int (jI ((z : Int)))] σ') : vW vw_rep L xs (59, 0, [some (.ref 8), some (.int (jI ((w : Int)))), some (.int (jI ((o : Int)))), none, none], []) σ Q := by
  refine w1 vi59_0 rfl rfl ?_
  refine w0 vi59_1 rfl rfl ?_
  refine c_presentCopy vi59_2 (by first | omega | exact ve_ix_le _ | exact vk_lat_le _ _ _ _ | assumption) (by first | omega | exact ve_ix_le _ | exact vk_lat_le _ _ _ _ | assumption) (by first | omega | exact ve_ix_le _ | exact vk_lat_le _ _ _ _ | assumption) rfl ?_
  refine w4 vi59_5 rfl rfl ?_
  refine w1 vi59_6 rfl rfl ?_
  refine w0 vi59_7 rfl rfl ?_
  refine c_presentCopy vi59_8 (by first | omega | exact ve_ix_le _ | exact vk_lat_le _ _ _ _ | assumption) (by first | omega | exact ve_ix_le _ | exact vk_lat_le _ _ _ _ | assumption) (by first | omega | exact ve_ix_le _ | exact vk_lat_le _ _ _ _ | assumption) rfl ?_
  refine w4 vi59_11 rfl rfl ?_
  refine w0 vi59_13 rfl rfl ?_
  refine w0 vi59_14 rfl rfl ?_
  refine c_demandTwo vi59_15 (by first | omega | exact ve_ix_le _ | exact vk_lat_le _ _ _ _ | assumption) (by first | omega | exact ve_ix_le _ | exact vk_lat_le _ _ _ _ | assumption) (by first | omega | exact ve_ix_le _ | exact vk_lat_le _ _ _ _ | assumption) rfl ?_
  refine w1 vi59_18 rfl rfl ?_
  refine w0 vi59_19 rfl rfl ?_
  refine w0 vi59_20 rfl rfl ?_
  refine c_demandJoined vi59_21 hw ho hcut rfl ?_
  refine w1 vi59_24 rfl rfl ?_
  refine w1 vi59_26 rfl rfl ?_
  refine w14m (v := .ref 9) vi59_27  rfl ?_
  refine w1 vi59_30 rfl rfl ?_
  refine w14c (v := .ref (vw_rr 0 w)) vi59_31 (by first | omega | exact ve_ix_le _ | exact vk_lat_le _ _ _ _ | assumption) rfl ?_
  refine c_receiveAll vi59_34 ho hw hne ho0 hI.1.1 (hI.1.2.1 o ho) rfl (fun z2 σ2 hS2 hR2 hz2 => ?_)
  refine w42 vi59_37 vm59.2.2.2 ?_
  exact hQ z2 σ2 (vI_LS hI hS2 hR2) hS2 hz2
theorem c_catchUp (hc : vt_code k pc = (27, 59, b, c)) {w : Nat} (hI : vI σ) (hw : w < 6) (hc0 : (w : Int) < σ.2 0 0) (hp : σ.2 2 w = 1) {o : Nat} (ho : o < 6) (ho0 : (o : Int) < σ.2 0 0) (hop : σ.2 2 o = 1) (hne : ¬ w = o) (hcut : ¬ vCut σ w o) (hs : Nat.ble (vj_cat sc) 8 = true) (hQ : ∀ (z : Nat) (σ' : vw_S), vI σ' → vLS σ o σ' z → (z = 0 → ∀ (j d : Nat), (σ.1 0 w)[j]? = some (d : Int) → vk_kn σ' o d) → vW vw_rep L xs (k, pc + 3, lc, .int (jI ((z : Int))) :: sc) σ' Q) : vW vw_rep L xs (k, pc, lc, .int (jI ((o : Int))) :: .int (jI ((w : Int))) :: .ref 8 :: sc) σ Q := by
  refine w27 (n := 3) (vs := [.int (jI ((o : Int))), .int (jI ((w : Int))), .ref 8]) hc vm59.2.1 rfl (by rw [vm59.2.2.1]; rfl) hs (by simp only [List.length_cons]; omega) ⟨_, rfl⟩ (fun M hM => hM.2.2.2.2.2.1) ⟨by omega, by omega⟩ vm59.1 ?_
  rw [vm59.2.2.1]
  exact m_catchUp hI hw hc0 hp ho ho0 hop hne hcut (Q := fun v σ1 => vW vw_rep L xs (k, pc + 3, lc, v ++ sc) σ1 Q) hQ
theorem m_cut {w : Nat} (hI : vI σ) (hw : w < 6) (hc0 : (w : Int) < σ.2 0 0) (hp : σ.2 2 w = 1) {o : Nat} (ho : o < 6) (ho0 : (o : Int) < σ.2 0 0) (hop : σ.2 2 o = 1) (hne : ¬ w = o) (h1 : ¬ vCut σ w o → ∀ σ', vI σ' → Q [.int (jI (1))] σ') (h0 : vCut σ w o → ∀ σ', vI σ' → σ'.2 = σ.2 → (∀ k, ¬ k = 9 → σ'.1 k = σ.1 k) → ¬ vCut σ' w o → Q [.int (jI (0))] σ') : vW vw_rep L xs (60, 0, [some (.ref 8), some (.int (jI ((w : Int)))), some (.int (jI ((o : Int)))), none], []) σ Q := by
  refine w1 vi60_0 rfl rfl ?_
  refine w0 vi60_1 rfl rfl ?_
  refine c_presentCopy vi60_2 (by first | omega | exact ve_ix_le _ | exact vk_lat_le _ _ _ _ | assumption) (by first | omega | exact ve_ix_le _ | exact vk_lat_le _ _ _ _ | assumption) (by first | omega | exact ve_ix_le _ | exact vk_lat_le _ _ _ _ | assumption) rfl ?_
  refine w39 vi60_5 rfl ?_
  refine w1 vi60_6 rfl rfl ?_
  refine w0 vi60_7 rfl rfl ?_
  refine c_presentCopy vi60_8 (by first | omega | exact ve_ix_le _ | exact vk_lat_le _ _ _ _ | assumption) (by first | omega | exact ve_ix_le _ | exact vk_lat_le _ _ _ _ | assumption) (by first | omega | exact ve_ix_le _ | exact vk_lat_le _ _ _ _ | assumption) rfl ?_
  refine w39 vi60_11 rfl ?_
  refine w0 vi60_12 rfl rfl ?_
  refine w0 vi60_13 rfl rfl ?_
  refine c_demandTwo vi60_14 (by first | omega | exact ve_ix_le _ | exact vk_lat_le _ _ _ _ | assumption) (by first | omega | exact ve_ix_le _ | exact vk_lat_le _ _ _ _ | assumption) (by first | omega | exact ve_ix_le _ | exact vk_lat_le _ _ _ _ | assumption) rfl ?_
  refine w1 vi60_17 rfl rfl ?_
  refine w0 vi60_18 rfl rfl ?_
  refine w0 vi60_19 rfl rfl ?_
  refine c_isCutPair vi60_20 (by first | omega | exact ve_ix_le _ | exact vk_lat_le _ _ _ _ | exact ⟨by decide, by decide⟩ | exact ⟨by decide, by assumption⟩ | exact ⟨by decide, Nat.lt_succ_of_le (by first | exact ve_ix_le _ | exact vk_lat_le _ _ _ _ | assumption)⟩ | assumption) (by first | omega | exact ve_ix_le _ | exact vk_lat_le _ _ _ _ | exact ⟨by decide, by decide⟩ | exact ⟨by decide, by assumption⟩ | exact ⟨by decide, Nat.lt_succ_of_le (by first | exact ve_ix_le _ | exact vk_lat_le _ _ _ _ | assumption)⟩ | assumption) rfl (fun hb20 => ?_) (fun hb20 => ?_)
  ·
    refine w7 vi60_23 (vwz_1 ⟨by omega, by omega⟩) (fun h23 => ?_) (fun h23 => by exfalso; omega)
    refine w2 (0) vi60_30 (by decide) ?_
    refine w3 vi60_31 rfl rfl ?_
    refine w1 vi60_32 rfl rfl ?_
    refine w14m (v := .ref (vw_rr 9 0)) vi60_33  rfl ?_
    refine w0 vi60_36 rfl rfl ?_
    refine w0 vi60_37 rfl rfl ?_
    refine c_pairPlace vi60_38 (by first | omega | exact ve_ix_le _ | exact vk_lat_le _ _ _ _ | assumption) (by first | omega | exact ve_ix_le _ | exact vk_lat_le _ _ _ _ | assumption) rfl ?_
    refine w0 vi60_41 rfl rfl ?_
    refine w7 vi60_42 (vwz_0 ⟨by omega, by omega⟩) (fun h42 => ?_) (fun h42 => by exfalso; omega)
    refine w2 (0) vi60_49 (by decide) ?_
    refine r_put (l := (σ.1 9 0)) (σ2 := ((vw_sr σ.1 9 0 (vl_put (σ.1 9 0) (min (w : Int) (o : Int) * 6 + max (w : Int) (o : Int)) (0))), σ.2)) vi60_50 ⟨by decide, (show 0 < 1 by omega)⟩ (by first | rfl | (dsimp only; repeat (first | rw [vw_sr_eq] | rw [vw_sr_ne _ _ (by omega)]))) (by first | omega | exact ve_ix_le _ | exact vk_lat_le _ _ _ _ | assumption) (by first | omega | exact ve_ix_le _ | exact vk_lat_le _ _ _ _ | assumption) (by first | omega | exact ve_ix_le _ | exact vk_lat_le _ _ _ _ | assumption) (by first | omega | exact ve_ix_le _ | exact vk_lat_le _ _ _ _ | assumption) rfl rfl ?_
    refine w0 vi60_53 rfl rfl ?_
    refine w42b vi60_54 vm60.2.2.2 (by first | exact Or.inl rfl | exact Or.inr rfl | omega) ?_
    have hIc : vI (vw_sr σ.1 9 0 (vl_put (σ.1 9 0) (min (w : Int) (o : Int) * 6 + max (w : Int) (o : Int)) 0), σ.2) := by
      obtain ⟨⟨j1, j2, j3, j4, j5⟩, hC, hD⟩ := hI
      refine ⟨⟨?_, fun i' hi' => ?_, ?_, j4, ?_⟩, ?_, ?_⟩
      · unfold vKs
        dsimp only
        rw [vw_sr_j _ _ _ (by omega), vw_sr_j _ _ _ (by omega), vw_sr_j _ _ _ (by omega), vw_sr_j _ _ _ (by omega)]
        exact j1
      · unfold vRds
        dsimp only
        rw [vw_sr_j _ _ _ (by omega), vw_sr_j _ _ _ (by omega), vw_sr_j _ _ _ (by omega)]
        exact j2 i' hi'
      · dsimp only
        rw [vw_sr_j _ _ _ (by omega)]
        exact j3
      · dsimp only
        rw [vw_sr_eq, vl_put_len]
        exact j5
      · dsimp only
        rw [vw_sr_j _ _ _ (by omega), vw_sr_j _ _ _ (by omega), vw_sr_j _ _ _ (by omega)]
        exact hC
      · dsimp only
        rw [vw_sr_j _ _ _ (by omega), vw_sr_j _ _ _ (by omega)]
        exact hD
    refine h0 hb20 _ hIc rfl (fun k' q => vw_sr_j _ _ _ q) ?_
    unfold vCut
    dsimp only
    rw [vw_sr_eq, vl_at_put (by omega) (by have := hI.1.2.2.2.2; omega), if_pos rfl]
    decide
  ·
    refine w7 vi60_23 (vwz_1 ⟨by omega, by omega⟩) (fun h23 => by exfalso; omega) (fun h23 => ?_)
    refine w2 (1) vi60_26 (by decide) ?_
    refine w5 vi60_27 ?_
    refine w3 vi60_31 rfl rfl ?_
    refine w1 vi60_32 rfl rfl ?_
    refine w14m (v := .ref (vw_rr 9 0)) vi60_33  rfl ?_
    refine w0 vi60_36 rfl rfl ?_
    refine w0 vi60_37 rfl rfl ?_
    refine c_pairPlace vi60_38 (by first | omega | exact ve_ix_le _ | exact vk_lat_le _ _ _ _ | assumption) (by first | omega | exact ve_ix_le _ | exact vk_lat_le _ _ _ _ | assumption) rfl ?_
    refine w0 vi60_41 rfl rfl ?_
    refine w7 vi60_42 (vwz_0 ⟨by omega, by omega⟩) (fun h42 => by exfalso; omega) (fun h42 => ?_)
    refine w2 (1) vi60_45 (by decide) ?_
    refine w5 vi60_46 ?_
    refine r_put (l := (σ.1 9 0)) (σ2 := ((vw_sr σ.1 9 0 (vl_put (σ.1 9 0) (min (w : Int) (o : Int) * 6 + max (w : Int) (o : Int)) (1))), σ.2)) vi60_50 ⟨by decide, (show 0 < 1 by omega)⟩ (by first | rfl | (dsimp only; repeat (first | rw [vw_sr_eq] | rw [vw_sr_ne _ _ (by omega)]))) (by first | omega | exact ve_ix_le _ | exact vk_lat_le _ _ _ _ | assumption) (by first | omega | exact ve_ix_le _ | exact vk_lat_le _ _ _ _ | assumption) (by first | omega | exact ve_ix_le _ | exact vk_lat_le _ _ _ _ | assumption) (by first | omega | exact ve_ix_le _ | exact vk_lat_le _ _ _ _ | assumption) rfl rfl ?_
    refine w0 vi60_53 rfl rfl ?_
    refine w42b vi60_54 vm60.2.2.2 (by first | exact Or.inl rfl | exact Or.inr rfl | omega) ?_
    have hIc : vI (vw_sr σ.1 9 0 (vl_put (σ.1 9 0) (min (w : Int) (o : Int) * 6 + max (w : Int) (o : Int)) 1), σ.2) := by
      obtain ⟨⟨j1, j2, j3, j4, j5⟩, hC, hD⟩ := hI
      refine ⟨⟨?_, fun i' hi' => ?_, ?_, j4, ?_⟩, ?_, ?_⟩
      · unfold vKs
        dsimp only
        rw [vw_sr_j _ _ _ (by omega), vw_sr_j _ _ _ (by omega), vw_sr_j _ _ _ (by omega), vw_sr_j _ _ _ (by omega)]
        exact j1
      · unfold vRds
        dsimp only
        rw [vw_sr_j _ _ _ (by omega), vw_sr_j _ _ _ (by omega), vw_sr_j _ _ _ (by omega)]
        exact j2 i' hi'
      · dsimp only
        rw [vw_sr_j _ _ _ (by omega)]
        exact j3
      · dsimp only
        rw [vw_sr_eq, vl_put_len]
        exact j5
      · dsimp only
        rw [vw_sr_j _ _ _ (by omega), vw_sr_j _ _ _ (by omega), vw_sr_j _ _ _ (by omega)]
        exact hC
      · dsimp only
        rw [vw_sr_j _ _ _ (by omega), vw_sr_j _ _ _ (by omega)]
        exact hD
    exact h1 hb20 _ hIc
theorem c_cut (hc : vt_code k pc = (27, 60, b, c)) {w : Nat} (hI : vI σ) (hw : w < 6) (hc0 : (w : Int) < σ.2 0 0) (hp : σ.2 2 w = 1) {o : Nat} (ho : o < 6) (ho0 : (o : Int) < σ.2 0 0) (hop : σ.2 2 o = 1) (hne : ¬ w = o) (hs : Nat.ble (vj_cat sc) 8 = true) (h1 : ¬ vCut σ w o → ∀ σ', vI σ' → vW vw_rep L xs (k, pc + 3, lc, .int (jI (1)) :: sc) σ' Q) (h0 : vCut σ w o → ∀ σ', vI σ' → σ'.2 = σ.2 → (∀ k, ¬ k = 9 → σ'.1 k = σ.1 k) → ¬ vCut σ' w o → vW vw_rep L xs (k, pc + 3, lc, .int (jI (0)) :: sc) σ' Q) : vW vw_rep L xs (k, pc, lc, .int (jI ((o : Int))) :: .int (jI ((w : Int))) :: .ref 8 :: sc) σ Q := by
  refine w27 (n := 3) (vs := [.int (jI ((o : Int))), .int (jI ((w : Int))), .ref 8]) hc vm60.2.1 rfl (by rw [vm60.2.2.1]; rfl) hs (by simp only [List.length_cons]; omega) ⟨_, rfl⟩ (fun M hM => hM.2.2.2.2.2.1) ⟨by omega, by omega⟩ vm60.1 ?_
  rw [vm60.2.2.1]
  exact m_cut hI hw hc0 hp ho ho0 hop hne (Q := fun v σ1 => vW vw_rep L xs (k, pc + 3, lc, v ++ sc) σ1 Q) h1 h0
theorem m_join {w : Nat} (hI : vI σ) (hw : w < 6) (hc0 : (w : Int) < σ.2 0 0) (hp : σ.2 2 w = 1) (hc6 : σ.2 0 0 < 6) (hQ : ∀ (x : Int) (σ' : vw_S), vI σ' → Q [.int (jI (x))] σ') : vW vw_rep L xs (61, 0, [some (.ref 8), some (.int (jI ((w : Int)))), none, none, none], []) σ Q := by
  have hcm := hI.1.1.2.1
  obtain ⟨m, hm⟩ : ∃ m : Nat, σ.2 0 0 = (m : Int) := ⟨(σ.2 0 0).toNat, by omega⟩
  refine w1 vi61_0 rfl rfl ?_
  refine w0 vi61_1 rfl rfl ?_
  refine c_presentCopy vi61_2 (by first | omega | exact ve_ix_le _ | exact vk_lat_le _ _ _ _ | assumption) (by first | omega | exact ve_ix_le _ | exact vk_lat_le _ _ _ _ | assumption) (by first | omega | exact ve_ix_le _ | exact vk_lat_le _ _ _ _ | assumption) rfl ?_
  refine w4 vi61_5 rfl rfl ?_
  refine w1 vi61_6 rfl rfl ?_
  refine w14m (v := .int (jI (m : Int))) vi61_7 (by show some (Value.int (jI (σ.2 0 0))) = _; rw [hm]) ?_
  refine w7 vi61_10 (vwz_2 ⟨by omega, by omega⟩) (fun h10 => by exfalso; omega) (fun h10 => ?_)
  refine w1 vi61_13 rfl rfl ?_
  refine w14m (v := .int (jI (m : Int))) vi61_14 (by show some (Value.int (jI (σ.2 0 0))) = _; rw [hm]) ?_
  refine w1 vi61_17 rfl rfl ?_
  refine w14m (v := .ref 622) vi61_18  rfl ?_
  refine w26cop vi61_21 ?_
  refine w8 vi61_22 (vwc_2 ⟨by omega, by omega⟩ ⟨by omega, by omega⟩) (fun h22 => ?_) (fun h22 => by exfalso; omega)
  refine w1 vi61_35 rfl rfl ?_
  refine w14m (v := .int (jI (m : Int))) vi61_36 (by show some (Value.int (jI (σ.2 0 0))) = _; rw [hm]) ?_
  refine w3 vi61_39 rfl rfl ?_
  refine w1 vi61_40 rfl rfl ?_
  refine w14m (v := .ref 622) vi61_41  rfl ?_
  refine w0 vi61_44 rfl rfl ?_
  refine w20cop vi61_45 (by omega) (by omega) ?_
  rw [Int.toNat_natCast]
  refine w4 vi61_46 rfl rfl ?_
  refine w1 vi61_48 rfl rfl ?_
  refine w60 vi61_50 ?_
  refine w1 vi61_53 rfl rfl ?_
  refine w1 vi61_55 rfl rfl ?_
  refine c_takeOver vi61_56 (show m < 6 by omega) hw (by omega) rfl ?_
  refine w1 vi61_59 rfl rfl ?_
  refine w2 (1) vi61_61 (by decide) ?_
  refine w15there (z := 1) vi61_62 (by first | omega | exact ve_ix_le _ | exact vk_lat_le _ _ _ _ | assumption) ⟨by omega, by omega⟩ (by omega) ?_
  try dsimp only
  refine w1 vi61_65 rfl rfl ?_
  refine w38 vi61_66 rfl ?_
  refine w14m (v := .int (jI (m : Int))) vi61_67 (by show some (Value.int (jI (vw_sv σ.2 2 m 1 0 0))) = _; rw [vw_sv_ne _ _ (by omega), hm]) ?_
  refine w2 (1) vi61_70 (by decide) ?_
  refine w9 vi61_71 ?_
  refine w15came (z := (m : Int) + 1) vi61_72 ⟨by omega, by omega⟩ ?_
  try dsimp only
  refine w0 vi61_75 rfl rfl ?_
  refine w42 vi61_76 vm61.2.2.2 ?_
  refine hQ _ _ ?_
  obtain ⟨⟨j1, j2, j3, ⟨j4, j4'⟩, j5⟩, hC, hD⟩ := hI
  have hk := vK_join j1 hc0 hm.symm hc6
  have hv5 : vw_sv (vw_sv σ.2 2 m 1) 0 0 ((m : Int) + 1) 5 = σ.2 5 := by rw [vw_sv_j _ _ _ (by omega), vw_sv_j _ _ _ (by omega)]
  have hv6 : vw_sv (vw_sv σ.2 2 m 1) 0 0 ((m : Int) + 1) 6 = σ.2 6 := by rw [vw_sv_j _ _ _ (by omega), vw_sv_j _ _ _ (by omega)]
  have hv1 : vw_sv (vw_sv σ.2 2 m 1) 0 0 ((m : Int) + 1) 1 0 = σ.2 1 0 := by rw [vw_sv_ne _ _ (by omega), vw_sv_ne _ _ (by omega)]
  have hv0 : vw_sv (vw_sv σ.2 2 m 1) 0 0 ((m : Int) + 1) 0 0 = (m : Int) + 1 := vw_sv_eq _ _ _ _
  have hv2 : vw_sv (vw_sv σ.2 2 m 1) 0 0 ((m : Int) + 1) 2 = vu (σ.2 2) m 1 := by rw [vw_sv_j _ _ _ (by omega), vw_sv_k]
  have hr : ∀ k', ¬ k' = 0 → ¬ k' = 1 → vw_sr (vw_sr σ.1 0 m (σ.1 0 w)) 1 m (σ.1 1 w) k' = σ.1 k' := fun k' q0 q1 => by rw [vw_sr_j _ _ _ q1, vw_sr_j _ _ _ q0]
  have hr0 : vw_sr (vw_sr σ.1 0 m (σ.1 0 w)) 1 m (σ.1 1 w) 0 = vu (σ.1 0) m (σ.1 0 w) := by rw [vw_sr_j _ _ _ (by omega), vw_sr_k]
  have hr1 : vw_sr (vw_sr σ.1 0 m (σ.1 0 w)) 1 m (σ.1 1 w) 1 = vu (σ.1 1) m (σ.1 1 w) := by rw [vw_sr_k, vw_sr_j _ _ _ (by omega)]
  refine ⟨⟨?_, fun i' hi' => ?_, ?_, ⟨fun i' hi' h => ?_, ?_⟩, ?_⟩, ?_, ?_⟩
  · unfold vKs
    dsimp only
    rw [hv5, hv6, hv1, hv0, hr0, hr1, hr 2 (by omega) (by omega), hr 6 (by omega) (by omega), ← hm]
    exact hk
  · unfold vRds
    dsimp only
    rw [hr1, hr 2 (by omega) (by omega), hr 6 (by omega) (by omega)]
    by_cases e : i' = m
    · subst e
      rw [((j1.2.2.2.2.1 i' hi').2.2 (by omega)).1]
      exact fun x hx => absurd hx List.not_mem_nil
    · rw [vu_ne _ _ e]
      exact j2 i' hi'
  · dsimp only
    rw [hv1, hr 7 (by omega) (by omega)]
    exact j3
  · dsimp only at h ⊢
    rw [hv2] at h
    rw [hv0]
    by_cases e : i' = m
    · omega
    · rw [vu_ne _ _ e] at h
      have := j4 i' hi' h
      omega
  · dsimp only
    rw [hv2]
    exact ⟨m, by omega, vu_eq _ _ _⟩
  · dsimp only
    rw [hr 9 (by omega) (by omega)]
    exact j5
  · dsimp only
    rw [hv1, hr 12 (by omega) (by omega), hr 13 (by omega) (by omega), hr 14 (by omega) (by omega)]
    exact hC
  · dsimp only
    rw [hr 3 (by omega) (by omega), hr 4 (by omega) (by omega)]
    exact hD
theorem c_join (hc : vt_code k pc = (27, 61, b, c)) {w : Nat} (hI : vI σ) (hw : w < 6) (hc0 : (w : Int) < σ.2 0 0) (hp : σ.2 2 w = 1) (hc6 : σ.2 0 0 < 6) (hs : Nat.ble (vj_cat sc) 8 = true) (hQ : ∀ (x : Int) (σ' : vw_S), vI σ' → vW vw_rep L xs (k, pc + 3, lc, .int (jI (x)) :: sc) σ' Q) : vW vw_rep L xs (k, pc, lc, .int (jI ((w : Int))) :: .ref 8 :: sc) σ Q := by
  refine w27 (n := 2) (vs := [.int (jI ((w : Int))), .ref 8]) hc vm61.2.1 rfl (by rw [vm61.2.2.1]; rfl) hs (by simp only [List.length_cons]; omega) ⟨_, rfl⟩ (fun M hM => hM.2.2.2.2.2.1) ⟨by omega, by omega⟩ vm61.1 ?_
  rw [vm61.2.2.1]
  exact m_join hI hw hc0 hp hc6 (Q := fun v σ1 => vW vw_rep L xs (k, pc + 3, lc, v ++ sc) σ1 Q) hQ
def vLv (σ σ' : vw_S) : Prop := σ'.2 = σ.2 ∧ (∀ k, ¬ k = 7 → σ'.1 k = σ.1 k) ∧ ∀ p, σ'.1 7 p = σ.1 7 p ∨ σ'.1 7 p = []
theorem vLv.clr {σ σ1 : vw_S} (h : vLv σ σ1) (p : Nat) : vLv σ (vw_sr σ1.1 7 p [], σ1.2) := by
  refine ⟨h.1, fun k q => (vw_sr_j _ _ _ q).trans (h.2.1 k q), fun p' => ?_⟩
  dsimp only
  rw [vw_sr_k]
  by_cases e : p' = p
  · subst e; rw [vu_eq]; exact Or.inr rfl
  · rw [vu_ne _ _ e]; exact h.2.2 p'
theorem m_lv_loop {w m : Nat} {cnt : Int} (hw : w < 6) (hm : σ.2 0 0 = (m : Int)) (hm6 : m ≤ 6) (hQ : ∀ σ', vLv σ σ' → Q [.int (jI (cnt - 1))] σ') : ∀ (e j : Nat) (σ1 : vw_S), j + e = m → vLv σ σ1 → vW vw_rep L xs (62, 34, [some (.ref 8), some (.int (jI ((w : Int)))), some (.ref (vw_cr w)), some (.int (jI (cnt))), some (.int (jI ((j : Int))))], []) σ1 Q := by
  intro e
  induction e with
  | zero =>
    intro j σ1 hj hS
    refine w0 vi62_34 rfl rfl ?_
    refine w1 vi62_36 rfl rfl ?_
    refine w14m (v := .int (jI (m : Int))) vi62_37 (by show some (Value.int (jI (σ1.2 0 0))) = _; rw [hS.1, hm]) ?_
    refine w8 vi62_40 (vwc_3 ⟨by omega, by omega⟩ ⟨by omega, by omega⟩) (fun h40 => ?_) (fun h40 => by exfalso; omega)
    refine w0 vi62_69 rfl rfl ?_
    refine w2 (1) vi62_70 (by decide) ?_
    refine w10 vi62_71 ?_
    refine w42 vi62_72 vm62.2.2.2 ?_
    exact hQ σ1 hS
  | succ e ih =>
    intro j σ1 hj hS
    refine w0 vi62_34 rfl rfl ?_
    refine w1 vi62_36 rfl rfl ?_
    refine w14m (v := .int (jI (m : Int))) vi62_37 (by show some (Value.int (jI (σ1.2 0 0))) = _; rw [hS.1, hm]) ?_
    refine w8 vi62_40 (vwc_3 ⟨by omega, by omega⟩ ⟨by omega, by omega⟩) (fun h40 => by exfalso; omega) (fun h40 => ?_)
    refine w1 vi62_43 rfl rfl ?_
    refine w0 vi62_44 rfl rfl ?_
    refine w0 vi62_45 rfl rfl ?_
    refine c_channelOf vi62_47 (by first | omega | exact ve_ix_le _ | exact vk_lat_le _ _ _ _ | assumption) (by first | omega | exact ve_ix_le _ | exact vk_lat_le _ _ _ _ | assumption) rfl ?_
    refine c_clear vi62_50 ⟨by decide, (show (w * 6 + j) < 36 by omega)⟩ rfl ?_
    try dsimp only
    refine w1 vi62_53 rfl rfl ?_
    refine w0 vi62_54 rfl rfl ?_
    refine w0 vi62_56 rfl rfl ?_
    refine c_channelOf vi62_57 (by first | omega | exact ve_ix_le _ | exact vk_lat_le _ _ _ _ | assumption) (by first | omega | exact ve_ix_le _ | exact vk_lat_le _ _ _ _ | assumption) rfl ?_
    refine c_clear vi62_60 ⟨by decide, (show (j * 6 + w) < 36 by omega)⟩ rfl ?_
    try dsimp only
    refine w6 (1) vi62_63 rfl (by decide) rfl ?_
    refine w5 vi62_66 ?_
    exact ih (j + 1) _ (by omega) ((hS.clr (w * 6 + j)).clr (j * 6 + w))
theorem m_leave {w : Nat} (hI : vI σ) (hw : w < 6) (hc0 : (w : Int) < σ.2 0 0) (hp : σ.2 2 w = 1) {o : Nat} (ho : o < 6) (ho0 : (o : Int) < σ.2 0 0) (hop : σ.2 2 o = 1) (hne : ¬ w = o) (hQ : ∀ (x : Int) (σ' : vw_S), vI σ' → Q [.int (jI (x))] σ') : vW vw_rep L xs (62, 0, [some (.ref 8), some (.int (jI ((w : Int)))), none, none, none], []) σ Q := by
  have hcm := hI.1.1.2.1
  obtain ⟨m, hm⟩ : ∃ m : Nat, σ.2 0 0 = (m : Int) := ⟨(σ.2 0 0).toNat, by omega⟩
  have h2 := vp_cnt_two (V := σ.2) hp hop hne 6
  rw [if_pos hw, if_pos ho] at h2
  refine w1 vi62_0 rfl rfl ?_
  refine w0 vi62_1 rfl rfl ?_
  refine c_presentCopy vi62_2 (by first | omega | exact ve_ix_le _ | exact vk_lat_le _ _ _ _ | assumption) (by first | omega | exact ve_ix_le _ | exact vk_lat_le _ _ _ _ | assumption) (by first | omega | exact ve_ix_le _ | exact vk_lat_le _ _ _ _ | assumption) rfl ?_
  refine w4 vi62_5 rfl rfl ?_
  refine w1 vi62_6 rfl rfl ?_
  have hcnt := vp_cnt_in σ.2 6
  refine c_countPresent vi62_7 rfl ?_
  refine w3 vi62_10 rfl rfl ?_
  refine w0 vi62_11 rfl rfl ?_
  refine w2 (1) vi62_12 (by decide) ?_
  refine w8 vi62_13 (vwc_4 ⟨by omega, by omega⟩ ⟨by omega, by omega⟩) (fun h13 => ?_) (fun h13 => by exfalso; omega)
  refine w1 vi62_26 rfl rfl ?_
  refine w2 (0) vi62_27 (by decide) ?_
  refine w15there (z := 0) vi62_28 (by first | omega | exact ve_ix_le _ | exact vk_lat_le _ _ _ _ | assumption) ⟨by omega, by omega⟩ (by omega) ?_
  try dsimp only
  refine w2 (0) vi62_31 (by decide) ?_
  refine w3 vi62_32 rfl rfl ?_
  refine m_lv_loop (σ := (σ.1, vw_sv σ.2 2 w 0)) (w := w) (m := m) hw (show vw_sv σ.2 2 w 0 0 0 = (m : Int) by rw [vw_sv_ne _ _ (by omega)]; exact hm) (by omega) (fun σ' hS => hQ _ σ' ?_) m 0 _ (Nat.zero_add _) ⟨rfl, fun _ _ => rfl, fun _ => Or.inl rfl⟩
  obtain ⟨⟨j1, j2, j3, ⟨j4, j4'⟩, j5⟩, hC, hD⟩ := hI
  obtain ⟨s1, s2, s3⟩ := hS
  dsimp only at s1 s2 s3
  have hv : ∀ k' i', ¬ k' = 2 → σ'.2 k' i' = σ.2 k' i' := fun k' i' q => by rw [s1, vw_sv_ne _ _ (by omega)]
  have hvk : ∀ k', ¬ k' = 2 → σ'.2 k' = σ.2 k' := fun k' q => by rw [s1, vw_sv_j _ _ _ q]
  have hv2 : σ'.2 2 = vu (σ.2 2) w 0 := by rw [s1, vw_sv_k]
  refine ⟨⟨?_, fun i' hi' => ?_, fun p hp' x hx => ?_, ⟨fun i' hi' h => ?_, ?_⟩, ?_⟩, ?_, ?_⟩
  · unfold vKs
    rw [hv 1 0 (by omega), hv 0 0 (by omega), hvk 5 (by omega), hvk 6 (by omega), s2 6 (by omega), s2 0 (by omega), s2 1 (by omega), s2 2 (by omega)]
    exact j1
  · unfold vRds
    rw [s2 6 (by omega), s2 1 (by omega), s2 2 (by omega)]
    exact j2 i' hi'
  · rw [hv 1 0 (by omega)]
    rcases s3 p with g | g
    · rw [g] at hx; exact j3 p hp' x hx
    · rw [g] at hx; exact absurd hx List.not_mem_nil
  · rw [hv 0 0 (by omega)]
    rw [hv2] at h
    by_cases e : i' = w
    · rw [e, vu_eq] at h; omega
    · rw [vu_ne _ _ e] at h
      exact j4 i' hi' h
  · rw [hv2]
    exact ⟨o, ho, by rw [vu_ne _ _ (by omega)]; exact hop⟩
  · rw [s2 9 (by omega)]; exact j5
  · rw [hv 1 0 (by omega), s2 12 (by omega), s2 13 (by omega), s2 14 (by omega)]; exact hC
  · rw [s2 3 (by omega), s2 4 (by omega)]; exact hD
theorem c_leave (hc : vt_code k pc = (27, 62, b, c)) {w : Nat} (hI : vI σ) (hw : w < 6) (hc0 : (w : Int) < σ.2 0 0) (hp : σ.2 2 w = 1) {o : Nat} (ho : o < 6) (ho0 : (o : Int) < σ.2 0 0) (hop : σ.2 2 o = 1) (hne : ¬ w = o) (hs : Nat.ble (vj_cat sc) 8 = true) (hQ : ∀ (x : Int) (σ' : vw_S), vI σ' → vW vw_rep L xs (k, pc + 3, lc, .int (jI (x)) :: sc) σ' Q) : vW vw_rep L xs (k, pc, lc, .int (jI ((w : Int))) :: .ref 8 :: sc) σ Q := by
  refine w27 (n := 2) (vs := [.int (jI ((w : Int))), .ref 8]) hc vm62.2.1 rfl (by rw [vm62.2.2.1]; rfl) hs (by simp only [List.length_cons]; omega) ⟨_, rfl⟩ (fun M hM => hM.2.2.2.2.2.1) ⟨by omega, by omega⟩ vm62.1 ?_
  rw [vm62.2.2.1]
  exact m_leave hI hw hc0 hp ho ho0 hop hne (Q := fun v σ1 => vW vw_rep L xs (k, pc + 3, lc, v ++ sc) σ1 Q) hQ
end VW20
