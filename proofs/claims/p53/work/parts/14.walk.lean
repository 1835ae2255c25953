/-! ===== a body, walked along the small machine's run ===== -/
section VW
theorem vz_cov0 {a b pc h ct : Nat} (g : ¬ (a ≤ pc ∧ pc < b)) : covers ⟨a, b, h, ct⟩ pc = false := by
  have : ¬ (decide (a ≤ pc) && decide (pc < b)) = true := fun q => g (by obtain ⟨x, y⟩ := vz_and q; exact ⟨vz_dec x, vz_dec y⟩)
  exact Bool.eq_false_iff.mpr this
theorem vz_cov1 {a b pc h ct : Nat} (g : a ≤ pc ∧ pc < b) : covers ⟨a, b, h, ct⟩ pc = true := by
  show (decide (a ≤ pc) && decide (pc < b)) = true
  rw [decide_eq_true g.1, decide_eq_true g.2]
  rfl
/-- the handlers' rows, the machine's and mine -/
theorem vz_hand {own : String} {pc x : Nat} : ∀ (qs rs : List (Nat × Nat × Nat × Nat)), vs_hok own qs rs = true → ∀ (t : Nat), vj_hand qs pc x = some t → ∃ (pre suf : List (Nat × Nat × Nat × Nat)) (y : Nat × Nat × Nat × Nat), rs = pre ++ y :: suf ∧ y.2.2.1 = t ∧ (y.1 ≤ pc ∧ pc < y.2.1) ∧ y.2.2.2 ≠ 0 ∧ (x < 3 ∧ Cond.classLink own y.2.2.2 (vs_ex x) ∈ lw_tbl) ∧
    ∀ z ∈ pre, ¬ (z.1 ≤ pc ∧ pc < z.2.1) ∨ (z.2.2.2 ≠ 0 ∧ ∃ x', x' < 3 ∧ x' ≠ x ∧ Cond.classLink own z.2.2.2 (vs_ex x') ∈ lw_tbl)
  | [], _, _, t, h => nomatch h
  | q :: qs, [], hk, _, _ => nomatch hk
  | q :: qs, r :: rs, hk, t, h => by
    unfold vs_hok at hk
    obtain ⟨hk, k7⟩ := vz_and hk
    obtain ⟨hk, k6⟩ := vz_and hk
    obtain ⟨hk, k5⟩ := vz_and hk
    obtain ⟨hk, k4⟩ := vz_and hk
    obtain ⟨hk, k3⟩ := vz_and hk
    obtain ⟨k1, k2⟩ := vz_and hk
    have k1 := vz_dec k1
    have k2 := vz_dec k2
    have k3 := vz_dec k3
    have k4 := vz_dec k4
    have k5 := vz_dec k5
    have hw : Cond.classLink own r.2.2.2 (vs_ex q.2.2.2) ∈ lw_tbl := by
      split at k6
      · rename_i o i C hw
        obtain ⟨k6, e3⟩ := vz_and k6
        obtain ⟨e1, e2⟩ := vz_and k6
        have e1 := vz_dec e1
        have e2 := vz_dec e2
        have e3 := vz_dec e3
        subst e1; subst e2; subst e3
        exact vs_wa_mem hw (by intro z; cases z)
      · cases k6
    unfold vj_hand at h
    by_cases e : q.1 ≤ pc ∧ pc < q.2.1 ∧ q.2.2.2 = x
    · rw [if_pos e] at h
      have h := Option.some.inj h
      obtain ⟨e1, e2, e3⟩ := e
      subst e3
      exact ⟨[], rs, r, rfl, by rw [← k3, h], ⟨by rw [← k1]; exact e1, by rw [← k2]; exact e2⟩, k5, ⟨k4, hw⟩, fun z hz => nomatch hz⟩
    · rw [if_neg e] at h
      obtain ⟨pre, suf, y, h1, h2, h3, h4, h5, h6⟩ := vz_hand qs rs k7 t h
      refine ⟨r :: pre, suf, y, by rw [h1]; rfl, h2, h3, h4, h5, fun z hz => ?_⟩
      rcases List.mem_cons.mp hz with rfl | hz
      · by_cases ec : z.1 ≤ pc ∧ pc < z.2.1
        · refine Or.inr ⟨k5, q.2.2.2, k4, fun e9 => e ⟨by rw [k1]; exact ec.1, by rw [k2]; exact ec.2, e9⟩, hw⟩
        · exact Or.inl ec
      · exact h6 z hz
/-- where the machine does what the small one does -/
theorem vz_walk {p : Program} {l : Launch} {e : Env} {R : Room} {s : State} {m : MethodId} {args : Array Value} {below : List Frame} {meth : Method} {c : Code} {Q : State → Prop} {k b L : Nat} {xs : Nat → Int32} {en : Nat → Nat} {sz : Nat} {D : va_G} {c0 s0 : Nat} {ad0 : List Nat} {tys0 : List (ClassId × FieldType)} (hC : vz_C p l R s m args meth c k b L xs en sz) (hkl : k ≤ vt_law) {N : Nat} (IH : ∀ n, n < N → ∀ a, a < vt_law → vz_S l b L xs en sz D n a) {r : List Value ⊕ Nat} {M' : vj_M} (hR : M'.2.2.2.1 - c0 ≤ R.cells ∧ M'.2.2.2.2 - s0 ≤ R.slots)
    (hEnd : ∀ (pc : Nat) (lv : List (Option Value)) (st v : List Value), r = .inl v → vr_step L xs (k, pc, lv, st) M' = some (.inr (.inr (.inl (v, M')))) → vz_G p l e R s m args below meth c Q k b en sz D c0 s0 ad0 tys0 pc lv st M')
    (hThr : ∀ (pc : Nat) (lv : List (Option Value)) (st : List Value) (M1 : vj_M) (x : Nat), r = .inr x → vr_step L xs (k, pc, lv, st) M1 = some (.inr (.inr (.inr (x, M')))) → vz_G p l e R s m args below meth c Q k b en sz D c0 s0 ad0 tys0 pc lv st M1)
    (hOut : vs_hd k = [] → ∀ x, x < 3 → r = .inr x → ∀ (pc : Nat) (ad : List Nat) (tys : List (ClassId × FieldType)) (ws : va_W) (H : Heap) (locs : List Loc) (ls : Array Slot) (sc : List Value) (ce : Cell) (q9 : Addr), vs_pre ad0 ad → vs_pre tys0 tys → vz_B b en sz D s H ad tys ws M' → va_S (vz_A sz) s.heap H locs → H[q9]? = some ce → ce.vm = .none → s.vm.findClass (vs_ex x) = some ce.cls → vx_W p l e R s m args below meth c H locs (M'.2.2.2.1 - c0) (M'.2.2.2.2 - s0) Q (F0 m pc ls sc) q9)
    (hTab : vs_hd k ≠ [] → c.exceptionTable.toList = tableOf (vs_hh k)) (hHok : vs_hok (vs_own k) (vs_hd k) (vs_hh k) = true) :
    ∀ n, n ≤ N → ∀ (pc : Nat) (lv : List (Option Value)) (st : List Value) (M : vj_M), vr_run L xs n (k, pc, lv, st) M = some (r, M') → vz_G p l e R s m args below meth c Q k b en sz D c0 s0 ad0 tys0 pc lv st M
  | 0, _, pc, lv, st, M, h => nomatch h
  | n + 1, hn, pc, lv, st, M, h => by
    have hok := vd_ok k hkl pc
    obtain ⟨op, i, j, t, hrow⟩ : ∃ op i j t, vt_code k pc = (op, i, j, t) := ⟨_, _, _, _, rfl⟩
    rw [hrow] at hok
    have hstep : ∀ R9, vr_step L xs (k, pc, lv, st) M = some R9 → vj_op vt_mi vt_nf vt_ts vt_td L xs op i j t k pc lv st M = some R9 := by
      intro R9 h9
      unfold vr_step vj_step at h9
      dsimp only at h9
      rw [hrow] at h9
      exact h9
    rcases vr_cases h with ⟨f1, M1, h1, h2⟩ | ⟨g, vs, a, M1, h1, h2⟩ | ⟨v, h1, h2⟩ | ⟨x, h1, h2⟩
    · have h3 := hstep _ h1
      have hle := vr_le n _ _ _ _ h2
      have hr2 : M1.2.2.2.1 - c0 ≤ R.cells ∧ M1.2.2.2.2 - s0 ≤ R.slots := ⟨by have := hle.1; have := hR.1; omega, by have := hle.2; have := hR.2; omega⟩
      obtain ⟨k1, pc1, lv1, st1⟩ := f1
      have hk1 : k1 = k := by
        have := (vz_ops op p l e R s m args below meth c (fun _ => True) k b L xs en sz D c0 s0 ad0 tys0 hC pc lv st M i j t (k1, pc1, lv1, st1) M1 h3 hok hr2 (by
          intro ad tys ws H locs ls sc hX h0 h1 T hT X
          exact ⟨_, Steps.refl _, trivial⟩)).1
        exact this
      subst hk1
      exact (vz_ops op p l e R s m args below meth c Q k1 b L xs en sz D c0 s0 ad0 tys0 hC pc lv st M i j t (k1, pc1, lv1, st1) M1 h3 hok hr2 (vz_walk hC hkl IH hR hEnd hThr hOut hTab hHok n (by omega) pc1 lv1 st1 M1 h2)).2
    · have h3 := hstep _ h1
      rcases vc_kind L xs h3 with ⟨z, e1, -⟩ | ⟨how, hop, hcond, e1⟩ | ⟨-, -, e1⟩ | ⟨-, v, -, -, e1⟩ | ⟨-, -, -, e1⟩
      · cases e1
      · cases e1
        obtain ⟨q1, q2, q3, q4⟩ := hcond
        have ha : i < vt_law := by
          have : ∀ f : Nat → Bool, vs_call k i t f = true → i < vt_law := by
            intro f hf
            unfold vs_call at hf
            obtain ⟨hf, -⟩ := vz_and hf
            obtain ⟨-, hf⟩ := vz_and hf
            exact vz_dec hf
          rcases hop with ⟨rfl, -⟩ | ⟨rfl, -⟩ | ⟨rfl, -⟩
          · exact this _ (vz_and hok).2
          · exact this _ (vz_and hok).2
          · exact this _ (vz_and hok).2
        intro ad tys ws H locs ls sc hX hc0 hs0
        have hX2 := hX
        obtain ⟨hB, hS, hl, hst⟩ := hX2
        have go : ∀ (r1 : List Value ⊕ Nat) (M2 : vj_M), vr_run L xs n (i, 0, vj_args (vt_mi i).2.2.1 (st.take (vt_mi i).2.1).reverse, []) M = some (r1, M2) → (how = 1 → ∀ x, r1 ≠ .inr x) → vm_le M2 M' →
            (∀ v, r1 = .inl v → vz_G p l e R s m args below meth c Q k b en sz D c0 s0 ad0 tys0 (pc + 3) lv (v ++ st.drop (vt_mi i).2.1) M2) →
            (∀ x, r1 = .inr x → x < 3 → ∀ (ad' : List Nat) (tys' : List (ClassId × FieldType)) (ws' : va_W) (H1 : Heap) (locs1 : List Loc) (ce : Cell) (q9 : Addr), vs_pre ad ad' → vs_pre tys tys' → vz_B b en sz D s H1 ad' tys' ws' M2 → va_S (vz_A sz) s.heap H1 locs1 → H1[q9]? = some ce → ce.vm = .none → s.vm.findClass (vs_ex x) = some ce.cls → vx_W p l e R s m args below meth c H1 locs1 (M2.2.2.2.1 - c0) (M2.2.2.2.2 - s0) Q (F0 m pc ls (sc.drop (vt_mi i).2.1)) q9) →
            W p l e R s m args below meth c H locs (M.2.2.2.1 - c0) (M.2.2.2.2 - s0) Q (F0 m pc ls sc) := by
          intro r1 M2 hrun hnt hle2 kr kx
          have hle1 := vr_le n _ _ _ _ hrun
          have l1 := hle1.1
          have l2 := hle1.2
          have l3 := hle2.1
          have l4 := hle2.2
          have l5 := hR.1
          have l6 := hR.2
          have l7 := hc0.1
          have e1 : M.2.2.2.1 - c0 + (M2.2.2.2.1 - M.2.2.2.1) = M2.2.2.2.1 - c0 := by omega
          have e2 : M.2.2.2.2 - s0 + (M2.2.2.2.2 - M.2.2.2.2) = M2.2.2.2.2 - s0 := by omega
          have hcall := vz_call (i := 0) (e := e) (below := below) (cells := M.2.2.2.1 - c0) (slots := M.2.2.2.2 - s0) hC (IH n (by omega) i ha) ha hop hok hnt q1 q2 q3 q4 hrun hX (by omega)
          refine vz_callR hcall hS (fun v hv ad' tys' ws' H1 locs1 vo p1 p2 p3 p4 p5 => ?_) (fun x hv hx3 ad' tys' ws' H1 locs1 ce q9 p1 p2 p4 p5 p6 p7 p8 => ?_)
          · rw [e1, e2]
            exact kr v hv ad' tys' ws' H1 locs1 ls _ ⟨p4, p5, hl.up p1, vj_l.cat p3 ((hst.drop _).up (fun _ _ z => z.up p1))⟩ ⟨by have := hc0.1; omega, hc0.2.1.tr p1, hc0.2.2.tr p2⟩ (by omega)
          · rw [e1, e2]
            exact kx x hv hx3 ad' tys' ws' H1 locs1 ce q9 p1 p2 p4 p5 p6 p7 p8
        rcases h2 with ⟨v, M2, h4, h5⟩ | ⟨x, M2, h4, h5⟩
        · refine go (.inl v) M2 h4 (fun _ _ z => nomatch z) (vr_le n _ _ _ _ h5) (fun v' hv => ?_) (fun x hv => nomatch hv)
          cases hv
          exact vz_walk hC hkl IH hR hEnd hThr hOut hTab hHok n (by omega) (pc + 3) lv _ M2 h5
        · have hle2 : vm_le M2 M' := by
            rcases h5 with ⟨g', -, h6⟩ | ⟨-, -, rfl⟩
            · exact vr_le n _ _ _ _ h6
            · exact vm_le.rf
          have h28 : ¬ op = 28 := by
            intro z
            have z1 : (vt_code k pc).1 = 28 := by rw [hrow]; exact z
            rcases h5 with ⟨g', h5, -⟩ | ⟨h5, -⟩
            · unfold vj_catch at h5
              rw [if_pos z1] at h5
              cases h5
            · unfold vj_catch at h5
              rw [if_pos z1] at h5
              cases h5
          have h28b : ¬ (vt_code k pc).1 = 28 := by rw [hrow]; exact h28
          refine go (.inr x) M2 h4 (fun z => by
            rcases hop with ⟨-, z2⟩ | ⟨z2, -⟩ | ⟨-, z2⟩
            · rw [z2] at z; cases z
            · exact absurd z2 h28
            · rw [z2] at z; cases z) hle2 (fun v' hv => nomatch hv) (fun x' hv hx3 ad' tys' ws' H1 locs1 ce q9 p1 p2 p4 p5 p6 p7 p8 => ?_)
          cases hv
          rcases h5 with ⟨g', h5, h6⟩ | ⟨h5, h6, rfl⟩
          · -- caught here
            unfold vj_catch at h5
            rw [if_neg h28b] at h5
            dsimp only at h5
            split at h5
            · cases h5
            · rename_i q hs hhd
              split at h5
              · rename_i tt hh
                split at h5
                · rename_i hop4
                  have h5 := Option.some.inj (Option.some.inj h5)
                  have hne : vs_hd k ≠ [] := by
                    show (vt_mi k).2.2.2.2.2.2 ≠ []
                    rw [hhd]; intro z; cases z
                  have hhd' : vs_hd k = q :: hs := hhd
                  have hHok' := hHok
                  rw [hhd'] at hHok'
                  obtain ⟨pre, suf, y, y1, y2, y3, y4, ⟨y5, y6⟩, y7⟩ := vz_hand _ _ hHok' tt hh
                  obtain ⟨hx, hb, hml, hown, hts, hlocks, hrt, hinit, htr, ⟨hfr, hlo⟩, hst9⟩ := id hC
                  have hrow2 := vd_ok k hkl tt
                  obtain ⟨op2, i2, j2, t2, hr2⟩ : ∃ op i j t, vt_code k tt = (op, i, j, t) := ⟨_, _, _, _, rfl⟩
                  rw [hr2] at hrow2 hop4 h5
                  dsimp only at hop4 h5
                  subst hop4
                  subst h5
                  have hcl : ∀ own' i' C', Cond.classLink own' i' C' ∈ lw_tbl → (Cond.classLink own' i' C').before args s = true := fun own' i' C' hm => hts _ (List.mem_filter.mpr ⟨hm, rfl⟩)
                  have htab := hTab hne
                  rw [y1] at htab
                  unfold tableOf at htab
                  rw [List.map_append, List.map_cons] at htab
                  have hcast : (Cond.castable (vs_ex x) (vs_ex x)).before args s = true := by
                    have hcw := vd_aok x hx3
                    unfold vs_aok at hcw
                    obtain ⟨hcw, -⟩ := vz_and hcw
                    obtain ⟨hcw, hot⟩ := vz_and hcw
                    obtain ⟨hcw, hgf⟩ := vz_and hcw
                    have hcw := vz_dec hcw
                    have hm : Cond.castable (vs_ex x) (vs_ex x) ∈ vx_atS vs_io (vs_ic x) (vs_ex x) vs_up := by
                      unfold vx_atS
                      refine List.mem_filter.mpr ⟨?_, rfl⟩
                      unfold Bundle.ownAtoms
                      refine List.mem_append_right _ ?_
                      simp
                    have ho : vx_ot (.castable (vs_ex x) (vs_ex x)) = true := List.all_eq_true.mp hot _ (List.mem_cons_of_mem _ hm)
                    rw [hcw] at hm
                    obtain ⟨pl, -, hpl⟩ := List.mem_map.mp hm
                    exact vz_face (State.WarmedH.refl s) rfl ho (hst9.2.2.2.2.2.2.2.2.2.2.2.1 _ (vs_wa_mem hpl (by intro z; cases z)) rfl ho)
                  refine vx_catch (own := vs_own k) (name := vs_ex x) (E := vs_ex x) hown _ ⟨y.1, y.2.1, y.2.2.1, y.2.2.2⟩ _ htab (fun z hz => ?_) ?_ y4 (hcl _ _ _ y6) hcast p6 p7 p8 ?_
                  · obtain ⟨z', hz', rfl⟩ := List.mem_map.mp hz
                    rcases y7 z' hz' with y8 | ⟨y8, x', y9, y10, y11⟩
                    · exact Or.inl (vz_cov0 y8)
                    · exact Or.inr ⟨y8, _, hcl _ _ _ y11, hst9.2.2.2.2.2.2.2.2.2.2.2.2 ⟨k, hkl, hne⟩ x x' hx3 y9 (Ne.symm y10)⟩
                  · exact vz_cov1 y3
                  · have hgo := vz_walk hC hkl IH hR hEnd hThr hOut hTab hHok n (by omega) _ _ _ M2 h6
                    obtain ⟨hk0, hk4⟩ := vz_and hrow2
                    have hk0 := vz_dec hk0
                    obtain ⟨lw, hl1, hl2⟩ := hl.up p1
                    have fin : ∀ ls' : Array Slot, lv_has ls' (vs_ml k) ((i2, Value.ref q9) :: lw.filter (fun q => !(q.1 == i2) && !(q.1 + 1 == i2 && q.2.category == 2))) → W p l e R s m args below meth c H1 locs1 (M2.2.2.2.1 - c0) (M2.2.2.2.2 - s0) Q (F0 m (tt + j2) ls' []) := fun ls' hl' =>
                      hgo ad' tys' ws' H1 locs1 ls' [] ⟨p4, p5, ⟨_, hl', vj_lo.clr hl2 i2 (.ref q9)⟩, trivial⟩ ⟨Nat.le_trans hc0.1 (vr_le n _ _ _ _ h4).1, hc0.2.1.tr p1, hc0.2.2.tr p2⟩ (Nat.le_trans hs0 (vr_le n _ _ _ _ h4).2)
                    show W p l e R s m args below meth c H1 locs1 _ _ Q (F0 m y.2.2.1 ls [.ref q9])
                    rw [y2]
                    rcases vz_or hk4 with hk4 | hk4
                    · obtain ⟨hk4, z4⟩ := vz_and hk4
                      obtain ⟨z5, z6⟩ := vz_and hk4
                      have z5 := vz_dec z5
                      subst z5
                      exact lv_astore_n hx hb (vz_dec z4) (vz_fin i2 (vz_dec z6)) hl1 hk0 rfl fin
                    · obtain ⟨z5, z4⟩ := vz_and hk4
                      have z5 := vz_dec z5
                      subst z5
                      exact lv_astore hx hb (vz_dec z4) hl1 hk0 rfl fin
                · cases h5
              · cases h5
          · -- on to the caller
            have hnil : vs_hd k = [] := by
              unfold vj_catch at h5
              rw [if_neg h28b] at h5
              dsimp only at h5
              split at h5
              · assumption
              · split at h5
                · split at h5 <;> cases h5
                · cases h5
            exact hOut hnil x hx3 h6 pc ad' tys' ws' H1 locs1 ls _ ce q9 (hc0.2.1.tr p1) (hc0.2.2.tr p2) p4 p5 p6 p7 p8
      · cases e1
      · cases e1
      · cases e1
    · have hM : M = M' := by
        have h3 := hstep _ h1
        rcases vc_kind L xs h3 with ⟨z, e1, -⟩ | ⟨how, hop, hcond, e1⟩ | ⟨-, -, e1⟩ | ⟨-, v, -, -, e1⟩ | ⟨-, -, -, e1⟩
        all_goals cases e1
        all_goals rfl
      subst hM
      exact hEnd pc lv st v h2 h1
    · exact hThr pc lv st M x h2 h1
end VW
