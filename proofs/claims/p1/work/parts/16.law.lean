/-! ===== the law, from its entry: what is given of the start; the small machine's run of the law is the machine's ===== -/
section VL
noncomputable def vl_given : List Cond := flatC (Jvm.Cond.and given_1 narrow_1)
noncomputable def vl_str (w : Cond) : Bool := match w with
  | .stringRef own i _ => decide (Cond.exactly (.string own i) "java/lang/String" ∈ vl_given)
  | _ => true
set_option maxRecDepth 1000000 in
theorem vl_strs : lw_tbl.all vl_str = true := by decide +kernel
def vl_ens (i : Nat) : Term := .static RX5 (vs_en i) "LSharedPalimpsest$What;"
set_option maxRecDepth 1000000 in
theorem vl_enx : ∀ i, i < 5 → Cond.exactly (vl_ens i) RX5 ∈ vl_given := by decide +kernel
set_option maxRecDepth 1000000 in
theorem vl_enl : ∀ i, i < 5 → Cond.laysStatic RX5 (vs_en i) "LSharedPalimpsest$What;" ∈ lw_tbl := by decide +kernel
set_option maxRecDepth 1000000 in
theorem vl_eni : Cond.initialized RX5 ∈ lw_tbl := by decide +kernel
set_option maxRecDepth 1000000 in
theorem vl_enn : ∀ i, i < 5 → ∀ j, j < 5 → i ≠ j → (Cond.not (.eq (vl_ens i) (vl_ens j)) ∈ vl_given ∨ Cond.not (.eq (vl_ens j) (vl_ens i)) ∈ vl_given) := by decide +kernel
set_option maxRecDepth 1000000 in
theorem vl_thr : Cond.laysStatic Bundle.tN "UNASSIGNED_STACK" Bundle.steD ∈ lw_tbl ∧ Cond.laysStatic Bundle.tN "SUPPRESSED_SENTINEL" Bundle.listD ∈ lw_tbl ∧ Cond.initialized Bundle.tN ∈ lw_tbl ∧ Cond.isRef (.static Bundle.tN "UNASSIGNED_STACK" Bundle.steD) ∈ vl_given ∧ Cond.isRef (.static Bundle.tN "SUPPRESSED_SENTINEL" Bundle.listD) ∈ vl_given := by decide +kernel
set_option maxRecDepth 1000000 in
theorem vl_nc : ∀ x, x < 3 → ∀ y, y < 3 → x ≠ y → Cond.not (.castable (vs_ex x) (vs_ex y)) ∈ vl_given := by decide +kernel
theorem vl_cwb : (match vs_cw vt_law with
  | .selects _ _ _ => true
  | _ => false) = true := by decide +kernel
theorem vl_cw : ∃ C y z, vs_cw vt_law = .selects C y z := by
  have h := vl_cwb
  split at h
  · rename_i C y z h1
    exact ⟨C, y, z, h1⟩
  · cases h
theorem vl_tbl {w : Cond} (h : w ∈ vs_GW) : w ∈ lw_tbl := by
  unfold vs_GW at h
  exact (List.mem_filter.mp h).1
theorem vl_k42 {k pc i j t : Nat} (h : vs_ok k pc (42, i, j, t) = true) : decode (vs_by k) pc = .ok (.ireturn, 1) := vz_dec (vz_and h).1
theorem vl_k44 {k pc i j t : Nat} (h : vs_ok k pc (44, i, j, t) = true) : (vt_mi k).2.2.2.1 = 5 := vz_dec (vz_and h).2
theorem vl_k45 {k pc i j t : Nat} (h : vs_ok k pc (45, i, j, t) = true) : (vt_mi k).2.2.2.1 = 3 := vz_dec (vz_and h).2
theorem vl_k46 {k pc i j t : Nat} (h : vs_ok k pc (46, i, j, t) = true) : (vt_mi k).2.2.2.1 = 4 := vz_dec (vz_and h).2
set_option maxRecDepth 1000000 in
theorem vl_inst : ∀ k, k < vs_nc → Cond.instantiable (vs_cn k) (vs_N k) ∈ lw_tbl := by decide +kernel
theorem vl_by : vs_by vt_law = code := by
  obtain ⟨C, y, z, h⟩ := vl_cw
  unfold vs_by
  rw [h]
theorem vl_rt : vs_rt vt_law = ret := by
  obtain ⟨C, y, z, h⟩ := vl_cw
  unfold vs_rt
  rw [h]
theorem vl_nums : vs_ml vt_law = maxLocals ∧ vs_own vt_law = R_law ∧ (vs_mw vt_law).2.2.1 = 3 ∧ vs_fr vt_law ≤ room_1.frames ∧ vs_lw vt_law ≤ room_1.locals ∧ vs_hd vt_law = [] := by decide +kernel
/-- all that a walk needs of the start -/
theorem vl_St {s : State} {b L : Nat} {xs : Nat → Int32} (hts : ∀ w ∈ lw_tbl, w.before #[Value.ref b] s = true) (hX : va_X b L xs s s.heap) (hbl : b < s.heap.size) (hgv : (Jvm.Cond.and given_1 narrow_1).before #[Value.ref b] s = true) : ∃ en : Nat → Nat, vz_St b L xs en s.heap.size s s.heap := by
  have hg : ∀ w ∈ vl_given, w.before #[Value.ref b] s = true := flat_of_before _ hgv
  have hA : ∀ a : Nat, a < s.heap.size → ¬ vz_A s.heap.size a := fun a h => Nat.not_le.mpr h
  have hen : ∀ i, ∃ t : Nat, i < 5 → (vl_ens i).eval #[Value.ref b] s none [] s = some (.ref t) := by
    intro i
    by_cases hi : i < 5
    · obtain ⟨a, -, -, -, h1, -⟩ := Cond.exactly_spec (hg _ (vl_enx i hi))
      exact ⟨a, fun _ => h1⟩
    · exact ⟨0, fun h => absurd h hi⟩
  refine ⟨fun i => Classical.choose (hen i), Nat.le_refl _, hbl, hX, fun i hi => va_Zref (hts _ (vl_enl i hi)) (hts _ vl_eni) (Classical.choose_spec (hen i) hi) hA, fun i j hi hj he => ?_, vx_Zqof (hts _ vl_thr.1) (hts _ vl_thr.2.2.1) (hg _ vl_thr.2.2.2.1) hA, vx_Zqof (hts _ vl_thr.2.1) (hts _ vl_thr.2.2.1) (hg _ vl_thr.2.2.2.2) hA, fun i tx hm => ?_, fun a i r n d h hm => va_Nw.of rfl (hts _ hm), fun a i x h hm => va_Nw.of rfl (hts _ hm), fun C hm => va_AO.of (hts _ hm), fun w hm hf ho => vz_face (State.WarmedH.refl s) hf ho (hts w hm), ?_⟩
  · by_cases hij : i = j
    · exact hij
    · rcases vl_enn i hi j hj hij with h | h
      · exact absurd he (va_neR (hg _ h) (Classical.choose_spec (hen i) hi) (Classical.choose_spec (hen j) hj))
      · exact absurd he.symm (va_neR (hg _ h) (Classical.choose_spec (hen j) hj) (Classical.choose_spec (hen i) hi))
  · have h1 := List.all_eq_true.mp vl_strs _ hm
    have h2 := hg _ (vz_dec (show decide (Cond.exactly (.string vs_io i) "java/lang/String" ∈ vl_given) = true from h1))
    obtain ⟨a, -, -, -, h3, -⟩ := Cond.exactly_spec h2
    refine ⟨a, vk_R.of (A := #[Value.ref b]) ?_ ?_⟩
    · exact hts _ hm
    · exact h3
  · exact fun _ x y hx hy hn => va_Nc.of (hg _ (vl_nc x hx y hy hn))
def vl_M0 : vj_M := (fun _ => .inr (0, []), 8, 0, 0, 0)
theorem vl_start {p : Program} {e : Env} {s : State} {m : MethodId} {below : List Frame} {meth : Method} {c : Code} (l : Launch) (hflags : l.flags = flags0) {b L : Nat} {xs : Nat → Int32} (C0 : lw_At p s m meth c b L xs) {n : Nat} {M' : vj_M} (hrun : vr_run L xs n (vt_law, 0, vj_args maxLocals [.ref 0], []) vl_M0 = some (.inl [.int 1], M')) (hM : M'.2.2.2.1 ≤ room_1.cells ∧ M'.2.2.2.2 ≤ room_1.slots) :
    W p l e room_1 s m #[Value.ref b] below meth c s.heap [] 0 0 (lw_Z below #[Value.ref b] s) (entryFrame m ([Value.ref b] : List Value).toArray maxLocals) := by
  obtain ⟨hx, hb, hr, hml, hown, hts, hX, hbl, hlocks, hgv⟩ := id C0
  obtain ⟨n1, n2, n3, n4, n5, n6⟩ := vl_nums
  obtain ⟨en, hSt⟩ := vl_St hts hX hbl hgv
  have htr : l.stackTraces = false := by
    unfold Launch.stackTraces
    rw [hflags]
    decide +kernel
  obtain ⟨D, hK⟩ : ∃ D : va_G, va_K D vwCl [] s := by
    have hk : ∀ k : Nat, ∃ (cC : ClassId) (iS : Nat → Nat), k < vs_nc → u_Kn s (vs_cn k) (vs_T k) (vs_N k) cC iS := by
      intro k
      by_cases h : k < vs_nc
      · obtain ⟨cC, iS, h1⟩ := u_known hts (fun w hw => vl_tbl (vz_uin k h w hw)) (hts _ (vl_inst k h))
        exact ⟨cC, iS, fun _ => h1⟩
      · exact ⟨0, fun _ => 0, fun h2 => absurd h2 h⟩
    refine ⟨(fun k => Classical.choose (hk k), fun k => Classical.choose (Classical.choose_spec (hk k))), fun k q hq => ?_, fun k q h => by simp at h⟩
    have hlt : k < vs_nc := (List.getElem?_eq_some_iff.mp hq).1
    have h1 := Classical.choose_spec (Classical.choose_spec (hk k)) hlt
    rw [(vz_nm k hlt).2.2] at hq
    cases hq
    exact h1
  have hB : vz_B b en s.heap.size D s s.heap [] [] [] vl_M0 := ⟨hK, fun k q h => by simp at h, ⟨fun i j p q h => by simp at h, fun k q h => by simp at h⟩, rfl, rfl, rfl, fun i e h => by simp at h⟩
  have hC : vz_C p l room_1 s m #[Value.ref b] meth c vt_law b L xs en s.heap.size :=
    ⟨hx, hb.trans vl_by.symm, hml.trans n1.symm, (by rw [n2]; exact hown), (fun w hw => hts w (vl_tbl hw)), hlocks, hr.trans vl_rt.symm, (fun q => by rw [n3] at q; cases q), htr, ⟨n4, n5⟩, hSt⟩
  have hl := lv_entry ([.ref b]) (n := maxLocals) (Nat.le_of_ble_eq_true rfl)
  rw [lg_entry_eq]
  generalize (lg_sl ([.ref b]) ++ List.replicate (maxLocals - (lg_sl ([.ref b])).length) Slot.unset).toArray = ls at hl ⊢
  have hv : vj_l (vj_r b en []) [.ref 0] [.ref b] := ⟨⟨b, rfl, rfl⟩, trivial⟩
  have hhok : vs_hok (vs_own vt_law) (vs_hd vt_law) (vs_hh vt_law) = true := by
    have : vs_hh vt_law = [] := by
      obtain ⟨C, y, z, h⟩ := vl_cw
      unfold vs_hh
      rw [h]
    rw [n6, this]
    rfl
  have hG := vz_walk (e := e) (below := below) (Q := lw_Z below #[Value.ref b] s) (c0 := 0) (s0 := 0) (ad0 := []) (tys0 := []) (D := D) hC (Nat.le_refl _) (N := n) (fun n' _ a ha => vz_all l htr b L xs en s.heap.size D n' a ha) (r := .inl [.int 1]) (M' := M') ⟨hM.1, hM.2⟩
    (fun pc lv st v hrv hs => by
      cases hrv
      intro ad tys ws H locs ls sc hX9 hc0 hs0
      obtain ⟨hB9, hS9, hl9, hst9⟩ := hX9
      have hok := vd_ok vt_law (Nat.le_refl _) pc
      obtain ⟨op, i, j, t, hrow⟩ : ∃ op i j t, vt_code vt_law pc = (op, i, j, t) := ⟨_, _, _, _, rfl⟩
      rw [hrow] at hok
      have hstep : vj_op vt_mi vt_nf vt_ts vt_td L xs op i j t vt_law pc lv st M' = some (.inr (.inr (.inl ([.int 1], M')))) := by
        unfold vr_step vj_step at hs
        dsimp only at hs
        rw [hrow] at hs
        exact hs
      have hkind : (vt_mi vt_law).2.2.2.1 = 2 := by decide +kernel
      rcases vc_kind L xs hstep with ⟨z, e1, -⟩ | ⟨how, hop, hcond, e1⟩ | ⟨-, -, e1⟩ | ⟨hop, v1, hst1, hfit, e1⟩ | ⟨hop, hst1, hk0, e1⟩
      · cases e1
      · cases e1
      · cases e1
      · cases e1
        subst hst1
        match sc, hst9 with
        | [w], ⟨hw, _⟩ =>
          have hw : w = .int 1 := hw
          subst hw
          have hdg : decode code pc = .ok (.ireturn, 1) := by
            rw [← vl_by]
            rcases hop with rfl | rfl | rfl | rfl
            · exact vl_k42 hok
            · have := vl_k44 hok; rw [hkind] at this; cases this
            · have := vl_k45 hok; rw [hkind] at this; cases this
            · have := vl_k46 hok; rw [hkind] at this; cases this
          have hd0 := Drawn.sameBut.refl s.drawn lw_cs
          refine va_forget (fun q hq => hS9.2.2 q hq) ?_
          refine W.widen (k := room_1.cells) (n := room_1.slots) (by have := hM.1; omega) (by have := hM.2; omega) ?_
          exact W.base (lw_ret hd0 hx hb hr hlocks hdg)
      · cases e1)
    (fun pc lv st M1 x hrx hs => nomatch hrx)
    (fun hnil x hx3 hrx => nomatch hrx)
    (fun z => absurd n6 z) hhok n (Nat.le_refl n) 0 _ [] vl_M0 hrun
  have hfin := hG [] [] [] s.heap [] ls [] ⟨hB, va_S.rf, by rw [n1]; exact vj_argsOf hv hl, trivial⟩ ⟨Nat.le_refl _, vs_pre.rf, vs_pre.rf⟩ (Nat.le_refl _)
  exact hfin
end VL
