/-! ===== every method's contract ===== -/
section VY
theorem vz_lglen (vs : List Value) : (lg_sl vs).length = (vs.map fun v => v.category).sum := by
  induction vs with
  | nil => rfl
  | cons v vs ih =>
    have h : lg_sl (v :: vs) = (if v.category = 2 then [Slot.val v, .second] else [.val v]) ++ lg_sl vs := rfl
    rw [h, List.length_append, ih, List.map_cons, List.sum_cons]
    rcases lv_cat v with e | e
    · rw [e]; rfl
    · rw [e]; rfl
theorem vz_end {p : Program} {l : Launch} {e : Env} {R : Room} {s : State} {m : MethodId} {args : Array Value} {below : List Frame} {meth : Method} {c : Code} {k b L : Nat} {xs : Nat → Int32} {en : Nat → Nat} {sz : Nat} {D : va_G} {c0 s0 : Nat} {ad0 : List Nat} {tys0 : List (ClassId × FieldType)} (hC : vz_C p l R s m args meth c k b L xs en sz) (hk : k < vt_law) {r : List Value ⊕ Nat} {M' : vj_M} {XC : String → State → State → Prop}
    {pc : Nat} {lv : List (Option Value)} {st v : List Value} (hr : r = .inl v) (hs : vr_step L xs (k, pc, lv, st) M' = some (.inr (.inr (.inl (v, M'))))) :
    vz_G p l e R s m args below meth c (vx_MQ below (vz_Qc b en sz D ad0 tys0 r M') XC args s (M'.2.2.2.1 - c0) (M'.2.2.2.2 - s0) (vz_A sz)) k b en sz D c0 s0 ad0 tys0 pc lv st M' := by
  intro ad tys ws H locs ls sc hX hc0 hs0
  obtain ⟨hx, hb, hml, hown, hts, hlocks, hrt, hinit, htr, ⟨hfr, hlo⟩, hst9⟩ := id hC
  obtain ⟨hB, hS, hl, hst⟩ := hX
  have hok := vd_ok k (Nat.le_of_lt hk) pc
  obtain ⟨op, i, j, t, hrow⟩ : ∃ op i j t, vt_code k pc = (op, i, j, t) := ⟨_, _, _, _, rfl⟩
  rw [hrow] at hok
  have hstep : vj_op vt_mi vt_nf vt_ts vt_td L xs op i j t k pc lv st M' = some (.inr (.inr (.inl (v, M')))) := by
    unfold vr_step vj_step at hs
    dsimp only at hs
    rw [hrow] at hs
    exact hs
  obtain ⟨-, -, -, -, -, -, -, -, m9, -, -, -⟩ := vz_mok k hk
  unfold vs_rok at m9
  have fin : ∀ (vo : Option Value), vj_l (vj_r b en ad) v vo.toList → ∀ t : State, t.heap = H → s.WarmedH t.vm → vz_Qc b en sz D ad0 tys0 r M' args s (.returned vo) t := fun vo hvo t ht hW =>
    ⟨v, vo, hr, rfl, ⟨ad, tys, ws, hc0.2.1, hc0.2.2, hvo, va_K.moved hW.alike hB.1, by rw [ht]; exact hB.2.1, hB.2.2.1, hB.2.2.2⟩, hS.F ht⟩
  rcases vc_kind L xs hstep with ⟨z, e1, -⟩ | ⟨how, hop, hcond, e1⟩ | ⟨-, -, e1⟩ | ⟨hop, v1, hst1, hfit, e1⟩ | ⟨hop, hst1, hk0, e1⟩
  · cases e1
  · cases e1
  · cases e1
  · cases e1
    subst hst1
    match sc, hst with
    | [w], ⟨hw, _⟩ =>
      rcases hop with rfl | rfl | rfl | rfl
      · obtain ⟨hd, hkind⟩ := vz_and hok
        rcases vz_or hkind with hkind | hkind
        · have hkind := vz_dec hkind
          rw [hkind] at hfit m9
          have m9 : (match vs_rt k with
            | some .int => true
            | _ => false) = true := m9
          cases v1 with
          | int x =>
            have hw : w = .int x := hw
            subst hw
            split at m9
            · rename_i hrt2
              exact vx_ret (W.iret hx hb (hrt.trans hrt2) (fin (some (.int x)) ⟨rfl, trivial⟩) hS.2.2 (vz_dec hd) hlocks)
            · cases m9
          | _ => cases hfit
        · have hkind := vz_dec hkind
          rw [hkind] at hfit m9
          have m9 : (match vs_rt k with
            | some .boolean => true
            | _ => false) = true := m9
          cases v1 with
          | int x =>
            have hw : w = .int x := hw
            subst hw
            split at m9
            · rename_i hrt2
              exact vx_ret (W.zret hx hb (hrt.trans hrt2) (vz_01 hfit).1 (fin (some (.int x)) ⟨rfl, trivial⟩) hS.2.2 (vz_dec hd) hlocks)
            · cases m9
          | _ => cases hfit
      · obtain ⟨hd, hkind⟩ := vz_and hok
        have hkind := vz_dec hkind
        rw [hkind] at hfit m9
        have m9 : (match vs_rt k with
          | some (.object _) => true
          | some (.array _) => true
          | _ => false) = true := m9
        have hrf : w = .null ∨ ∃ a, w = .ref a := by
          cases v1 with
          | null => exact Or.inl hw
          | ref q => obtain ⟨a, -, z⟩ := hw; exact Or.inr ⟨a, z⟩
          | _ => cases hfit
        split at m9
        · rename_i z hrt2
          exact vx_ret (W.aret hx hb (hrt.trans hrt2) (Or.inl ⟨_, rfl⟩) hrf (fin (some w) ⟨hw, trivial⟩) hS.2.2 (vz_dec hd) hlocks)
        · rename_i z hrt2
          exact vx_ret (W.aret hx hb (hrt.trans hrt2) (Or.inr ⟨_, rfl⟩) hrf (fin (some w) ⟨hw, trivial⟩) hS.2.2 (vz_dec hd) hlocks)
        · cases m9
      · obtain ⟨hd, hkind⟩ := vz_and hok
        have hkind := vz_dec hkind
        rw [hkind] at hfit m9
        have m9 : (match vs_rt k with
          | some .long => true
          | _ => false) = true := m9
        cases v1 with
        | long x =>
          have hw : w = .long x := hw
          subst hw
          split at m9
          · rename_i hrt2
            exact vx_ret (W.lret hx hb (hrt.trans hrt2) (fin (some (.long x)) ⟨rfl, trivial⟩) hS.2.2 (vz_dec hd) hlocks)
          · cases m9
        | _ => cases hfit
      · obtain ⟨hd, hkind⟩ := vz_and hok
        have hkind := vz_dec hkind
        rw [hkind] at hfit m9
        have m9 : (match vs_rt k with
          | some .double => true
          | _ => false) = true := m9
        cases v1 with
        | double x =>
          have hw : w = .double x := hw
          subst hw
          split at m9
          · rename_i hrt2
            exact vx_ret (W.dret hx hb (hrt.trans hrt2) (fin (some (.double x)) ⟨rfl, trivial⟩) hS.2.2 (vz_dec hd) hlocks)
          · cases m9
        | _ => cases hfit
  · cases e1
    subst hst1
    subst hop
    match sc, hst with
    | [], _ =>
      rw [hk0] at m9
      have m9 : (match vs_rt k with
        | none => true
        | _ => false) = true := m9
      split at m9
      · rename_i hrt2
        exact vx_ret (W.vret hx hb (hrt.trans hrt2) (fin none trivial) hS.2.2 (vz_dec hok) hlocks)
      · cases m9
theorem vz_thr {p : Program} {l : Launch} {e : Env} {R : Room} {s : State} {m : MethodId} {args : Array Value} {below : List Frame} {meth : Method} {c : Code} {k b L : Nat} {xs : Nat → Int32} {en : Nat → Nat} {sz : Nat} {D : va_G} {c0 s0 : Nat} {ad0 : List Nat} {tys0 : List (ClassId × FieldType)} (hC : vz_C p l R s m args meth c k b L xs en sz) (hk : k ≤ vt_law) (htab : vs_hd k = [] → ∀ x ∈ c.exceptionTable.toList, False) {r : List Value ⊕ Nat} {M' : vj_M} {Qc : Array Value → State → Outcome → State → Prop} (hR : M'.2.2.2.1 - c0 ≤ R.cells ∧ M'.2.2.2.2 - s0 ≤ R.slots)
    {pc : Nat} {lv : List (Option Value)} {st : List Value} {M1 : vj_M} {x : Nat} (hr : r = .inr x) (hs : vr_step L xs (k, pc, lv, st) M1 = some (.inr (.inr (.inr (x, M'))))) :
    vz_G p l e R s m args below meth c (vx_MQ below Qc (vz_Xc b en sz D ad0 tys0 r M') args s (M'.2.2.2.1 - c0) (M'.2.2.2.2 - s0) (vz_A sz)) k b en sz D c0 s0 ad0 tys0 pc lv st M1 := by
  intro ad tys ws H locs ls sc hX hc0 hs0
  obtain ⟨hx, hb, hml, hown, hts, hlocks, hrt, hinit, htr, ⟨hfr, hlo⟩, hst9⟩ := id hC
  obtain ⟨hB, hS, hl, hst⟩ := hX
  have hok := vd_ok k hk pc
  obtain ⟨op, i, j, t, hrow⟩ : ∃ op i j t, vt_code k pc = (op, i, j, t) := ⟨_, _, _, _, rfl⟩
  rw [hrow] at hok
  have hstep : vj_op vt_mi vt_nf vt_ts vt_td L xs op i j t k pc lv st M1 = some (.inr (.inr (.inr (x, M')))) := by
    unfold vr_step vj_step at hs
    dsimp only at hs
    rw [hrow] at hs
    exact hs
  rcases vc_kind L xs hstep with ⟨z, e1, -⟩ | ⟨how, hop, hcond, e1⟩ | ⟨hop, hcat, e1⟩ | ⟨hop, v1, hst1, hfit, e1⟩ | ⟨hop, hst1, hk0, e1⟩
  · cases e1
  · cases e1
  · cases e1
    subst hop
    have hcat := vz_catR hst hcat
    have l7 := hc0.1
    have hr1 : M1.2.2.2.1 + 1 - c0 ≤ R.cells := hR.1
    have hr2 : M1.2.2.2.2 + 6 - s0 ≤ R.slots := hR.2
    have hok : (match vs_wa (t / 4096), vs_wa (t % 4096) with
      | .classLink own idx C, .stringRef own2 is _ => decide (own = vs_own k) && decide (own2 = vs_own k) && decide (C = vs_ex x) && decide (x < 3) && decide (is = j / 2 % 65536) && decide (decode (vs_by k) pc = .ok (.new idx, 3)) && decide (decode (vs_by k) (pc + 3) = .ok (.dup, 1)) &&
          ((decide (j % 2 = 0) && decide (decode (vs_by k) (pc + 4) = .ok (.ldc is, 2)) && decide (decode (vs_by k) (pc + 6) = .ok (.invokespecial (j / 131072), 3)) && decide (decode (vs_by k) (pc + 9) = .ok (.athrow, 1))) ||
           (decide (j % 2 = 1) && decide (decode (vs_by k) (pc + 4) = .ok (.ldc_w is, 3)) && decide (decode (vs_by k) (pc + 7) = .ok (.invokespecial (j / 131072), 3)) && decide (decode (vs_by k) (pc + 10) = .ok (.athrow, 1)))) &&
          decide (6 ≤ vs_fr k) && decide (90 ≤ vs_lw k) && decide (vs_hd k = []) && decide (vs_own k = vs_io) && decide (j / 131072 = vs_ic x) && goodWord (.classLink own idx C)
      | _, _ => false) = true := hok
    split at hok
    · rename_i own idx C own2 is tx hw1 hw2
      obtain ⟨hok, w15⟩ := vz_and hok
      obtain ⟨hok, w14⟩ := vz_and hok
      obtain ⟨hok, w13⟩ := vz_and hok
      obtain ⟨hok, w12⟩ := vz_and hok
      obtain ⟨hok, w11⟩ := vz_and hok
      obtain ⟨hok, w10⟩ := vz_and hok
      obtain ⟨hok, w8⟩ := vz_and hok
      obtain ⟨hok, w7⟩ := vz_and hok
      obtain ⟨hok, w6⟩ := vz_and hok
      obtain ⟨hok, w5⟩ := vz_and hok
      obtain ⟨hok, w4⟩ := vz_and hok
      obtain ⟨hok, w3⟩ := vz_and hok
      obtain ⟨w1, w2⟩ := vz_and hok
      have w1 := vz_dec w1
      have w2 := vz_dec w2
      have w3 := vz_dec w3
      have w4 := vz_dec w4
      have w6 := vz_dec w6
      have w7 := vz_dec w7
      have w10 := vz_dec w10
      have w11 := vz_dec w11
      have w12 := vz_dec w12
      have w13 := vz_dec w13
      have w14 := vz_dec w14
      subst w1; subst w2; subst w3
      have haok := vd_aok x w4
      unfold vs_aok at haok
      obtain ⟨haok, a4⟩ := vz_and haok
      obtain ⟨haok, a3⟩ := vz_and haok
      obtain ⟨a1, a2⟩ := vz_and haok
      have a1 := vz_dec a1
      have hlink : (Cond.classLink (vs_own k) idx (vs_ex x)).before args s = true := vz_word hw1 (by intro z; cases z) w15 hts
      have hini : (Cond.initialized (vs_ex x)).before args s = true := vz_wis a4 (by intro z; cases z) hts
      obtain ⟨sa, hstr⟩ : ∃ sa, vk_R (vs_own k) is tx sa s := by
        rw [w13]
        have hm := vs_wa_mem hw2 (by intro z; cases z)
        rw [w13] at hm
        exact hst9.2.2.2.2.2.2.2.1 _ _ hm
      have hat : ∀ w ∈ vx_atS (vs_own k) (j / 131072) (vs_ex x) vs_up, w.before args s = true := by
        rw [w13, w14]
        intro w hw
        have ho : vx_ot w = true := List.all_eq_true.mp a3 _ (List.mem_cons_of_mem _ hw)
        rw [a1] at hw
        obtain ⟨pl, hpl, rfl⟩ := List.mem_map.mp hw
        rcases vz_or (List.all_eq_true.mp a2 pl hpl) with hg | hg
        · by_cases z : vs_wa pl = .tt
          · rw [z]; rfl
          · exact hts _ (List.mem_filter.mpr ⟨vs_wa_mem rfl z, hg⟩)
        · refine vz_face (State.WarmedH.refl s) hg ho (hst9.2.2.2.2.2.2.2.2.2.2.2.1 _ (vs_wa_mem rfl ?_) hg ho)
          intro z
          rw [z] at hg
          exact absurd hg (by decide)
      have hgood : ∀ w ∈ Cond.classLink (vs_own k) idx (vs_ex x) :: Cond.initialized (vs_ex x) :: vx_atS (vs_own k) (j / 131072) (vs_ex x) vs_up, vx_ot w = true := by
        rw [w14]
        intro w hw
        rcases List.mem_cons.mp hw with rfl | hw
        · unfold vx_ot
          rw [w15]
          exact Bool.or_true _
        · rw [w13] at hw
          exact List.all_eq_true.mp a3 _ hw
      have hfit : Bundle.fit (vs_ex x) = true := by
        match x, w4 with
        | 0, _ => decide +kernel
        | 1, _ => decide +kernel
        | 2, _ => decide +kernel
      have hfit2 : ∀ n ∈ vs_up, Bundle.fit n = true := by decide +kernel
      have hxx : ∀ t : State, s.vm.Alike t.vm → H.size ≤ t.heap.size → (∀ q : Nat, q < H.size → t.heap[q]? = H[q]?) → vz_Xc b en sz D ad0 tys0 r (M1.1, M1.2.1, M1.2.2.1, M1.2.2.2.1 + 1, M1.2.2.2.2 + 6) (vs_ex x) s t := by
        intro t hvm hz hq
        refine ⟨x, hr, w4, rfl, ⟨ad, tys, ws, hc0.2.1, hc0.2.2, trivial, va_K.moved hvm hB.1, hB.2.1.kept (fun kk q hkk => hq _ (vx_lt hB.2.1 hkk)), hB.2.2.1, hB.2.2.2⟩, Nat.le_trans hS.1 hz, fun q h1 h2 => ?_⟩
        rw [hq q (Nat.lt_of_lt_of_le h1 hS.1)]
        exact hS.2.1 q h1 h2
      rcases vz_or w8 with w8 | w8
      · obtain ⟨w8, v4⟩ := vz_and w8
        obtain ⟨w8, v3⟩ := vz_and w8
        obtain ⟨v1, v2⟩ := vz_and w8
        exact vx_throwS (names := vs_up) (ic := j / 131072) hx hb htr hown hfit hfit2 hlink hini hstr hat hgood hst9.2.2.2.2.2.1 hst9.2.2.2.2.2.2.1 hS (vz_lsz hl hml) w6 w7 (vz_dec v2) (vz_dec v3) (vz_dec v4) (fun z hz => (htab w12 z hz).elim) (by show 2 + 3 < R.frames; omega) (by show _ + (13 * (2 + 1) + 43) ≤ R.locals; omega) (by omega) (by omega) hlocks hxx hS.2.2 (by show _ ≤ M1.2.2.2.1 + 1 - c0; omega) (by show _ ≤ M1.2.2.2.2 + 6 - s0; omega)
      · obtain ⟨w8, v4⟩ := vz_and w8
        obtain ⟨w8, v3⟩ := vz_and w8
        obtain ⟨v1, v2⟩ := vz_and w8
        exact vx_throwSW (names := vs_up) (ic := j / 131072) hx hb htr hown hfit hfit2 hlink hini hstr hat hgood hst9.2.2.2.2.2.1 hst9.2.2.2.2.2.2.1 hS (vz_lsz hl hml) w6 w7 (vz_dec v2) (vz_dec v3) (vz_dec v4) (fun z hz => (htab w12 z hz).elim) (by show 2 + 3 < R.frames; omega) (by show _ + (13 * (2 + 1) + 43) ≤ R.locals; omega) (by omega) (by omega) hlocks hxx hS.2.2 (by show _ ≤ M1.2.2.2.1 + 1 - c0; omega) (by show _ ≤ M1.2.2.2.2 + 6 - s0; omega)
    · cases hok
  · cases e1
  · cases e1
theorem vz_all (l : Launch) (htr : l.stackTraces = false) (b L : Nat) (xs : Nat → Int32) (en : Nat → Nat) (sz : Nat) (D : va_G) : ∀ n a : Nat, a < vt_law → vz_S l b L xs en sz D n a := by
  intro n
  induction n using Nat.strongRecOn with
  | _ n ih =>
  intro a ha vs M M' r ad tys ws hcat hrun
  obtain ⟨m1, m2, m3, m4, m5, m6, m7, m8, m9, m10, m11, m12⟩ := vz_mok a ha
  have main : ∀ (p : Program) (e : Env) (s : State) (m : MethodId) (args : Array Value) (below : List Frame) (meth : Method) (c : Code) (s₁ : State), BodyLoose p l (vs_y a) (headSpec (vz_ws a) (vz_rm a (M'.2.2.2.1 - M.2.2.2.1) (M'.2.2.2.2 - M.2.2.2.2))) (vs_by a) (vs_ml a) (vs_rt a) e s m args below meth c s₁ → c.maxLocals = vs_ml a → (vs_hd a = [] → ∀ x ∈ c.exceptionTable.toList, False) → (vs_hd a ≠ [] → c.exceptionTable.toList = tableOf (vs_hh a)) → vz_Pc b L xs en sz D vs M ad tys ws args s →
      W p l e (headSpec (vz_ws a) (vz_rm a (M'.2.2.2.1 - M.2.2.2.1) (M'.2.2.2.2 - M.2.2.2.2))).room s m args below meth c s.heap [] 0 0 (vx_MQ below (vz_Qc b en sz D ad tys r M') (vz_Xc b en sz D ad tys r M') args s (M'.2.2.2.1 - M.2.2.2.1) (M'.2.2.2.2 - M.2.2.2.2) (vz_A sz)) (entryFrame m args (vs_ml a)) := by
    intro p e s m args below meth c s₁ B hml ht1 ht2 hP
    obtain ⟨⟨vals, rfl, hv⟩, hst9, hB⟩ := hP
    have hts := atoms_spec (ws := vz_ws a) B.pre
    have hown : s.vm.findClass (vs_own a) = some m.cls := by
      rw [← m4]
      exact findClass_of_methodNamed B.named
    have hC : vz_C p l (headSpec (vz_ws a) (vz_rm a (M'.2.2.2.1 - M.2.2.2.1) (M'.2.2.2.2 - M.2.2.2.2))).room s m vals.toArray meth c a b L xs en sz :=
      ⟨B.exec, B.bytes, hml, hown, fun w hw => hts w (List.mem_cons_of_mem _ hw), B.notSynchronized, B.returns, fun q => by rw [(name_of_methodNamed B.named B.method).1]; exact (m12 q).2.1, htr, ⟨Nat.le_refl _, Nat.le_refl _⟩, hst9⟩
    have hl := lv_entry vals (n := vs_ml a) (by rw [vz_lglen, ← vj_catOf hv]; exact hcat)
    rw [lg_entry_eq]
    generalize (lg_sl vals ++ List.replicate (vs_ml a - (lg_sl vals).length) Slot.unset).toArray = ls at hl ⊢
    have hG := vz_walk (e := e) (below := below) (Q := vx_MQ below (vz_Qc b en sz D ad tys r M') (vz_Xc b en sz D ad tys r M') vals.toArray s (M'.2.2.2.1 - M.2.2.2.1) (M'.2.2.2.2 - M.2.2.2.2) (vz_A sz)) (c0 := M.2.2.2.1) (s0 := M.2.2.2.2) (ad0 := ad) (tys0 := tys) (D := D) hC (Nat.le_of_lt ha) (N := n) (fun n' hn' a' ha' => ih n' hn' a' ha') (r := r) (M' := M') ⟨Nat.le_refl _, Nat.le_refl _⟩
      (fun pc lv st v hr hs => vz_end hC ha hr hs)
      (fun pc lv st M1 x hr hs => vz_thr hC (Nat.le_of_lt ha) ht1 ⟨Nat.le_refl _, Nat.le_refl _⟩ hr hs)
      (fun hnil x hx3 hr pc ad' tys' ws' H locs ls sc ce q9 p1 p2 p4 p5 p6 p7 p8 => by
        refine vx_out (fun z hz => (ht1 hnil z hz).elim) B.notSynchronized p6 p7 p8 (fun t ht hvm => ⟨x, hr, hx3, rfl, ⟨ad', tys', ws', p1, p2, trivial, va_K.moved hvm p4.1, by rw [ht]; exact p4.2.1, p4.2.2.1, p4.2.2.2⟩, p5.F ht⟩) p5.2.2 (Nat.le_refl _) (Nat.le_refl _))
      ht2 m8 n (Nat.le_refl n) 0 _ [] M hrun
    have hfin := hG ad tys ws s.heap [] ls [] ⟨hB, va_S.rf, vj_argsOf hv hl, trivial⟩ ⟨Nat.le_refl _, vs_pre.rf, vs_pre.rf⟩ (Nat.le_refl _)
    rw [Nat.sub_self, Nat.sub_self] at hfin
    exact hfin
  rcases m2 with ⟨hcode, hnil⟩ | ⟨hcode, hnil⟩
  · exact vx_ofW (by rw [m4]; exact m7) (ws' := vs_GW) (by unfold vz_ws; rw [hcode]) (fun p e s m args below meth c s₁ B hml ht hP => main p e s m args below meth c s₁ B hml (fun _ => ht) (fun z => absurd hnil z) hP)
  · exact vx_ofWH (by rw [m4]; exact m7) (ws' := vs_GW) (hh := vs_hh a) (by unfold vz_ws; rw [hcode]) (fun p e s m args below meth c s₁ B hml hP => main p e s m args below meth c s₁ B hml (fun z => absurd z hnil) (fun _ => by
      have hts := atoms_spec (ws := vz_ws a) B.pre
      exact vx_table (x := vs_y a) B (by have := hts _ List.mem_cons_self; rw [hcode] at this; exact this)) hP)
end VY
