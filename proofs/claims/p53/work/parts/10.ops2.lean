/-! ===== rows for single operations: things ===== -/
section VP
theorem vz_wis {i : Nat} {w : Cond} (h : vs_wis i w = true) (hw : w ≠ .tt) {args : Array Value} {s : State} (ht : ∀ w ∈ vs_GW, w.before args s = true) : w.before args s = true := by
  obtain ⟨h1, h2⟩ := vz_and h
  exact vz_word (vz_dec h1) hw h2 ht
theorem vz_fl {k ci sl t : Nat} {f : Nat → Bool} (h : vs_fl k ci sl t f = true) : ci < vs_nc ∧ sl < vs_N ci ∧ ∃ idx, f idx = true ∧ (vs_wa t = .fieldLink (vs_own k) idx (vs_T ci sl).1 (vs_T ci sl).2.1 (vs_T ci sl).2.2.1 ∨ ∃ host, vs_wa t = .fieldLinkNest (vs_own k) idx (vs_T ci sl).1 (vs_T ci sl).2.1 (vs_T ci sl).2.2.1 host) := by
  unfold vs_fl at h
  split at h
  · rename_i own idx ref n d hw
    obtain ⟨h, h5⟩ := vz_and h
    obtain ⟨h, h4⟩ := vz_and h
    obtain ⟨h, h3⟩ := vz_and h
    obtain ⟨h1, h2⟩ := vz_and h
    have h1 := vz_dec h1
    have h4 := vz_dec h4
    rw [Prod.mk.injEq, Prod.mk.injEq] at h4
    obtain ⟨e1, e2, e3⟩ := h4
    subst h1
    refine ⟨vz_dec h2, vz_dec h3, idx, h5, Or.inl ?_⟩
    rw [hw, e1, e2, e3]
  · rename_i own idx ref n d host hw
    obtain ⟨h, h5⟩ := vz_and h
    obtain ⟨h, h4⟩ := vz_and h
    obtain ⟨h, h3⟩ := vz_and h
    obtain ⟨h1, h2⟩ := vz_and h
    have h1 := vz_dec h1
    have h4 := vz_dec h4
    rw [Prod.mk.injEq, Prod.mk.injEq] at h4
    obtain ⟨e1, e2, e3⟩ := h4
    subst h1
    refine ⟨vz_dec h2, vz_dec h3, idx, h5, Or.inr ⟨host, ?_⟩⟩
    rw [hw, e1, e2, e3]
  · cases h
theorem vz_lib {k t : Nat} {y : MethodName} {f : Nat → Bool} (h : vs_lib k t y f = true) : ∃ idx, f idx = true ∧ vs_wa t = .methodLink (vs_own k) idx y ∧ 1 ≤ vs_fr k ∧ 60 ≤ vs_lw k := by
  unfold vs_lib at h
  split at h
  · rename_i own idx z hw
    obtain ⟨h, h5⟩ := vz_and h
    obtain ⟨h, h4⟩ := vz_and h
    obtain ⟨h, h3⟩ := vz_and h
    obtain ⟨h1, h2⟩ := vz_and h
    have h1 := vz_dec h1
    have h2 := vz_dec h2
    subst h1; subst h2
    exact ⟨idx, h5, hw, vz_dec h3, vz_dec h4⟩
  · cases h
theorem vz_01 {x : Int32} (h : vj_is01 (.int x) = true) : narrow .boolean (.int x) = .int x ∧ fits .boolean (.int x) = true := by
  have h : decide (x = 0 ∨ x = 1) = true := h
  rcases vz_dec h with rfl | rfl
  · exact ⟨rfl, rfl⟩
  · exact ⟨rfl, rfl⟩
/-- a value that fits its field -/
theorem vz_fitw {b : Nat} {en : Nat → Nat} {ad : List Nat} {v w : Value} (hr : vj_r b en ad v w) {ty : Nat} {d : Option FieldType} (hf : vj_fit ty v = true) (hd : vs_fok ty d = true) : ∃ ft, d = some ft ∧ narrow ft w = w ∧ fits ft w = true := by
  match ty, hf, hd with
  | 0, hf, hd =>
    have hd : decide (d = some .int) = true := hd
    cases v with
    | int x => rw [show w = .int x from hr]; exact ⟨_, vz_dec hd, rfl, rfl⟩
    | _ => cases hf
  | 1, hf, hd =>
    have hd : decide (d = some .boolean) = true := hd
    cases v with
    | int x => rw [show w = .int x from hr]; exact ⟨_, vz_dec hd, vz_01 hf⟩
    | _ => cases hf
  | 2, hf, hd =>
    have hd : decide (d = some .long) = true := hd
    cases v with
    | long x => rw [show w = .long x from hr]; exact ⟨_, vz_dec hd, rfl, rfl⟩
    | _ => cases hf
  | n + 3, hf, hd =>
    have hf : vj_isA v = true := hf
    cases d with
    | none => cases hd
    | some ft =>
      cases ft with
      | object z =>
        cases v with
        | ref q => obtain ⟨a, -, hr⟩ := hr; rw [hr]; exact ⟨_, rfl, rfl, rfl⟩
        | null => rw [show w = .null from hr]; exact ⟨_, rfl, rfl, rfl⟩
        | _ => cases hf
      | array z =>
        cases v with
        | ref q => obtain ⟨a, -, hr⟩ := hr; rw [hr]; exact ⟨_, rfl, rfl, rfl⟩
        | null => rw [show w = .null from hr]; exact ⟨_, rfl, rfl, rfl⟩
        | _ => cases hf
      | _ => cases hd
theorem vz_lsz {b : Nat} {en : Nat → Nat} {ad : List Nat} {lv : List (Option Value)} {ls : Array Slot} {k : Nat} {c : Code} (h : vj_lo b en ad lv ls (vs_ml k)) (hml : c.maxLocals = vs_ml k) : ls.size = c.maxLocals := by
  obtain ⟨z, h1, -⟩ := h
  rw [hml]
  exact h1.1
theorem vz_en {b : Nat} {en : Nat → Nat} {ad : List Nat} {x a : Nat} (h1 : 1 ≤ x) (h2 : x ≤ 5) (h : vj_ad b en ad x = some a) : a = en (x - 1) := by
  unfold vj_ad at h
  rw [if_neg (by omega), if_pos h2] at h
  exact (Option.some.inj h).symm
theorem vz_en5 {x : Nat} (h1 : 1 ≤ x) (h2 : x ≤ 5) : x - 1 < 5 := by omega
theorem vz_enx {x y : Nat} (h1 : 1 ≤ x) (h2 : 1 ≤ y) (h : x - 1 = y - 1) : x = y := by omega
theorem vz_clof {D : va_G} {tys : List (ClassId × FieldType)} {U : State} {H : Heap} {ws : va_W} {q a ci : Nat} {fs : List Value} (hK : va_K D vwCl tys U) (hP : va_P D vwCl ws H) (h : ws[q]? = some (a, .inr (ci, fs))) : ∃ r, vwCl[ci]? = some r ∧ r.1 = vs_cn ci := by
  have h1 := hP q _ h
  obtain ⟨r, h2, -⟩ := h1
  have hlt : ci < vs_nc := (List.getElem?_eq_some_iff.mp h2).1
  exact ⟨r, h2, by rw [Option.some.inj (h2.symm.trans (vz_nm ci hlt).2.2)]⟩
theorem vz_lrefl {b : Nat} {en : Nat → Nat} {ad : List Nat} : ∀ {vs : List Value}, (∀ v ∈ vs, vj_r b en ad v v) → vj_l (vj_r b en ad) vs vs
  | [], _ => trivial
  | v :: vs, h => ⟨h v List.mem_cons_self, vz_lrefl (fun w hw => h w (List.mem_cons_of_mem _ hw))⟩
def vz_flat (v : Value) : Bool := match v with
  | .int _ => true
  | .long _ => true
  | .double _ => true
  | .null => true
  | _ => false
theorem vz_flat_r {b : Nat} {en : Nat → Nat} {ad : List Nat} {v : Value} (h : vz_flat v = true) : vj_r b en ad v v := by
  cases v <;> first | rfl | cases h
theorem vz_dfok : ∀ i, i < vs_nc → ((vt_nf i).length = vs_N i ∧ (∀ j, j < vs_N i → defaultValue (vs_tyf i j) = vp_V (vt_nf i) j) ∧ (vt_nf i).all vz_flat = true) := by decide +kernel
theorem vz_dflt (i : Nat) (h : i < vs_nc) : (vt_nf i).length = vs_N i ∧ (∀ j, j < vs_N i → defaultValue (vs_tyf i j) = vp_V (vt_nf i) j) ∧ ∀ (b : Nat) (en : Nat → Nat) (ad : List Nat), vj_l (vj_r b en ad) (vt_nf i) (vt_nf i) := by
  obtain ⟨h1, h2, h3⟩ := vz_dfok i h
  exact ⟨h1, h2, fun b en ad => vz_lrefl (fun v hv => vz_flat_r (List.all_eq_true.mp h3 v hv))⟩
theorem vz_o14 : vz_Op 14 := by
  intro p l e R s m args below meth c Q k b L xs en sz D c0 s0 ad0 tys0 hC pc lv st M i j t f M' h hk hr hN
  obtain ⟨hx, hb, hml, hown, hts, hlocks, hrt, hinit, htr, ⟨hfr, hlo⟩, hst9⟩ := id hC
  have h : (match st with
    | o :: st => (match vj_obj M o with
      | some q => (match vj_at M q with
        | .inr (ci, fs) => if ci = i then (match fs[j / 4]? with
            | some v => vj_next k (pc + 3) lv (v :: st) M
            | none => none) else none
        | .inl _ => none)
      | none => none)
    | [] => none) = some (.inl (f, M')) := h
  obtain ⟨g1, g2, idx, g3, g4⟩ := vz_fl hk
  split at h
  · rename_i o st h9
    split at h
    · rename_i q hq
      split at h
      · rename_i ci fs hc
        by_cases e1 : ci = i
        · rw [if_pos e1] at h
          subst e1
          split at h
          · rename_i v hv
            obtain ⟨rfl, rfl⟩ := vz_nx h
            refine ⟨rfl, fun ad tys ws H locs ls sc hX h0 h1 => ?_⟩
            obtain ⟨hB, hS, hl, hst⟩ := hX
            match sc, hst with
            | w :: sc, ⟨h3, hst⟩ =>
              obtain ⟨a, fs', -, -, rfl, h6, h7⟩ := vz_obj hB.2.2.2 h3 hq hc
              obtain ⟨v', h8, h10⟩ := h7.at hv
              have kk := hN ad tys ws H locs ls (v' :: sc) ⟨hB, hS, hl, h10, hst⟩ h0 h1
              obtain ⟨n1, n2, n3⟩ := vz_nm ci g1
              rcases g4 with g4 | ⟨host, g4⟩
              · exact va_get hx hb hts (vz_uin ci g1) hown hB.1 hB.2.1 (q - 8) h6 n3 (j / 4) g2 (vz_word g4 (by intro z; cases z) rfl hts) (fun z hz => hz) h8 (vz_dec g3) kk
              · exact va_getN hx hb hts (vz_uin ci g1) hown hB.1 hB.2.1 (q - 8) h6 n3 (j / 4) g2 (hst9.2.2.2.2.2.2.2.2.1 _ _ _ _ _ _ (vs_wa_mem g4 (by intro z; cases z))) (fun z hz => hz) h8 (vz_dec g3) kk
          · cases h
        · rw [if_neg e1] at h; cases h
      · cases h
    · cases h
  · cases h
theorem vz_o15 : vz_Op 15 := by
  intro p l e R s m args below meth c Q k b L xs en sz D c0 s0 ad0 tys0 hC pc lv st M i j t f M' h hk hr hN
  obtain ⟨hx, hb, hml, hown, hts, hlocks, hrt, hinit, htr, ⟨hfr, hlo⟩, hst9⟩ := id hC
  have h : (match st with
    | v :: o :: st => (match vj_obj M o with
      | some q => (match vj_at M q with
        | .inr (ci, fs) => if ci = i ∧ vj_fit (j % 4) v = true ∧ j / 4 < fs.length then vj_next k (pc + 3) lv st (vj_put M q (.inr (ci, fs.set (j / 4) v))) else none
        | .inl _ => none)
      | none => none)
    | _ => none) = some (.inl (f, M')) := h
  obtain ⟨hk, hk3⟩ := vz_and hk
  obtain ⟨hk, hk2⟩ := vz_and hk
  obtain ⟨hk, hk1⟩ := vz_and hk
  obtain ⟨g1, g2, idx, g3, g4⟩ := vz_fl hk
  split at h
  · rename_i v o st h9
    split at h
    · rename_i q hq
      split at h
      · rename_i ci fs hc
        by_cases e1 : ci = i ∧ vj_fit (j % 4) v = true ∧ j / 4 < fs.length
        · rw [if_pos e1] at h
          obtain ⟨rfl, rfl⟩ := vz_nx h
          refine ⟨rfl, fun ad tys ws H locs ls sc hX h0 h1 => ?_⟩
          obtain ⟨hB, hS, hl, hst⟩ := hX
          match sc, hst with
          | w' :: w :: sc, ⟨h3b, h3, hst⟩ =>
            obtain ⟨a, fs', -, h5, rfl, h6, h7⟩ := vz_obj hB.2.2.2 h3 hq hc
            obtain ⟨ft, t1, t2, t3⟩ := vz_fitw h3b e1.2.1 hk1
            obtain ⟨e9, e8, e7⟩ := e1
            subst e9
            obtain ⟨n1, n2, n3⟩ := vz_nm ci g1
            have kk : ∀ (H1 : Heap) (locs1 : List Loc), va_P D vwCl (ws.set (q - 8) (a, .inr (ci, fs'.set (j / 4) w'))) H1 → va_D (vz_A sz) (ws.set (q - 8) (a, .inr (ci, fs'.set (j / 4) w'))) → va_S (vz_A sz) s.heap H1 locs1 → W p l e R s m args below meth c H1 locs1 (M.2.2.2.1 - c0) (M.2.2.2.2 - s0) Q (F0 m (pc + 3) ls sc) :=
              fun H1 locs1 p1 p2 p3 => hN ad tys _ H1 locs1 ls sc ⟨⟨hB.1, p1, p2, vz_put hB.2.2.2 h5 h6 ⟨rfl, vj_l.set h3b h7 (j / 4)⟩⟩, p3, hl, hst⟩ h0 h1
            have hlen : j / 4 < fs'.length := by rw [← h7.len]; exact e7
            rcases g4 with g4 | ⟨host, g4⟩
            · cases hfin : (vs_T ci (j / 4)).2.2.2 with
              | false => exact va_put hx hb hts (vz_uin ci g1) (vs_tyf ci) n2 n1 hown hB.1 hB.2.1 hB.2.2.1 hS (q - 8) h6 n3 (j / 4) g2 (vz_word g4 (by intro z; cases z) rfl hts) (fun z hz => hz) hfin t1 t2 t3 hlen (vz_dec g3) kk
              | true =>
                rw [hfin] at hk2
                have hk2 : (decide ((vs_mw k).2.2.1 = 2) && decide ((vs_T ci (j / 4)).1 = vs_own k)) = true := hk2
                obtain ⟨q1, q2⟩ := vz_and hk2
                exact va_putF hx hb hts (vz_uin ci g1) (vs_tyf ci) n2 n1 hown hB.1 hB.2.1 hB.2.2.1 hS (q - 8) h6 n3 (j / 4) g2 (vz_word g4 (by intro z; cases z) rfl hts) (fun z hz => hz) hfin (hinit (vz_dec q1)) (vz_dec q2) t1 t2 t3 hlen (vz_dec g3) kk
            · rw [g4] at hk3
              have hk3 : (!(vs_T ci (j / 4)).2.2.2) = true := hk3
              exact va_putN hx hb hts (vz_uin ci g1) (vs_tyf ci) n2 n1 hown hB.1 hB.2.1 hB.2.2.1 hS (q - 8) h6 n3 (j / 4) g2 (hst9.2.2.2.2.2.2.2.2.1 _ _ _ _ _ _ (vs_wa_mem g4 (by intro z; cases z))) (fun z hz => hz) (by simpa using hk3) t1 t2 t3 hlen (vz_dec g3) kk
        · rw [if_neg e1] at h; cases h
      · cases h
    · cases h
  · cases h
theorem vz_o18 : vz_Op 18 := by
  intro p l e R s m args below meth c Q k b L xs en sz D c0 s0 ad0 tys0 hC pc lv st M i j t f M' h hk hr hN
  obtain ⟨hx, hb, hml, hown, hts, hlocks, hrt, hinit, htr, ⟨hfr, hlo⟩, hst9⟩ := id hC
  have h : (match st with
    | .int i2 :: o :: st => (match vj_obj M o with
      | some q => (match vj_at M q with
        | .inl (_, ty, n, .inl ff) => if ty = 1 ∧ vj_in i2 n = true then vj_next k (pc + 1) lv (.int (ff i2.toNatClampNeg) :: st) M else none
        | _ => none)
      | none => none)
    | _ => none) = some (.inl (f, M')) := h
  split at h
  · rename_i i2 o st h9
    split at h
    · rename_i q hq
      split at h
      · rename_i t0 ty n ff hc
        by_cases e1 : ty = 1 ∧ vj_in i2 n = true
        · rw [if_pos e1] at h
          obtain ⟨rfl, rfl⟩ := vz_nx h
          refine ⟨rfl, fun ad tys ws H locs ls sc hX h0 h1 => ?_⟩
          obtain ⟨hB, hS, hl, hst⟩ := hX
          match sc, hst with
          | w' :: w :: sc, ⟨h3b, h3, hst⟩ =>
            have h3b : w' = .int i2 := h3b
            subst h3b
            obtain ⟨a, cA, y, -, -, rfl, h6, h7, h8⟩ := vz_arr hB.2.2.2 h3 hq hc
            have h8 : y = .inl ff := h8
            subst h8
            obtain ⟨rfl, e2⟩ := e1
            exact va_zald hx hb hB.1 hB.2.1 (q - 8) t0 h6 h7 (vz_inv e2) (vz_dec hk) (hN ad tys ws H locs ls _ ⟨hB, hS, hl, rfl, hst⟩ h0 h1)
        · rw [if_neg e1] at h; cases h
      · cases h
    · cases h
  · cases h
theorem vz_o22 : vz_Op 22 := by
  intro p l e R s m args below meth c Q k b L xs en sz D c0 s0 ad0 tys0 hC pc lv st M i j t f M' h hk hr hN
  obtain ⟨hx, hb, hml, hown, hts, hlocks, hrt, hinit, htr, ⟨hfr, hlo⟩, hst9⟩ := id hC
  have h : (match st with
    | .int i2 :: o :: st => (match vj_obj M o with
      | some q => (match vj_at M q with
        | .inl (_, ty, n, .inr (.inl ff)) => if ty = 2 ∧ vj_in i2 n = true then vj_next k (pc + 1) lv (.long (ff i2.toNatClampNeg) :: st) M else none
        | _ => none)
      | none => none)
    | _ => none) = some (.inl (f, M')) := h
  split at h
  · rename_i i2 o st h9
    split at h
    · rename_i q hq
      split at h
      · rename_i t0 ty n ff hc
        by_cases e1 : ty = 2 ∧ vj_in i2 n = true
        · rw [if_pos e1] at h
          obtain ⟨rfl, rfl⟩ := vz_nx h
          refine ⟨rfl, fun ad tys ws H locs ls sc hX h0 h1 => ?_⟩
          obtain ⟨hB, hS, hl, hst⟩ := hX
          match sc, hst with
          | w' :: w :: sc, ⟨h3b, h3, hst⟩ =>
            have h3b : w' = .int i2 := h3b
            subst h3b
            obtain ⟨a, cA, y, -, -, rfl, h6, h7, h8⟩ := vz_arr hB.2.2.2 h3 hq hc
            have h8 : y = .inr (.inl ff) := h8
            subst h8
            obtain ⟨rfl, e2⟩ := e1
            exact va_lald hx hb hB.1 hB.2.1 (q - 8) t0 h6 h7 (vz_inv e2) (vz_dec hk) (hN ad tys ws H locs ls _ ⟨hB, hS, hl, rfl, hst⟩ h0 h1)
        · rw [if_neg e1] at h; cases h
      · cases h
    · cases h
  · cases h
theorem vz_o24 : vz_Op 24 := by
  intro p l e R s m args below meth c Q k b L xs en sz D c0 s0 ad0 tys0 hC pc lv st M i j t f M' h hk hr hN
  obtain ⟨hx, hb, hml, hown, hts, hlocks, hrt, hinit, htr, ⟨hfr, hlo⟩, hst9⟩ := id hC
  have h : (match st with
    | .int i2 :: o :: st => (match vj_obj M o with
      | some q => (match vj_at M q with
        | .inl (_, ty, n, .inr (.inr (.inr (.inl ff)))) => if ty = 3 ∧ vj_in i2 n = true then vj_next k (pc + 1) lv (.double (ff i2.toNatClampNeg) :: st) M else none
        | _ => none)
      | none => none)
    | _ => none) = some (.inl (f, M')) := h
  split at h
  · rename_i i2 o st h9
    split at h
    · rename_i q hq
      split at h
      · rename_i t0 ty n ff hc
        by_cases e1 : ty = 3 ∧ vj_in i2 n = true
        · rw [if_pos e1] at h
          obtain ⟨rfl, rfl⟩ := vz_nx h
          refine ⟨rfl, fun ad tys ws H locs ls sc hX h0 h1 => ?_⟩
          obtain ⟨hB, hS, hl, hst⟩ := hX
          match sc, hst with
          | w' :: w :: sc, ⟨h3b, h3, hst⟩ =>
            have h3b : w' = .int i2 := h3b
            subst h3b
            obtain ⟨a, cA, y, -, -, rfl, h6, h7, h8⟩ := vz_arr hB.2.2.2 h3 hq hc
            have h8 : y = .inr (.inr (.inr (.inl ff))) := h8
            subst h8
            obtain ⟨rfl, e2⟩ := e1
            exact va_dald hx hb hB.1 hB.2.1 (q - 8) t0 h6 h7 (vz_inv e2) (vz_dec hk) (hN ad tys ws H locs ls _ ⟨hB, hS, hl, rfl, hst⟩ h0 h1)
        · rw [if_neg e1] at h; cases h
      · cases h
    · cases h
  · cases h
theorem vz_o20 : vz_Op 20 := by
  intro p l e R s m args below meth c Q k b L xs en sz D c0 s0 ad0 tys0 hC pc lv st M i j t f M' h hk hr hN
  obtain ⟨hx, hb, hml, hown, hts, hlocks, hrt, hinit, htr, ⟨hfr, hlo⟩, hst9⟩ := id hC
  have h : (match st with
    | .int i2 :: o :: st => (match vj_obj M o with
      | some q => (match vj_at M q with
        | .inl (_, ty, n, .inr (.inr (.inr (.inr ff)))) => if 4 ≤ ty ∧ vj_in i2 n = true then vj_next k (pc + 1) lv (va_rf (ff i2.toNatClampNeg) :: st) M else none
        | _ => none)
      | none => none)
    | _ => none) = some (.inl (f, M')) := h
  split at h
  · rename_i i2 o st h9
    split at h
    · rename_i q hq
      split at h
      · rename_i t0 ty n ff hc
        by_cases e1 : 4 ≤ ty ∧ vj_in i2 n = true
        · rw [if_pos e1] at h
          obtain ⟨rfl, rfl⟩ := vz_nx h
          refine ⟨rfl, fun ad tys ws H locs ls sc hX h0 h1 => ?_⟩
          obtain ⟨hB, hS, hl, hst⟩ := hX
          match sc, hst with
          | w' :: w :: sc, ⟨h3b, h3, hst⟩ =>
            have h3b : w' = .int i2 := h3b
            subst h3b
            obtain ⟨a, cA, y, -, -, rfl, h6, h7, h8⟩ := vz_arr hB.2.2.2 h3 hq hc
            obtain ⟨g, rfl, h8⟩ := h8
            obtain ⟨e2, e3⟩ := e1
            have h7 : tys[t0]? = some (cA, .object (vs_cn (ty - 4))) := by
              rw [h7, show vs_ty ty = vs_ty ((ty - 4) + 4) by rw [Nat.sub_add_cancel e2]]
              rfl
            have hin := vz_inv e3
            exact va_aldq hx hb hB.1 hB.2.1 (q - 8) t0 h6 h7 hin (vz_dec hk) (hN ad tys ws H locs ls _ ⟨hB, hS, hl, h8 _ (by unfold vp_in at hin; omega), hst⟩ h0 h1)
        · rw [if_neg e1] at h; cases h
      · cases h
    · cases h
  · cases h
theorem vz_o16 : vz_Op 16 := by
  intro p l e R s m args below meth c Q k b L xs en sz D c0 s0 ad0 tys0 hC pc lv st M i j t f M' h hk hr hN
  obtain ⟨hx, hb, hml, hown, hts, hlocks, hrt, hinit, htr, ⟨hfr, hlo⟩, hst9⟩ := id hC
  have h : (match st with
    | .int i2 :: .ref q :: st => if q = 0 then (if vj_in i2 L = true then vj_next k (pc + 1) lv (.int (xs i2.toNatClampNeg) :: st) M else none) else (match vj_obj M (.ref q) with
      | some q => (match vj_at M q with
        | .inl (_, ty, n, .inl f) => if ty = 0 ∧ vj_in i2 n = true then vj_next k (pc + 1) lv (.int (f i2.toNatClampNeg) :: st) M else none
        | _ => none)
      | none => none)
    | _ => none) = some (.inl (f, M')) := h
  split at h
  · rename_i i2 q0 st h9
    by_cases e0 : q0 = 0
    · rw [if_pos e0] at h
      by_cases e1 : vj_in i2 L = true
      · rw [if_pos e1] at h
        obtain ⟨rfl, rfl⟩ := vz_nx h
        refine ⟨rfl, fun ad tys ws H locs ls sc hX h0 h1 => ?_⟩
        obtain ⟨hB, hS, hl, hst⟩ := hX
        match sc, hst with
        | w' :: w :: sc, ⟨h3b, h3, hst⟩ =>
          have h3b : w' = .int i2 := h3b
          subst h3b
          obtain ⟨a, h4, rfl⟩ := h3
          rw [e0] at h4
          have h4 : some b = some a := h4
          cases h4
          exact va_sld hx hb hst9.2.2.1 (Nat.lt_of_lt_of_le hst9.2.1 hst9.1) (Nat.not_le.mpr hst9.2.1) hS (vz_inv e1) (vz_dec hk) (hN ad tys ws H locs ls _ ⟨hB, hS, hl, rfl, hst⟩ h0 h1)
      · rw [if_neg e1] at h; cases h
    · rw [if_neg e0] at h
      split at h
      · rename_i q hq
        split at h
        · rename_i t0 ty n ff hc
          by_cases e1 : ty = 0 ∧ vj_in i2 n = true
          · rw [if_pos e1] at h
            obtain ⟨rfl, rfl⟩ := vz_nx h
            refine ⟨rfl, fun ad tys ws H locs ls sc hX h0 h1 => ?_⟩
            obtain ⟨hB, hS, hl, hst⟩ := hX
            match sc, hst with
            | w' :: w :: sc, ⟨h3b, h3, hst⟩ =>
              have h3b : w' = .int i2 := h3b
              subst h3b
              obtain ⟨a, cA, y, -, -, rfl, h6, h7, h8⟩ := vz_arr hB.2.2.2 h3 hq hc
              have h8 : y = .inl ff := h8
              subst h8
              obtain ⟨rfl, e2⟩ := e1
              exact va_iald hx hb hB.1 hB.2.1 (q - 8) t0 h6 h7 (vz_inv e2) (vz_dec hk) (hN ad tys ws H locs ls _ ⟨hB, hS, hl, rfl, hst⟩ h0 h1)
          · rw [if_neg e1] at h; cases h
        · cases h
      · cases h
  · cases h
theorem vz_o17 : vz_Op 17 := by
  intro p l e R s m args below meth c Q k b L xs en sz D c0 s0 ad0 tys0 hC pc lv st M i j t f M' h hk hr hN
  obtain ⟨hx, hb, hml, hown, hts, hlocks, hrt, hinit, htr, ⟨hfr, hlo⟩, hst9⟩ := id hC
  have h : (match st with
    | .int x :: .int i2 :: o :: st => (match vj_obj M o with
      | some q => (match vj_at M q with
        | .inl (t, ty, n, .inl ff) => if ty = 0 ∧ vj_in i2 n = true then vj_next k (pc + 1) lv st (vj_put M q (.inl (t, ty, n, .inl (upd ff i2.toNatClampNeg x)))) else none
        | _ => none)
      | none => none)
    | _ => none) = some (.inl (f, M')) := h
  split at h
  · rename_i x i2 o st h9
    split at h
    · rename_i q hq
      split at h
      · rename_i t0 ty n ff hc
        by_cases e1 : ty = 0 ∧ vj_in i2 n = true
        · rw [if_pos e1] at h
          obtain ⟨rfl, rfl⟩ := vz_nx h
          refine ⟨rfl, fun ad tys ws H locs ls sc hX h0 h1 => ?_⟩
          obtain ⟨hB, hS, hl, hst⟩ := hX
          match sc, hst with
          | w2 :: w' :: w :: sc, ⟨h3c, h3b, h3, hst⟩ =>
            have h3c : w2 = .int x := h3c
            subst h3c
            have h3b : w' = .int i2 := h3b
            subst h3b
            obtain ⟨a, cA, y, -, h5, rfl, h6, h7, h8⟩ := vz_arr hB.2.2.2 h3 hq hc
            have h8 : y = .inl ff := h8
            subst h8
            obtain ⟨rfl, e2⟩ := e1
            refine va_iast hx hb hB.1 hB.2.1 hB.2.2.1 hS (q - 8) t0 h6 h7 (vz_inv e2) (vz_dec hk) (fun H1 locs1 p1 p2 p3 => ?_)
            exact hN ad tys _ H1 locs1 ls sc ⟨⟨hB.1, p1, p2, vz_put hB.2.2.2 h5 h6 ⟨h7, rfl, rfl⟩⟩, p3, hl, hst⟩ h0 h1
        · rw [if_neg e1] at h; cases h
      · cases h
    · cases h
  · cases h
theorem vz_o19 : vz_Op 19 := by
  intro p l e R s m args below meth c Q k b L xs en sz D c0 s0 ad0 tys0 hC pc lv st M i j t f M' h hk hr hN
  obtain ⟨hx, hb, hml, hown, hts, hlocks, hrt, hinit, htr, ⟨hfr, hlo⟩, hst9⟩ := id hC
  have h : (match st with
    | .int x :: .int i2 :: o :: st => (match vj_obj M o with
      | some q => (match vj_at M q with
        | .inl (t, ty, n, .inl ff) => if ty = 1 ∧ vj_in i2 n = true ∧ vj_is01 (.int x) = true then vj_next k (pc + 1) lv st (vj_put M q (.inl (t, ty, n, .inl (upd ff i2.toNatClampNeg x)))) else none
        | _ => none)
      | none => none)
    | _ => none) = some (.inl (f, M')) := h
  split at h
  · rename_i x i2 o st h9
    split at h
    · rename_i q hq
      split at h
      · rename_i t0 ty n ff hc
        by_cases e1 : ty = 1 ∧ vj_in i2 n = true ∧ vj_is01 (.int x) = true
        · rw [if_pos e1] at h
          obtain ⟨rfl, rfl⟩ := vz_nx h
          refine ⟨rfl, fun ad tys ws H locs ls sc hX h0 h1 => ?_⟩
          obtain ⟨hB, hS, hl, hst⟩ := hX
          match sc, hst with
          | w2 :: w' :: w :: sc, ⟨h3c, h3b, h3, hst⟩ =>
            have h3c : w2 = .int x := h3c
            subst h3c
            have h3b : w' = .int i2 := h3b
            subst h3b
            obtain ⟨a, cA, y, -, h5, rfl, h6, h7, h8⟩ := vz_arr hB.2.2.2 h3 hq hc
            have h8 : y = .inl ff := h8
            subst h8
            obtain ⟨rfl, e2⟩ := e1
            refine va_zast hx hb hB.1 hB.2.1 hB.2.2.1 hS (q - 8) t0 h6 h7 (vz_inv e2.1) (vz_dec hk) (fun H1 locs1 p1 p2 p3 => ?_)
            have en1 : vp_nar .boolean x = x := by
              have h := vz_01 e2.2
              unfold vp_nar
              rw [h.1]
            rw [en1] at p1 p2
            exact hN ad tys _ H1 locs1 ls sc ⟨⟨hB.1, p1, p2, vz_put hB.2.2.2 h5 h6 ⟨h7, rfl, rfl⟩⟩, p3, hl, hst⟩ h0 h1
        · rw [if_neg e1] at h; cases h
      · cases h
    · cases h
  · cases h
theorem vz_o23 : vz_Op 23 := by
  intro p l e R s m args below meth c Q k b L xs en sz D c0 s0 ad0 tys0 hC pc lv st M i j t f M' h hk hr hN
  obtain ⟨hx, hb, hml, hown, hts, hlocks, hrt, hinit, htr, ⟨hfr, hlo⟩, hst9⟩ := id hC
  have h : (match st with
    | .long x :: .int i2 :: o :: st => (match vj_obj M o with
      | some q => (match vj_at M q with
        | .inl (t, ty, n, .inr (.inl ff)) => if ty = 2 ∧ vj_in i2 n = true then vj_next k (pc + 1) lv st (vj_put M q (.inl (t, ty, n, .inr (.inl (vp_updL ff i2.toNatClampNeg x))))) else none
        | _ => none)
      | none => none)
    | _ => none) = some (.inl (f, M')) := h
  split at h
  · rename_i x i2 o st h9
    split at h
    · rename_i q hq
      split at h
      · rename_i t0 ty n ff hc
        by_cases e1 : ty = 2 ∧ vj_in i2 n = true
        · rw [if_pos e1] at h
          obtain ⟨rfl, rfl⟩ := vz_nx h
          refine ⟨rfl, fun ad tys ws H locs ls sc hX h0 h1 => ?_⟩
          obtain ⟨hB, hS, hl, hst⟩ := hX
          match sc, hst with
          | w2 :: w' :: w :: sc, ⟨h3c, h3b, h3, hst⟩ =>
            have h3c : w2 = .long x := h3c
            subst h3c
            have h3b : w' = .int i2 := h3b
            subst h3b
            obtain ⟨a, cA, y, -, h5, rfl, h6, h7, h8⟩ := vz_arr hB.2.2.2 h3 hq hc
            have h8 : y = .inr (.inl ff) := h8
            subst h8
            obtain ⟨rfl, e2⟩ := e1
            refine va_last hx hb hB.1 hB.2.1 hB.2.2.1 hS (q - 8) t0 h6 h7 (vz_inv e2) (vz_dec hk) (fun H1 locs1 p1 p2 p3 => ?_)
            exact hN ad tys _ H1 locs1 ls sc ⟨⟨hB.1, p1, p2, vz_put hB.2.2.2 h5 h6 ⟨h7, rfl, rfl⟩⟩, p3, hl, hst⟩ h0 h1
        · rw [if_neg e1] at h; cases h
      · cases h
    · cases h
  · cases h
theorem vz_o25 : vz_Op 25 := by
  intro p l e R s m args below meth c Q k b L xs en sz D c0 s0 ad0 tys0 hC pc lv st M i j t f M' h hk hr hN
  obtain ⟨hx, hb, hml, hown, hts, hlocks, hrt, hinit, htr, ⟨hfr, hlo⟩, hst9⟩ := id hC
  have h : (match st with
    | .double x :: .int i2 :: o :: st => (match vj_obj M o with
      | some q => (match vj_at M q with
        | .inl (t, ty, n, .inr (.inr (.inr (.inl ff)))) => if ty = 3 ∧ vj_in i2 n = true then vj_next k (pc + 1) lv st (vj_put M q (.inl (t, ty, n, .inr (.inr (.inr (.inl (vf_upd ff i2.toNatClampNeg x))))))) else none
        | _ => none)
      | none => none)
    | _ => none) = some (.inl (f, M')) := h
  split at h
  · rename_i x i2 o st h9
    split at h
    · rename_i q hq
      split at h
      · rename_i t0 ty n ff hc
        by_cases e1 : ty = 3 ∧ vj_in i2 n = true
        · rw [if_pos e1] at h
          obtain ⟨rfl, rfl⟩ := vz_nx h
          refine ⟨rfl, fun ad tys ws H locs ls sc hX h0 h1 => ?_⟩
          obtain ⟨hB, hS, hl, hst⟩ := hX
          match sc, hst with
          | w2 :: w' :: w :: sc, ⟨h3c, h3b, h3, hst⟩ =>
            have h3c : w2 = .double x := h3c
            subst h3c
            have h3b : w' = .int i2 := h3b
            subst h3b
            obtain ⟨a, cA, y, -, h5, rfl, h6, h7, h8⟩ := vz_arr hB.2.2.2 h3 hq hc
            have h8 : y = .inr (.inr (.inr (.inl ff))) := h8
            subst h8
            obtain ⟨rfl, e2⟩ := e1
            refine va_dast hx hb hB.1 hB.2.1 hB.2.2.1 hS (q - 8) t0 h6 h7 (vz_inv e2) (vz_dec hk) (fun H1 locs1 p1 p2 p3 => ?_)
            exact hN ad tys _ H1 locs1 ls sc ⟨⟨hB.1, p1, p2, vz_put hB.2.2.2 h5 h6 ⟨h7, rfl, rfl⟩⟩, p3, hl, hst⟩ h0 h1
        · rw [if_neg e1] at h; cases h
      · cases h
    · cases h
  · cases h
theorem vz_o21 : vz_Op 21 := by
  intro p l e R s m args below meth c Q k b L xs en sz D c0 s0 ad0 tys0 hC pc lv st M i j t f M' h hk hr hN
  obtain ⟨hx, hb, hml, hown, hts, hlocks, hrt, hinit, htr, ⟨hfr, hlo⟩, hst9⟩ := id hC
  have h : (match st with
    | .ref v :: .int i2 :: o :: st => (match vj_obj M o, vj_obj M (.ref v) with
      | some q, some v => (match vj_at M q, vj_at M v with
        | .inl (t, ty, n, .inr (.inr (.inr (.inr f)))), .inr (ci, _) => if ty = ci + 4 ∧ vj_in i2 n = true then vj_next k (pc + 1) lv st (vj_put M q (.inl (t, ty, n, .inr (.inr (.inr (.inr (va_up f i2.toNatClampNeg (some v)))))))) else none
        | _, _ => none)
      | _, _ => none)
    | _ => none) = some (.inl (f, M')) := h
  split at h
  · rename_i v0 i2 o st h9
    split at h
    · rename_i q v hq hv
      split at h
      · rename_i t0 ty n ff ci fs hc hc2
        by_cases e1 : ty = ci + 4 ∧ vj_in i2 n = true
        · rw [if_pos e1] at h
          obtain ⟨rfl, rfl⟩ := vz_nx h
          refine ⟨rfl, fun ad tys ws H locs ls sc hX h0 h1 => ?_⟩
          obtain ⟨hB, hS, hl, hst⟩ := hX
          match sc, hst with
          | w2 :: w' :: w :: sc, ⟨h3c, h3b, h3, hst⟩ =>
            have h3b : w' = .int i2 := h3b
            subst h3b
            obtain ⟨a, cA, y, -, h5, rfl, h6, h7, h8⟩ := vz_arr hB.2.2.2 h3 hq hc
            obtain ⟨g, rfl, h8⟩ := h8
            obtain ⟨a2, fs2, ev, h5b, rfl, h6b, h7b⟩ := vz_obj hB.2.2.2 h3c hv hc2
            obtain ⟨rfl, e2⟩ := e1
            have hci : ∃ r, vwCl[ci]? = some r ∧ r.1 = vs_cn ci := vz_clof hB.1 hB.2.1 h6b
            obtain ⟨r, hr1, hr2⟩ := hci
            have hin := vz_inv e2
            cases ev
            refine va_astq hx hb hB.1 hB.2.1 hB.2.2.1 hS (q - 8) t0 (v0 - 8) ci h6 (r := r) (by rw [hr2]; exact h7) h6b hr1 hin (vz_dec hk) (fun H1 locs1 p1 p2 p3 => ?_)
            refine hN ad tys _ H1 locs1 ls sc ⟨⟨hB.1, p1, p2, vz_put hB.2.2.2 h5 h6 ⟨h7, rfl, _, rfl, fun jj hj => ?_⟩⟩, p3, hl, hst⟩ h0 h1
            by_cases ej : jj = i2.toNatClampNeg
            · rw [ej, va_up_self, va_up_self]
              exact h3c
            · rw [va_up_ne _ _ ej, va_up_ne _ _ ej]
              exact h8 jj hj
        · rw [if_neg e1] at h; cases h
      · cases h
    · cases h
  · cases h
theorem vz_o26 : vz_Op 26 := by
  intro p l e R s m args below meth c Q k b L xs en sz D c0 s0 ad0 tys0 hC pc lv st M i j t f M' h hk hr hN
  obtain ⟨hx, hb, hml, hown, hts, hlocks, hrt, hinit, htr, ⟨hfr, hlo⟩, hst9⟩ := id hC
  have h : (match st with
    | .ref q :: st => if q = 0 then vj_next k (pc + 1) lv (.int (nI L) :: st) M else (match vj_obj M (.ref q) with
      | some q => (match vj_at M q with
        | .inl (_, _, n, _) => vj_next k (pc + 1) lv (.int (nI n) :: st) M
        | .inr _ => none)
      | none => none)
    | _ => none) = some (.inl (f, M')) := h
  split at h
  · rename_i q0 st h9
    by_cases e0 : q0 = 0
    · rw [if_pos e0] at h
      obtain ⟨rfl, rfl⟩ := vz_nx h
      refine ⟨rfl, fun ad tys ws H locs ls sc hX h0 h1 => ?_⟩
      obtain ⟨hB, hS, hl, hst⟩ := hX
      match sc, hst with
      | w :: sc, ⟨h3, hst⟩ =>
        obtain ⟨a, h4, rfl⟩ := h3
        rw [e0] at h4
        have h4 : some b = some a := h4
        cases h4
        exact va_slen hx hb hst9.2.2.1 (Nat.lt_of_lt_of_le hst9.2.1 hst9.1) (Nat.not_le.mpr hst9.2.1) hS (vz_dec hk) (hN ad tys ws H locs ls _ ⟨hB, hS, hl, rfl, hst⟩ h0 h1)
    · rw [if_neg e0] at h
      split at h
      · rename_i q hq
        split at h
        · rename_i t0 ty n ff hc
          obtain ⟨rfl, rfl⟩ := vz_nx h
          refine ⟨rfl, fun ad tys ws H locs ls sc hX h0 h1 => ?_⟩
          obtain ⟨hB, hS, hl, hst⟩ := hX
          match sc, hst with
          | w :: sc, ⟨h3, hst⟩ =>
            obtain ⟨a, cA, y, -, -, rfl, h6, h7, h8⟩ := vz_arr hB.2.2.2 h3 hq hc
            exact va_alen hx hb hB.1 hB.2.1 (q - 8) t0 h6 h7 (v := nI n) rfl (vz_dec hk) (hN ad tys ws H locs ls _ ⟨hB, hS, hl, rfl, hst⟩ h0 h1)
        · cases h
      · cases h
  · cases h
theorem vz_o30 : vz_Op 30 := by
  intro p l e R s m args below meth c Q k b L xs en sz D c0 s0 ad0 tys0 hC pc lv st M i j t f M' h hk hr hN
  obtain ⟨hx, hb, hml, hown, hts, hlocks, hrt, hinit, htr, ⟨hfr, hlo⟩, hst9⟩ := id hC
  have h : (match st with
    | o :: st => (match vj_obj M o with
      | some _ => if vj_cat st ≤ 8 then vj_next k (pc + 3) lv st M else none
      | none => none)
    | [] => none) = some (.inl (f, M')) := h
  obtain ⟨hk, hk2⟩ := vz_and hk
  obtain ⟨hk, hk1⟩ := vz_and hk
  obtain ⟨idx, g3, g4, g5, g6⟩ := vz_lib hk
  split at h
  · rename_i o st h9
    split at h
    · rename_i q hq
      by_cases e1 : vj_cat st ≤ 8
      · rw [if_pos e1] at h
        obtain ⟨rfl, rfl⟩ := vz_nx h
        refine ⟨rfl, fun ad tys ws H locs ls sc hX h0 h1 => ?_⟩
        obtain ⟨hB, hS, hl, hst⟩ := hX
        match sc, hst with
        | w :: sc, ⟨h3, hst⟩ =>
          obtain ⟨a, e, -, -, rfl, -, -⟩ := vz_thing hB.2.2.2 h3 hq
          have hcat := vz_catR hst e1
          refine W.objInit hx hb hown (vz_word g4 (by intro z; cases z) rfl hts) (vz_wis hk1 (by intro z; cases z) hts) (vz_wis hk2 (by intro z; cases z) hts) (g := F0 m pc ls (.ref a :: sc)) rfl (vz_lsz hl hml) (a := a) (rest := sc) rfl (vz_dec g3) (by omega) (by show 2 * 0 + _ + 12 ≤ _; omega) (hN ad tys ws H locs ls _ ⟨hB, hS, hl, hst⟩ h0 h1)
      · rw [if_neg e1] at h; cases h
    · cases h
  · cases h
theorem vz_o31 : vz_Op 31 := by
  intro p l e R s m args below meth c Q k b L xs en sz D c0 s0 ad0 tys0 hC pc lv st M i j t f M' h hk hr hN
  obtain ⟨hx, hb, hml, hown, hts, hlocks, hrt, hinit, htr, ⟨hfr, hlo⟩, hst9⟩ := id hC
  have h : (match st with
    | .int y :: .int x :: st => if vj_cat st ≤ 8 then vj_next k (pc + 3) lv (.int (if x < y then y else x) :: st) M else none
    | _ => none) = some (.inl (f, M')) := h
  obtain ⟨hk, hk3⟩ := vz_and hk
  obtain ⟨hk, hk2⟩ := vz_and hk
  obtain ⟨hk, hk1⟩ := vz_and hk
  obtain ⟨idx, g3, g4, g5, g6⟩ := vz_lib hk
  split at h
  · rename_i y x st h9
    by_cases e1 : vj_cat st ≤ 8
    · rw [if_pos e1] at h
      obtain ⟨rfl, rfl⟩ := vz_nx h
      refine ⟨rfl, fun ad tys ws H locs ls sc hX h0 h1 => ?_⟩
      obtain ⟨hB, hS, hl, hst⟩ := hX
      match sc, hst with
      | w' :: w :: sc, ⟨h3b, h3, hst⟩ =>
        have h3b : w' = .int y := h3b
        subst h3b
        have h3 : w = .int x := h3
        subst h3
        have hcat := vz_catR hst e1
        exact va_mmax hx hb (vz_lsz hl hml).symm hown (vz_word g4 (by intro z; cases z) rfl hts) (vz_wis hk1 (by intro z; cases z) hts) (vz_wis hk2 (by intro z; cases z) hts) (vz_wis hk3 (by intro z; cases z) hts) (by omega) (by omega) hr.1 hr.2 (vz_dec g3) (hN ad tys ws H locs ls _ ⟨hB, hS, hl, rfl, hst⟩ h0 h1)
    · rw [if_neg e1] at h; cases h
  · cases h
theorem vz_o32 : vz_Op 32 := by
  intro p l e R s m args below meth c Q k b L xs en sz D c0 s0 ad0 tys0 hC pc lv st M i j t f M' h hk hr hN
  obtain ⟨hx, hb, hml, hown, hts, hlocks, hrt, hinit, htr, ⟨hfr, hlo⟩, hst9⟩ := id hC
  have h : (match st with
    | .int y :: .int x :: st => if vj_cat st ≤ 8 then vj_next k (pc + 3) lv (.int (if y < x then y else x) :: st) M else none
    | _ => none) = some (.inl (f, M')) := h
  obtain ⟨hk, hk3⟩ := vz_and hk
  obtain ⟨hk, hk2⟩ := vz_and hk
  obtain ⟨hk, hk1⟩ := vz_and hk
  obtain ⟨idx, g3, g4, g5, g6⟩ := vz_lib hk
  split at h
  · rename_i y x st h9
    by_cases e1 : vj_cat st ≤ 8
    · rw [if_pos e1] at h
      obtain ⟨rfl, rfl⟩ := vz_nx h
      refine ⟨rfl, fun ad tys ws H locs ls sc hX h0 h1 => ?_⟩
      obtain ⟨hB, hS, hl, hst⟩ := hX
      match sc, hst with
      | w' :: w :: sc, ⟨h3b, h3, hst⟩ =>
        have h3b : w' = .int y := h3b
        subst h3b
        have h3 : w = .int x := h3
        subst h3
        have hcat := vz_catR hst e1
        exact va_mmin hx hb (vz_lsz hl hml).symm hown (vz_word g4 (by intro z; cases z) rfl hts) (vz_wis hk1 (by intro z; cases z) hts) (vz_wis hk2 (by intro z; cases z) hts) (vz_wis hk3 (by intro z; cases z) hts) (by omega) (by omega) hr.1 hr.2 (vz_dec g3) (hN ad tys ws H locs ls _ ⟨hB, hS, hl, rfl, hst⟩ h0 h1)
    · rw [if_neg e1] at h; cases h
  · cases h
theorem vz_o33 : vz_Op 33 := by
  intro p l e R s m args below meth c Q k b L xs en sz D c0 s0 ad0 tys0 hC pc lv st M i j t f M' h hk hr hN
  obtain ⟨hx, hb, hml, hown, hts, hlocks, hrt, hinit, htr, ⟨hfr, hlo⟩, hst9⟩ := id hC
  have h : (match st with
    | .int n :: .int dp :: d :: .int sp :: s2 :: st => (match vj_obj M s2, vj_obj M d with
      | some q0, some q1 => (match vj_at M q0, vj_at M q1 with
        | .inl (_, ty0, n0, .inl f), .inl (t1, ty1, n1, .inl g) => if ty0 = 0 ∧ ty1 = 0 ∧ ¬ sp < 0 ∧ ¬ dp < 0 ∧ ¬ n < 0 ∧ sp.toNatClampNeg + n.toNatClampNeg ≤ n0 ∧ dp.toNatClampNeg + n.toNatClampNeg ≤ n1 ∧ vj_cat st ≤ 8 then
            vj_next k (pc + 3) lv st (vj_put M q1 (.inl (t1, ty1, n1, .inl (va_cpy f g sp.toNatClampNeg dp.toNatClampNeg n.toNatClampNeg)))) else none
        | _, _ => none)
      | _, _ => none)
    | _ => none) = some (.inl (f, M')) := h
  obtain ⟨hk, hk3⟩ := vz_and hk
  obtain ⟨hk, hk2⟩ := vz_and hk
  obtain ⟨hk, hk1⟩ := vz_and hk
  obtain ⟨idx, g3, g4, g5, g6⟩ := vz_lib hk
  split at h
  · rename_i n dp d sp s2 st h9
    split at h
    · rename_i q0 q1 hq0 hq1
      split at h
      · rename_i t0 ty0 n0 f0 t1 ty1 n1 f1 hc0 hc1
        by_cases e1 : ty0 = 0 ∧ ty1 = 0 ∧ ¬ sp < 0 ∧ ¬ dp < 0 ∧ ¬ n < 0 ∧ sp.toNatClampNeg + n.toNatClampNeg ≤ n0 ∧ dp.toNatClampNeg + n.toNatClampNeg ≤ n1 ∧ vj_cat st ≤ 8
        · rw [if_pos e1] at h
          obtain ⟨rfl, rfl⟩ := vz_nx h
          refine ⟨rfl, fun ad tys ws H locs ls sc hX h0 h1 => ?_⟩
          obtain ⟨hB, hS, hl, hst⟩ := hX
          match sc, hst with
          | w5 :: w4 :: w3 :: w2 :: w1 :: sc, ⟨a5, a4, a3, a2, a1, hst⟩ =>
            have a5 : w5 = .int n := a5
            subst a5
            have a4 : w4 = .int dp := a4
            subst a4
            have a2 : w2 = .int sp := a2
            subst a2
            obtain ⟨aa0, cA0, y0, -, h50, rfl, h60, h70, h80⟩ := vz_arr hB.2.2.2 a1 hq0 hc0
            obtain ⟨aa1, cA1, y1, -, h51, rfl, h61, h71, h81⟩ := vz_arr hB.2.2.2 a3 hq1 hc1
            have h80 : y0 = .inl f0 := h80
            subst h80
            have h81 : y1 = .inl f1 := h81
            subst h81
            obtain ⟨rfl, rfl, e2, e3, e4, e5, e6, e7⟩ := e1
            have hcat := vz_catR hst e7
            refine va_copyi hx hb (vz_lsz hl hml).symm hown (vz_word g4 (by intro z; cases z) rfl hts) (vz_wis hk1 (by intro z; cases z) hts) (vz_wis hk2 (by intro z; cases z) hts) (vz_wis hk3 (by intro z; cases z) hts) hB.1 hB.2.1 hB.2.2.1 hS (q0 - 8) (q1 - 8) t0 t1 (ty := .int) h60 h61 h70 h71 rfl e2 e3 e4 e5 e6 (fun _ _ => rfl) (by omega) (by
                have : nativeFrameWords "java/lang/System" "arraycopy" 5 ≤ 41 := by decide +kernel
                omega) (vz_dec g3) (fun H1 locs1 p1 p2 p3 => ?_)
            exact hN ad tys _ H1 locs1 ls sc ⟨⟨hB.1, p1, p2, vz_put hB.2.2.2 h51 h61 ⟨h71, rfl, rfl⟩⟩, p3, hl, hst⟩ h0 h1
        · rw [if_neg e1] at h; cases h
      · cases h
    · cases h
  · cases h
theorem vz_o34 : vz_Op 34 := by
  intro p l e R s m args below meth c Q k b L xs en sz D c0 s0 ad0 tys0 hC pc lv st M i j t f M' h hk hr hN
  obtain ⟨hx, hb, hml, hown, hts, hlocks, hrt, hinit, htr, ⟨hfr, hlo⟩, hst9⟩ := id hC
  have h : vj_next k (pc + 3) lv (.ref M.2.1 :: st) (vj_new M (.inr (i, vt_nf i)) 0 (vt_nf i).length) = some (.inl (f, M')) := h
  obtain ⟨rfl, rfl⟩ := vz_nx h
  obtain ⟨hk, hk2⟩ := vz_and hk
  obtain ⟨hk, hk1⟩ := vz_and hk
  have hr1 : M.2.2.2.1 + 1 - c0 ≤ R.cells := hr.1
  have hr2 : M.2.2.2.2 + (vt_nf i).length - s0 ≤ R.slots := hr.2
  refine ⟨rfl, fun ad tys ws H locs ls sc hX h0 h1 => ?_⟩
  obtain ⟨hB, hS, hl, hst⟩ := hX
  have h00 : c0 ≤ M.2.2.2.1 := h0.1
  have hk : (match vs_wa t with
    | .classLink own idx C => decide (own = vs_own k) && decide (C = vs_cn i) && decide (i < vs_nc) && decide (decode (vs_by k) pc = .ok (.new idx, 3))
    | _ => false) = true := hk
  split at hk
  · rename_i own idx C hw
    obtain ⟨hk, g4⟩ := vz_and hk
    obtain ⟨hk, g3⟩ := vz_and hk
    obtain ⟨g1, g2⟩ := vz_and hk
    have g1 := vz_dec g1
    have g2 := vz_dec g2
    have g3 := vz_dec g3
    subst g1; subst g2
    obtain ⟨n1, n2, n3⟩ := vz_nm i g3
    obtain ⟨d1, d2, d3⟩ := vz_dflt i g3
    rw [d1] at hr2
    refine va_new hx hb hts (vz_uin i g3) (vs_tyf i) n2 hown (vz_word hw (by intro z; cases z) rfl hts) (vz_wis hk1 (by intro z; cases z) hts) (vz_wis hk2 (by intro z; cases z) hts) hB.1 hB.2.1 hB.2.2.1 hS (fun q hq => Nat.le_trans hst9.1 hq) n3 (fs := vt_nf i) d2 (by omega) (by omega) (vz_dec g4) (fun q H1 p1 p2 p3 => ?_)
    obtain ⟨z1, z2⟩ := vz_new hB.2.2.2 (a := q) (ar := 0) (n := (vt_nf i).length) (e := .inr (i, vt_nf i)) (cc := .inr (i, vt_nf i)) (ts := []) rfl ⟨rfl, d3 b en _⟩
    rw [List.append_nil] at z1
    refine W.cs (cells' := M.2.2.2.1 + 1 - c0) (slots' := M.2.2.2.2 + (vt_nf i).length - s0) (by have := h0.1; omega) (by rw [d1]; omega) ?_
    exact hN (ad ++ [q]) tys _ H1 locs ls _ ⟨⟨hB.1, p1, p2, z1⟩, p3, hl.up ⟨_, rfl⟩, ⟨q, z2, rfl⟩, hst.up (fun _ _ z => z.up ⟨_, rfl⟩)⟩ ⟨Nat.le_succ_of_le h0.1, h0.2.1.tr ⟨_, rfl⟩, h0.2.2⟩ (by show s0 ≤ M.2.2.2.2 + _; omega)
  · cases hk
theorem vz_o36 : vz_Op 36 := by
  intro p l e R s m args below meth c Q k b L xs en sz D c0 s0 ad0 tys0 hC pc lv st M i j t f M' h hk hr hN
  obtain ⟨hx, hb, hml, hown, hts, hlocks, hrt, hinit, htr, ⟨hfr, hlo⟩, hst9⟩ := id hC
  have h : (match st with
    | .int n :: st => if ¬ n < 0 ∧ n.toNatClampNeg ≤ 16384 ∧ i < 4 then vj_next k (pc + 2) lv (.ref M.2.1 :: st) (vj_new M (.inl (M.2.2.1, i, n.toNatClampNeg, vj_dfl i)) 1 n.toNatClampNeg) else none
    | _ => none) = some (.inl (f, M')) := h
  obtain ⟨hk1, hk⟩ := vz_and hk
  split at h
  · rename_i n st h9
    by_cases e1 : ¬ n < 0 ∧ n.toNatClampNeg ≤ 16384 ∧ i < 4
    · rw [if_pos e1] at h
      obtain ⟨rfl, rfl⟩ := vz_nx h
      have hr1 : M.2.2.2.1 + 1 - c0 ≤ R.cells := hr.1
      have hr2 : M.2.2.2.2 + n.toNatClampNeg - s0 ≤ R.slots := hr.2
      refine ⟨rfl, fun ad tys ws H locs ls sc hX h0 h1 => ?_⟩
      obtain ⟨hB, hS, hl, hst⟩ := hX
      have h00 : c0 ≤ M.2.2.2.1 := h0.1
      match sc, hst with
      | w :: sc, ⟨h3, hst⟩ =>
        have h3 : w = .int n := h3
        subst h3
        have kk : ∀ (a0 : vj_A), vj_ar b en (ad ++ [0]) n.toNatClampNeg (vj_dfl i) a0 → (∀ ad', vj_ar b en ad' n.toNatClampNeg (vj_dfl i) a0) → ∀ (q : Nat) (cA : ClassId) (H1 : Heap), va_K D vwCl (tys ++ [(cA, vs_ty i)]) s → va_P D vwCl (ws ++ [(q, .inl (cA, (n.toNatClampNeg, a0)))]) H1 → va_D (vz_A sz) (ws ++ [(q, .inl (cA, (n.toNatClampNeg, a0)))]) → va_S (vz_A sz) s.heap H1 locs →
            W p l e R s m args below meth c H1 locs (M.2.2.2.1 - c0 + 1) (M.2.2.2.2 - s0 + n.toNatClampNeg) Q (F0 m (pc + 2) ls (.ref q :: sc)) := by
          intro a0 _ ha0 q cA H1 p0 p1 p2 p3
          obtain ⟨z1, z2⟩ := vz_new hB.2.2.2 (a := q) (ar := 1) (n := n.toNatClampNeg) (e := .inl (cA, (n.toNatClampNeg, a0))) (cc := .inl (M.2.2.1, i, n.toNatClampNeg, vj_dfl i)) (ts := [(cA, vs_ty i)]) rfl ⟨by rw [hB.2.2.2.2.2.1]; simp, rfl, ha0 _⟩
          refine W.cs (cells' := M.2.2.2.1 + 1 - c0) (slots' := M.2.2.2.2 + n.toNatClampNeg - s0) (by have := h0.1; omega) (by omega) ?_
          exact hN (ad ++ [q]) _ _ H1 locs ls _ ⟨⟨p0, p1, p2, z1⟩, p3, hl.up ⟨_, rfl⟩, ⟨q, z2, rfl⟩, hst.up (fun _ _ z => z.up ⟨_, rfl⟩)⟩ ⟨Nat.le_succ_of_le h0.1, h0.2.1.tr ⟨_, rfl⟩, h0.2.2.tr ⟨_, rfl⟩⟩ (by show s0 ≤ M.2.2.2.2 + _; omega)
        obtain ⟨e2, e3, e4⟩ := e1
        match i, hk, hk1, kk, e4 with
        | 0, hk, hk1, kk, _ => exact va_newa (atype := .int) (ty := .int) hx hb (vz_wis hk1 (by intro z; cases z) hts) rfl hB.1 hB.2.1 hB.2.2.1 hS (fun q hq => Nat.le_trans hst9.1 hq) (a0 := (n.toNatClampNeg, .inl (fun _ => 0))) (fun cA => rfl) e2 rfl (by show _ * 4 ≤ _; omega) (by omega) (by omega) (vz_dec hk) (kk _ rfl (fun _ => rfl))
        | 1, hk, hk1, kk, _ => exact va_newa (atype := .boolean) (ty := .boolean) hx hb (vz_wis hk1 (by intro z; cases z) hts) rfl hB.1 hB.2.1 hB.2.2.1 hS (fun q hq => Nat.le_trans hst9.1 hq) (a0 := (n.toNatClampNeg, .inl (fun _ => 0))) (fun cA => rfl) e2 rfl (by show _ * 1 ≤ _; omega) (by omega) (by omega) (vz_dec hk) (kk _ rfl (fun _ => rfl))
        | 2, hk, hk1, kk, _ => exact va_newa (atype := .long) (ty := .long) hx hb (vz_wis hk1 (by intro z; cases z) hts) rfl hB.1 hB.2.1 hB.2.2.1 hS (fun q hq => Nat.le_trans hst9.1 hq) (a0 := (n.toNatClampNeg, .inr (.inl (fun _ => 0)))) (fun cA => rfl) e2 rfl (by show _ * 8 ≤ _; omega) (by omega) (by omega) (vz_dec hk) (kk _ rfl (fun _ => rfl))
        | 3, hk, hk1, kk, _ => exact va_newa (atype := .double) (ty := .double) hx hb (vz_wis hk1 (by intro z; cases z) hts) rfl hB.1 hB.2.1 hB.2.2.1 hS (fun q hq => Nat.le_trans hst9.1 hq) (a0 := (n.toNatClampNeg, .inr (.inr (.inr (.inl (fun _ => 0)))))) (fun cA => rfl) e2 rfl (by show _ * 8 ≤ _; omega) (by omega) (by omega) (vz_dec hk) (kk _ rfl (fun _ => rfl))
        | n + 4, _, _, _, e4 => omega
    · rw [if_neg e1] at h; cases h
  · cases h
theorem vz_o37 : vz_Op 37 := by
  intro p l e R s m args below meth c Q k b L xs en sz D c0 s0 ad0 tys0 hC pc lv st M i j t f M' h hk hr hN
  obtain ⟨hx, hb, hml, hown, hts, hlocks, hrt, hinit, htr, ⟨hfr, hlo⟩, hst9⟩ := id hC
  have h : (match st with
    | .int n :: st => if ¬ n < 0 ∧ n.toNatClampNeg ≤ 16384 then vj_next k (pc + 3) lv (.ref M.2.1 :: st) (vj_new M (.inl (M.2.2.1, i + 4, n.toNatClampNeg, vj_dfl 4)) 1 n.toNatClampNeg) else none
    | _ => none) = some (.inl (f, M')) := h
  have hk : (match vs_wa t with
    | .classLink own idx C => decide (own = vs_own k) && decide (C = vs_cn i) && decide (i < vs_nc) && (match vs_wa j with | .arrayOver (.object C2) => decide (C2 = vs_cn i) | _ => false) && decide (decode (vs_by k) pc = .ok (.anewarray idx, 3))
    | _ => false) = true := hk
  split at h
  · rename_i n st h9
    by_cases e1 : ¬ n < 0 ∧ n.toNatClampNeg ≤ 16384
    · rw [if_pos e1] at h
      obtain ⟨rfl, rfl⟩ := vz_nx h
      have hr1 : M.2.2.2.1 + 1 - c0 ≤ R.cells := hr.1
      have hr2 : M.2.2.2.2 + n.toNatClampNeg - s0 ≤ R.slots := hr.2
      refine ⟨rfl, fun ad tys ws H locs ls sc hX h0 h1 => ?_⟩
      obtain ⟨hB, hS, hl, hst⟩ := hX
      have h00 : c0 ≤ M.2.2.2.1 := h0.1
      match sc, hst with
      | w :: sc, ⟨h3, hst⟩ =>
        have h3 : w = .int n := h3
        subst h3
        split at hk
        · rename_i own idx C hw
          obtain ⟨hk, g5⟩ := vz_and hk
          obtain ⟨hk, g4⟩ := vz_and hk
          obtain ⟨hk, g3⟩ := vz_and hk
          obtain ⟨g1, g2⟩ := vz_and hk
          have g1 := vz_dec g1
          have g2 := vz_dec g2
          subst g1; subst g2
          split at g4
          · rename_i C2 hw2
            have g4 := vz_dec g4
            subst g4
            refine va_newq hx hb hown (vz_word hw (by intro z; cases z) rfl hts) (hst9.2.2.2.2.2.2.2.2.2.2.1 _ (vs_wa_mem hw2 (by intro z; cases z))) hB.1 hB.2.1 hB.2.2.1 hS (fun q hq => Nat.le_trans hst9.1 hq) e1.1 rfl (by omega) (by omega) (by omega) (vz_dec g5) (fun q cA H1 p0 p1 p2 p3 => ?_)
            obtain ⟨z1, z2⟩ := vz_new hB.2.2.2 (a := q) (ar := 1) (n := n.toNatClampNeg) (e := .inl (cA, (n.toNatClampNeg, .inr (.inr (.inr (.inr (fun _ => none))))))) (cc := .inl (M.2.2.1, i + 4, n.toNatClampNeg, vj_dfl 4)) (ts := [(cA, vs_ty (i + 4))]) rfl ⟨by rw [hB.2.2.2.2.2.1]; simp, rfl, _, rfl, fun _ _ => rfl⟩
            refine W.cs (cells' := M.2.2.2.1 + 1 - c0) (slots' := M.2.2.2.2 + n.toNatClampNeg - s0) (by have := h0.1; omega) (by omega) ?_
            exact hN (ad ++ [q]) _ _ H1 locs ls _ ⟨⟨p0, p1, p2, z1⟩, p3, hl.up ⟨_, rfl⟩, ⟨q, z2, rfl⟩, hst.up (fun _ _ z => z.up ⟨_, rfl⟩)⟩ ⟨Nat.le_succ_of_le h0.1, h0.2.1.tr ⟨_, rfl⟩, h0.2.2.tr ⟨_, rfl⟩⟩ (by show s0 ≤ M.2.2.2.2 + _; omega)
          · cases g4
        · cases hk
    · rw [if_neg e1] at h; cases h
  · cases h
theorem vz_o58 : vz_Op 58 := by
  intro p l e R s m args below meth c Q k b L xs en sz D c0 s0 ad0 tys0 hC pc lv st M i j t f M' h hk hr hN
  obtain ⟨hx, hb, hml, hown, hts, hlocks, hrt, hinit, htr, ⟨hfr, hlo⟩, hst9⟩ := id hC
  obtain ⟨rfl, rfl⟩ := vz_nx h
  refine ⟨rfl, fun ad tys ws H locs ls sc hX h0 h1 => ?_⟩
  obtain ⟨hB, hS, hl, hst⟩ := hX
  have hk : (match vs_wa t with
    | .fieldLink own idx ref n d => decide (own = vs_own k) && decide (i < 5) && decide ((ref, n, d) = ("SharedPalimpsest$What", vs_en i, "LSharedPalimpsest$What;")) && decide (decode (vs_by k) pc = .ok (.getstatic idx, 3))
    | _ => false) = true := hk
  split at hk
  · rename_i own idx ref n d hw
    obtain ⟨hk, g4⟩ := vz_and hk
    obtain ⟨hk, g3⟩ := vz_and hk
    obtain ⟨g1, g2⟩ := vz_and hk
    have g1 := vz_dec g1
    have g2 := vz_dec g2
    have g3 := vz_dec g3
    rw [Prod.mk.injEq, Prod.mk.injEq] at g3
    obtain ⟨e1, e2, e3⟩ := g3
    subst g1; subst e1; subst e2; subst e3
    refine va_gets hx hb (hst9.2.2.2.1 i g2) hS hown (vz_word hw (by intro z; cases z) rfl hts) (fun z hz => hz) (vz_dec g4) (hN ad tys ws H locs ls _ ⟨hB, hS, hl, ⟨en i, ?_, rfl⟩, hst⟩ h0 h1)
    unfold vj_ad
    rw [if_neg (by omega), if_pos (by omega)]
    rfl
  · cases hk
theorem vz_o59 : vz_Op 59 := by
  intro p l e R s m args below meth c Q k b L xs en sz D c0 s0 ad0 tys0 hC pc lv st M i j t f M' h hk hr hN
  obtain ⟨hx, hb, hml, hown, hts, hlocks, hrt, hinit, htr, ⟨hfr, hlo⟩, hst9⟩ := id hC
  have h : (match st with
    | .ref y :: .ref x :: st => if vj_enq x y = true then vj_next k (if Nat.beq x y = true then pc + 3 else i) lv st M else none
    | _ => none) = some (.inl (f, M')) := h
  split at h
  · rename_i y x st h9
    by_cases e1 : vj_enq x y = true
    · rw [if_pos e1] at h
      obtain ⟨rfl, rfl⟩ := vz_nx h
      refine ⟨rfl, fun ad tys ws H locs ls sc hX h0 h1 => ?_⟩
      obtain ⟨hB, hS, hl, hst⟩ := hX
      match sc, hst with
      | w' :: w :: sc, ⟨h3b, h3, hst⟩ =>
        obtain ⟨a', h4', rfl⟩ := h3b
        obtain ⟨a, h4, rfl⟩ := h3
        unfold vj_enq at e1
        obtain ⟨x1, x2, y1, y2⟩ := vz_dec e1
        have hy := vz_en y1 y2 h4'
        have hxx := vz_en x1 x2 h4
        refine lv_acmp_ne hx hb (rx := some a) (ry := some a') (vz_dec hk) (vz_to pc i) (fun z => ?_) (fun z => ?_)
        · have kk := hN ad tys ws H locs ls sc ⟨hB, hS, hl, hst⟩ h0 h1
          have e : ¬ Nat.beq x y = true := fun q => z (by rw [hy, hxx, Nat.eq_of_beq_eq_true q])
          rw [if_neg e] at kk
          exact kk
        · have kk := hN ad tys ws H locs ls sc ⟨hB, hS, hl, hst⟩ h0 h1
          have e : Nat.beq x y = true := by
            have z1 : en (x - 1) = en (y - 1) := by
              have := Option.some.inj z
              rw [hy, hxx] at this
              exact this
            have z2 := hst9.2.2.2.2.1 _ _ (vz_en5 x1 x2) (vz_en5 y1 y2) z1
            rw [vz_enx x1 y1 z2]
            exact Nat.beq_refl _
          rw [if_pos e] at kk
          exact kk
    · rw [if_neg e1] at h; cases h
  · cases h
theorem vz_o63 : vz_Op 63 := by
  intro p l e R s m args below meth c Q k b L xs en sz D c0 s0 ad0 tys0 hC pc lv st M i j t f M' h hk hr hN
  obtain ⟨hx, hb, hml, hown, hts, hlocks, hrt, hinit, htr, ⟨hfr, hlo⟩, hst9⟩ := id hC
  have h : (match st with
    | .int x :: st => vj_next k (vj_tsw vt_ts vt_td x) lv st M
    | _ => none) = some (.inl (f, M')) := h
  have hk : (match decode (vs_by k) pc with
      | .ok (.tableswitch dflt lo hi offs, _) => decide (lo = 0) && decide (hi + 1 = (vt_ts.length : Int)) && decide ((pc : Int) + dflt = vt_td) && decide (offs.toList.length = vt_ts.length) && (List.range vt_ts.length).all (fun j => decide (offs[j]?.map (fun o => (pc : Int) + o) = vt_ts[j]?.map (fun t => (t : Int))))
      | _ => false) = true := hk
  split at h
  · rename_i x st h9
    obtain ⟨rfl, rfl⟩ := vz_nx h
    refine ⟨rfl, fun ad tys ws H locs ls sc hX h0 h1 => ?_⟩
    obtain ⟨hB, hS, hl, hst⟩ := hX
    match sc, hst with
    | w :: sc, ⟨h3, hst⟩ =>
      have h3 : w = .int x := h3
      subst h3
      have kk := hN ad tys ws H locs ls sc ⟨hB, hS, hl, hst⟩ h0 h1
      split at hk
      · rename_i dflt lo hi offs len hd
        obtain ⟨hk, g5⟩ := vz_and hk
        obtain ⟨hk, g4⟩ := vz_and hk
        obtain ⟨hk, g3⟩ := vz_and hk
        obtain ⟨g1, g2⟩ := vz_and hk
        have g1 := vz_dec g1
        have g2 := vz_dec g2
        have g3 := vz_dec g3
        have g4 := vz_dec g4
        subst g1
        dsimp only at kk
        unfold vj_tsw at kk
        by_cases ex : x < 0
        · rw [if_pos ex] at kk
          exact lv_tableOut hx hb hd (Or.inl (by rw [Int32.lt_iff_toInt_lt] at ex; exact ex)) g3 kk
        · rw [if_neg ex] at kk
          have ex2 : ¬ x.toInt < 0 := by rw [Int32.lt_iff_toInt_lt] at ex; exact ex
          have ex3 : x.toNatClampNeg = x.toInt.toNat := rfl
          cases hg : vt_ts[x.toNatClampNeg]? with
          | none =>
            rw [hg] at kk
            have := List.getElem?_eq_none_iff.mp hg
            exact lv_tableOut hx hb hd (Or.inr (by omega)) g3 kk
          | some t2 =>
            rw [hg] at kk
            have hlt := (List.getElem?_eq_some_iff.mp hg).1
            have g6 := vz_dec (List.all_eq_true.mp g5 _ (List.mem_range.mpr hlt))
            rw [hg] at g6
            cases ho : offs[x.toNatClampNeg]? with
            | none => rw [ho] at g6; cases g6
            | some o =>
              rw [ho] at g6
              have g7 := Option.some.inj g6
              refine lv_tableIn hx hb hd ex2 (by omega) (off := o) ?_ g7 kk
              rw [Int.sub_zero, ← ex3]
              exact ho
      · cases hk
  · cases h
end VP
