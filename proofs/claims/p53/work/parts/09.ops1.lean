/-! ===== rows for single operations: locals, stack, numbers, branches ===== -/
section VO
theorem vz_o0 : vz_Op 0 := by
  intro p l e R s m args below meth c Q k b L xs en sz D c0 s0 ad0 tys0 hC pc lv st M i j t f M' h hk hr hN
  obtain ⟨hx, hb, hml, hown, hts, hlocks, hrt, hinit, htr, ⟨hfr, hlo⟩, hst9⟩ := id hC
  have h : (match vj_lget lv i with
    | some v => if vj_isI v = true then vj_next k (pc + j) lv (v :: st) M else none
    | none => none) = some (.inl (f, M')) := h
  cases hg : vj_lget lv i with
  | none => rw [hg] at h; cases h
  | some v =>
    rw [hg] at h
    dsimp only at h
    by_cases hv : vj_isI v = true
    · rw [if_pos hv] at h
      obtain ⟨rfl, rfl⟩ := vz_nx h
      refine ⟨rfl, fun ad tys ws H locs ls sc hX h0 h1 => ?_⟩
      obtain ⟨hB, hS, hl, hst⟩ := hX
      obtain ⟨w, h2, h3⟩ := hl.get hg
      have kk := hN ad tys ws H locs ls (w :: sc) ⟨hB, hS, hl, h3, hst⟩ h0 h1
      cases v with
      | int x =>
        have h3 : w = .int x := h3
        subst h3
        rcases vz_or hk with hk | hk
        · obtain ⟨hk, h4⟩ := vz_and hk
          obtain ⟨h5, h6⟩ := vz_and hk
          have h5 := vz_dec h5
          subst h5
          exact lv_iload_n hx hb (vz_dec h4) (vz_fin i (vz_dec h6)) h2 kk
        · obtain ⟨h5, h4⟩ := vz_and hk
          have h5 := vz_dec h5
          subst h5
          exact lv_iload hx hb (vz_dec h4) h2 kk
      | _ => cases hv
    · rw [if_neg hv] at h; cases h
theorem vz_o1 : vz_Op 1 := by
  intro p l e R s m args below meth c Q k b L xs en sz D c0 s0 ad0 tys0 hC pc lv st M i j t f M' h hk hr hN
  obtain ⟨hx, hb, hml, hown, hts, hlocks, hrt, hinit, htr, ⟨hfr, hlo⟩, hst9⟩ := id hC
  have h : (match vj_lget lv i with
    | some v => if vj_isA v = true then vj_next k (pc + j) lv (v :: st) M else none
    | none => none) = some (.inl (f, M')) := h
  cases hg : vj_lget lv i with
  | none => rw [hg] at h; cases h
  | some v =>
    rw [hg] at h
    dsimp only at h
    by_cases hv : vj_isA v = true
    · rw [if_pos hv] at h
      obtain ⟨rfl, rfl⟩ := vz_nx h
      refine ⟨rfl, fun ad tys ws H locs ls sc hX h0 h1 => ?_⟩
      obtain ⟨hB, hS, hl, hst⟩ := hX
      obtain ⟨w, h2, h3⟩ := hl.get hg
      have kk := hN ad tys ws H locs ls (w :: sc) ⟨hB, hS, hl, h3, hst⟩ h0 h1
      cases v with
      | ref q =>
        obtain ⟨a, -, h3⟩ := h3
        subst h3
        rcases vz_or hk with hk | hk
        · obtain ⟨hk, h4⟩ := vz_and hk
          obtain ⟨h5, h6⟩ := vz_and hk
          have h5 := vz_dec h5
          subst h5
          exact lv_aload_n hx hb (vz_dec h4) (vz_fin i (vz_dec h6)) h2 kk
        · obtain ⟨h5, h4⟩ := vz_and hk
          have h5 := vz_dec h5
          subst h5
          exact lv_aload hx hb (vz_dec h4) h2 kk
      | null =>
        have h3 : w = .null := h3
        subst h3
        rcases vz_or hk with hk | hk
        · obtain ⟨hk, h4⟩ := vz_and hk
          obtain ⟨h5, h6⟩ := vz_and hk
          have h5 := vz_dec h5
          subst h5
          exact lv_aload_nN hx hb (vz_dec h4) (vz_fin i (vz_dec h6)) h2 kk
        · obtain ⟨h5, h4⟩ := vz_and hk
          have h5 := vz_dec h5
          subst h5
          exact lv_aloadN hx hb (vz_dec h4) h2 kk
      | _ => cases hv
    · rw [if_neg hv] at h; cases h
theorem vz_o52 : vz_Op 52 := by
  intro p l e R s m args below meth c Q k b L xs en sz D c0 s0 ad0 tys0 hC pc lv st M i j t f M' h hk hr hN
  obtain ⟨hx, hb, hml, hown, hts, hlocks, hrt, hinit, htr, ⟨hfr, hlo⟩, hst9⟩ := id hC
  have h : (match vj_lget lv i with
    | some v => if vj_isJ v = true then vj_next k (pc + j) lv (v :: st) M else none
    | none => none) = some (.inl (f, M')) := h
  cases hg : vj_lget lv i with
  | none => rw [hg] at h; cases h
  | some v =>
    rw [hg] at h
    dsimp only at h
    by_cases hv : vj_isJ v = true
    · rw [if_pos hv] at h
      obtain ⟨rfl, rfl⟩ := vz_nx h
      refine ⟨rfl, fun ad tys ws H locs ls sc hX h0 h1 => ?_⟩
      obtain ⟨hB, hS, hl, hst⟩ := hX
      obtain ⟨w, h2, h3⟩ := hl.get hg
      have kk := hN ad tys ws H locs ls (w :: sc) ⟨hB, hS, hl, h3, hst⟩ h0 h1
      cases v with
      | long x =>
        have h3 : w = .long x := h3
        subst h3
        rcases vz_or hk with hk | hk
        · obtain ⟨hk, h4⟩ := vz_and hk
          obtain ⟨h5, h6⟩ := vz_and hk
          have h5 := vz_dec h5
          subst h5
          exact lv_lload_n hx hb (vz_dec h4) (vz_fin i (vz_dec h6)) h2 kk
        · obtain ⟨h5, h4⟩ := vz_and hk
          have h5 := vz_dec h5
          subst h5
          exact lv_lload hx hb (vz_dec h4) h2 kk
      | _ => cases hv
    · rw [if_neg hv] at h; cases h
theorem vz_o55 : vz_Op 55 := by
  intro p l e R s m args below meth c Q k b L xs en sz D c0 s0 ad0 tys0 hC pc lv st M i j t f M' h hk hr hN
  obtain ⟨hx, hb, hml, hown, hts, hlocks, hrt, hinit, htr, ⟨hfr, hlo⟩, hst9⟩ := id hC
  have h : (match vj_lget lv i with
    | some v => if vj_isD v = true then vj_next k (pc + j) lv (v :: st) M else none
    | none => none) = some (.inl (f, M')) := h
  cases hg : vj_lget lv i with
  | none => rw [hg] at h; cases h
  | some v =>
    rw [hg] at h
    dsimp only at h
    by_cases hv : vj_isD v = true
    · rw [if_pos hv] at h
      obtain ⟨rfl, rfl⟩ := vz_nx h
      refine ⟨rfl, fun ad tys ws H locs ls sc hX h0 h1 => ?_⟩
      obtain ⟨hB, hS, hl, hst⟩ := hX
      obtain ⟨w, h2, h3⟩ := hl.get hg
      have kk := hN ad tys ws H locs ls (w :: sc) ⟨hB, hS, hl, h3, hst⟩ h0 h1
      cases v with
      | double x =>
        have h3 : w = .double x := h3
        subst h3
        obtain ⟨h5, h4⟩ := vz_and hk
        have h5 := vz_dec h5
        subst h5
        exact lv_dload hx hb (vz_dec h4) h2 kk
      | _ => cases hv
    · rw [if_neg hv] at h; cases h
theorem vz_o3 : vz_Op 3 := by
  intro p l e R s m args below meth c Q k b L xs en sz D c0 s0 ad0 tys0 hC pc lv st M i j t f M' h hk hr hN
  obtain ⟨hx, hb, hml, hown, hts, hlocks, hrt, hinit, htr, ⟨hfr, hlo⟩, hst9⟩ := id hC
  cases st with
  | nil => cases h
  | cons v st =>
    have h : (if vj_isI v = true then vj_next k (pc + j) (vj_lset lv i v) st M else none) = some (.inl (f, M')) := h
    by_cases hv : vj_isI v = true
    · rw [if_pos hv] at h
      obtain ⟨rfl, rfl⟩ := vz_nx h
      refine ⟨rfl, fun ad tys ws H locs ls sc hX h0 h1 => ?_⟩
      obtain ⟨hB, hS, ⟨lw, hl1, hl2⟩, hst⟩ := hX
      cases sc with
      | nil => exact hst.elim
      | cons w sc =>
        obtain ⟨h3, hst⟩ := hst
        obtain ⟨hk0, hk⟩ := vz_and hk
        have hk0 := vz_dec hk0
        cases v with
        | int x =>
          have h3 : w = .int x := h3
          subst h3
          have h3 : vj_r b en ad (.int x) (.int x) := rfl
          rcases vz_or hk with hk | hk
          · obtain ⟨hk, h4⟩ := vz_and hk
            obtain ⟨h5, h6⟩ := vz_and hk
            have h5 := vz_dec h5
            subst h5
            exact lv_istore_n hx hb (vz_dec h4) (vz_fin i (vz_dec h6)) hl1 hk0 rfl (fun ls' hl' => hN ad tys ws H locs ls' sc ⟨hB, hS, ⟨_, hl', vj_lo.st1 hl2 i h3⟩, hst⟩ h0 h1)
          · obtain ⟨h5, h4⟩ := vz_and hk
            have h5 := vz_dec h5
            subst h5
            exact lv_istore hx hb (vz_dec h4) hl1 hk0 rfl (fun ls' hl' => hN ad tys ws H locs ls' sc ⟨hB, hS, ⟨_, hl', vj_lo.st1 hl2 i h3⟩, hst⟩ h0 h1)
        | _ => cases hv
    · rw [if_neg hv] at h; cases h
theorem vz_o4 : vz_Op 4 := by
  intro p l e R s m args below meth c Q k b L xs en sz D c0 s0 ad0 tys0 hC pc lv st M i j t f M' h hk hr hN
  obtain ⟨hx, hb, hml, hown, hts, hlocks, hrt, hinit, htr, ⟨hfr, hlo⟩, hst9⟩ := id hC
  cases st with
  | nil => cases h
  | cons v st =>
    have h : (if vj_isA v = true then vj_next k (pc + j) (vj_lset lv i v) st M else none) = some (.inl (f, M')) := h
    by_cases hv : vj_isA v = true
    · rw [if_pos hv] at h
      obtain ⟨rfl, rfl⟩ := vz_nx h
      refine ⟨rfl, fun ad tys ws H locs ls sc hX h0 h1 => ?_⟩
      obtain ⟨hB, hS, ⟨lw, hl1, hl2⟩, hst⟩ := hX
      cases sc with
      | nil => exact hst.elim
      | cons w sc =>
        obtain ⟨h3, hst⟩ := hst
        obtain ⟨hk0, hk⟩ := vz_and hk
        have hk0 := vz_dec hk0
        cases v with
        | ref q =>
          obtain ⟨a, h3a, h3⟩ := h3
          subst h3
          have h3 : vj_r b en ad (.ref q) (.ref a) := ⟨a, h3a, rfl⟩
          rcases vz_or hk with hk | hk
          · obtain ⟨hk, h4⟩ := vz_and hk
            obtain ⟨h5, h6⟩ := vz_and hk
            have h5 := vz_dec h5
            subst h5
            exact lv_astore_n hx hb (vz_dec h4) (vz_fin i (vz_dec h6)) hl1 hk0 rfl (fun ls' hl' => hN ad tys ws H locs ls' sc ⟨hB, hS, ⟨_, hl', vj_lo.st1 hl2 i h3⟩, hst⟩ h0 h1)
          · obtain ⟨h5, h4⟩ := vz_and hk
            have h5 := vz_dec h5
            subst h5
            exact lv_astore hx hb (vz_dec h4) hl1 hk0 rfl (fun ls' hl' => hN ad tys ws H locs ls' sc ⟨hB, hS, ⟨_, hl', vj_lo.st1 hl2 i h3⟩, hst⟩ h0 h1)
        | null =>
          have h3 : w = .null := h3
          subst h3
          have h3 : vj_r b en ad (.null) (.null) := rfl
          rcases vz_or hk with hk | hk
          · obtain ⟨hk, h4⟩ := vz_and hk
            obtain ⟨h5, h6⟩ := vz_and hk
            have h5 := vz_dec h5
            subst h5
            exact lv_astore_nN hx hb (vz_dec h4) (vz_fin i (vz_dec h6)) hl1 hk0 rfl (fun ls' hl' => hN ad tys ws H locs ls' sc ⟨hB, hS, ⟨_, hl', vj_lo.st1 hl2 i h3⟩, hst⟩ h0 h1)
          · obtain ⟨h5, h4⟩ := vz_and hk
            have h5 := vz_dec h5
            subst h5
            exact lv_astoreN hx hb (vz_dec h4) hl1 hk0 rfl (fun ls' hl' => hN ad tys ws H locs ls' sc ⟨hB, hS, ⟨_, hl', vj_lo.st1 hl2 i h3⟩, hst⟩ h0 h1)
        | _ => cases hv
    · rw [if_neg hv] at h; cases h
theorem vz_o53 : vz_Op 53 := by
  intro p l e R s m args below meth c Q k b L xs en sz D c0 s0 ad0 tys0 hC pc lv st M i j t f M' h hk hr hN
  obtain ⟨hx, hb, hml, hown, hts, hlocks, hrt, hinit, htr, ⟨hfr, hlo⟩, hst9⟩ := id hC
  cases st with
  | nil => cases h
  | cons v st =>
    have h : (if vj_isJ v = true then vj_next k (pc + j) (vj_lset lv i v) st M else none) = some (.inl (f, M')) := h
    by_cases hv : vj_isJ v = true
    · rw [if_pos hv] at h
      obtain ⟨rfl, rfl⟩ := vz_nx h
      refine ⟨rfl, fun ad tys ws H locs ls sc hX h0 h1 => ?_⟩
      obtain ⟨hB, hS, ⟨lw, hl1, hl2⟩, hst⟩ := hX
      cases sc with
      | nil => exact hst.elim
      | cons w sc =>
        obtain ⟨h3, hst⟩ := hst
        obtain ⟨hk0, hk⟩ := vz_and hk
        have hk0 := vz_dec hk0
        cases v with
        | long x =>
          have h3 : w = .long x := h3
          subst h3
          have h3 : vj_r b en ad (.long x) (.long x) := rfl
          rcases vz_or hk with hk | hk
          · obtain ⟨hk, h4⟩ := vz_and hk
            obtain ⟨h5, h6⟩ := vz_and hk
            have h5 := vz_dec h5
            subst h5
            exact lv_lstore_n hx hb (vz_dec h4) (vz_fin i (vz_dec h6)) hl1 hk0 rfl (fun ls' hl' => hN ad tys ws H locs ls' sc ⟨hB, hS, ⟨_, hl', vj_lo.st2 hl2 i h3 rfl⟩, hst⟩ h0 h1)
          · obtain ⟨h5, h4⟩ := vz_and hk
            have h5 := vz_dec h5
            subst h5
            exact lv_lstore hx hb (vz_dec h4) hl1 hk0 rfl (fun ls' hl' => hN ad tys ws H locs ls' sc ⟨hB, hS, ⟨_, hl', vj_lo.st2 hl2 i h3 rfl⟩, hst⟩ h0 h1)
        | _ => cases hv
    · rw [if_neg hv] at h; cases h
theorem vz_o56 : vz_Op 56 := by
  intro p l e R s m args below meth c Q k b L xs en sz D c0 s0 ad0 tys0 hC pc lv st M i j t f M' h hk hr hN
  obtain ⟨hx, hb, hml, hown, hts, hlocks, hrt, hinit, htr, ⟨hfr, hlo⟩, hst9⟩ := id hC
  cases st with
  | nil => cases h
  | cons v st =>
    have h : (if vj_isD v = true then vj_next k (pc + j) (vj_lset lv i v) st M else none) = some (.inl (f, M')) := h
    by_cases hv : vj_isD v = true
    · rw [if_pos hv] at h
      obtain ⟨rfl, rfl⟩ := vz_nx h
      refine ⟨rfl, fun ad tys ws H locs ls sc hX h0 h1 => ?_⟩
      obtain ⟨hB, hS, ⟨lw, hl1, hl2⟩, hst⟩ := hX
      cases sc with
      | nil => exact hst.elim
      | cons w sc =>
        obtain ⟨h3, hst⟩ := hst
        obtain ⟨hk, h4⟩ := vz_and hk
        obtain ⟨hk0, h5⟩ := vz_and hk
        have hk0 := vz_dec hk0
        cases v with
        | double x =>
          have h3 : w = .double x := h3
          subst h3
          have h3 : vj_r b en ad (.double x) (.double x) := rfl
          have h5 := vz_dec h5
          subst h5
          exact lv_dstore hx hb (vz_dec h4) hl1 hk0 rfl (fun ls' hl' => hN ad tys ws H locs ls' sc ⟨hB, hS, ⟨_, hl', vj_lo.st2 hl2 i h3 rfl⟩, hst⟩ h0 h1)
        | _ => cases hv
    · rw [if_neg hv] at h; cases h
theorem vz_o2 : vz_Op 2 := by
  intro p l e R s m args below meth c Q k b L xs en sz D c0 s0 ad0 tys0 hC pc lv st M i j t f M' h hk hr hN
  obtain ⟨hx, hb, hml, hown, hts, hlocks, hrt, hinit, htr, ⟨hfr, hlo⟩, hst9⟩ := id hC
  obtain ⟨rfl, rfl⟩ := vz_nx h
  refine ⟨rfl, fun ad tys ws H locs ls sc hX h0 h1 => ?_⟩
  obtain ⟨hB, hS, hl, hst⟩ := hX
  have kk := hN ad tys ws H locs ls (.int (nI i) :: sc) ⟨hB, hS, hl, rfl, hst⟩ h0 h1
  rcases vz_or hk with hk | hk
  · rcases vz_or hk with hk | hk
    · obtain ⟨hk, h6⟩ := vz_and hk
      obtain ⟨h5, h4⟩ := vz_and hk
      have h5 := vz_dec h5
      subst h5
      exact lv_iconst hx hb (vz_dec h4) (vz_dec h6) kk
    · obtain ⟨hk, h6⟩ := vz_and hk
      obtain ⟨h5, h4⟩ := vz_and hk
      have h5 := vz_dec h5
      subst h5
      exact lv_bipush hx hb (vz_dec h4) (vz_dec h6) kk
  · obtain ⟨hk, h6⟩ := vz_and hk
    obtain ⟨h5, h4⟩ := vz_and hk
    have h5 := vz_dec h5
    subst h5
    exact lv_sipush hx hb (vz_dec h4) (vz_dec h6) kk
theorem vz_o5 : vz_Op 5 := by
  intro p l e R s m args below meth c Q k b L xs en sz D c0 s0 ad0 tys0 hC pc lv st M i j t f M' h hk hr hN
  obtain ⟨hx, hb, hml, hown, hts, hlocks, hrt, hinit, htr, ⟨hfr, hlo⟩, hst9⟩ := id hC
  obtain ⟨rfl, rfl⟩ := vz_nx h
  refine ⟨rfl, fun ad tys ws H locs ls sc hX h0 h1 => ?_⟩
  exact lv_goto hx hb (vz_dec hk) (vz_to pc i) (hN ad tys ws H locs ls sc hX h0 h1)
theorem vz_o6 : vz_Op 6 := by
  intro p l e R s m args below meth c Q k b L xs en sz D c0 s0 ad0 tys0 hC pc lv st M i j t f M' h hk hr hN
  obtain ⟨hx, hb, hml, hown, hts, hlocks, hrt, hinit, htr, ⟨hfr, hlo⟩, hst9⟩ := id hC
  have h : (match vj_lget lv i with
    | some (.int x) => vj_next k (pc + 3) (vj_lset lv i (.int (x + nI j))) st M
    | _ => none) = some (.inl (f, M')) := h
  cases hg : vj_lget lv i with
  | none => rw [hg] at h; cases h
  | some v =>
    rw [hg] at h
    cases v with
    | int x =>
      obtain ⟨rfl, rfl⟩ := vz_nx h
      refine ⟨rfl, fun ad tys ws H locs ls sc hX h0 h1 => ?_⟩
      obtain ⟨hB, hS, ⟨lw, hl1, hl2⟩, hst⟩ := hX
      obtain ⟨w, h2, h3⟩ := hl2 i _ hg
      have h3 : w = .int x := h3
      subst h3
      obtain ⟨n, hn⟩ := List.getElem?_of_mem h2
      obtain ⟨hk, h6⟩ := vz_and hk
      obtain ⟨hk0, h4⟩ := vz_and hk
      have h7 : vj_r b en ad (.int (x + nI j)) (.int (x + nI j)) := rfl
      exact lv_iinc hx hb (vz_dec h4) hl1 hn (by rw [vz_dec h6]) (vz_dec hk0) rfl (fun ls' hl' => hN ad tys ws H locs ls' sc ⟨hB, hS, ⟨_, hl', vj_lo.st1 hl2 i h7⟩, hst⟩ h0 h1)
    | _ => cases h
theorem vz_brc {p : Program} {l : Launch} {e : Env} {R : Room} {s : State} {m : MethodId} {args : Array Value} {below : List Frame} {meth : Method} {c : Code} {H : Heap} {locs : List Loc} {cells slots : Nat} {Q : State → Prop} {pc : Nat} {ls : Array Slot} {rest : List Value} {cc : ByteArray} (hx : p.tables.exec = Jvm.exec) (hb : c.code = cc) (cn : Nat) (hcn : cn < 6) {x : Int32} {off : Int} {tgt : Nat} (hd : decode cc pc = .ok (.ifCond (vs_cond cn) off, 3)) (ht : (pc : Int) + off = (tgt : Int))
    (kt : vj_cond cn x 0 = true → W p l e R s m args below meth c H locs cells slots Q (F0 m tgt ls rest)) (kf : ¬ vj_cond cn x 0 = true → W p l e R s m args below meth c H locs cells slots Q (F0 m (pc + 3) ls rest)) : W p l e R s m args below meth c H locs cells slots Q (F0 m pc ls (.int x :: rest)) := by
  match cn, hcn with
  | 0, _ => exact lv_if_eq hx hb hd ht (fun q => kt (decide_eq_true q)) (fun q => kf (fun z => q (of_decide_eq_true (p := x = 0) z)))
  | 1, _ => exact lv_if_ne hx hb hd ht (fun q => kt (decide_eq_true q)) (fun q => kf (fun z => (of_decide_eq_true (p := ¬ x = 0) z) q))
  | 2, _ => exact lv_if_lt hx hb hd ht (fun q => kt (decide_eq_true q)) (fun q => kf (fun z => q (of_decide_eq_true (p := x < 0) z)))
  | 3, _ => exact lv_if_ge hx hb hd ht (fun q => kt (decide_eq_true q)) (fun q => kf (fun z => q (of_decide_eq_true (p := 0 ≤ x) z)))
  | 4, _ => exact lv_if_gt hx hb hd ht (fun q => kt (decide_eq_true q)) (fun q => kf (fun z => q (of_decide_eq_true (p := 0 < x) z)))
  | 5, _ => exact lv_if_le hx hb hd ht (fun q => kt (decide_eq_true q)) (fun q => kf (fun z => q (of_decide_eq_true (p := x ≤ 0) z)))
  | n + 6, h => omega
theorem vz_bri {p : Program} {l : Launch} {e : Env} {R : Room} {s : State} {m : MethodId} {args : Array Value} {below : List Frame} {meth : Method} {c : Code} {H : Heap} {locs : List Loc} {cells slots : Nat} {Q : State → Prop} {pc : Nat} {ls : Array Slot} {rest : List Value} {cc : ByteArray} (hx : p.tables.exec = Jvm.exec) (hb : c.code = cc) (cn : Nat) (hcn : cn < 6) {x y : Int32} {off : Int} {tgt : Nat} (hd : decode cc pc = .ok (.if_icmp (vs_cond cn) off, 3)) (ht : (pc : Int) + off = (tgt : Int))
    (kt : vj_cond cn x y = true → W p l e R s m args below meth c H locs cells slots Q (F0 m tgt ls rest)) (kf : ¬ vj_cond cn x y = true → W p l e R s m args below meth c H locs cells slots Q (F0 m (pc + 3) ls rest)) : W p l e R s m args below meth c H locs cells slots Q (F0 m pc ls (.int y :: .int x :: rest)) := by
  match cn, hcn with
  | 0, _ => exact lv_icmp_eq hx hb hd ht (fun q => kt (decide_eq_true q)) (fun q => kf (fun z => q (of_decide_eq_true (p := x = y) z)))
  | 1, _ => exact lv_icmp_ne hx hb hd ht (fun q => kt (decide_eq_true q)) (fun q => kf (fun z => (of_decide_eq_true (p := ¬ x = y) z) q))
  | 2, _ => exact lv_icmp_lt hx hb hd ht (fun q => kt (decide_eq_true q)) (fun q => kf (fun z => q (of_decide_eq_true (p := x < y) z)))
  | 3, _ => exact lv_icmp_ge hx hb hd ht (fun q => kt (decide_eq_true q)) (fun q => kf (fun z => q (of_decide_eq_true (p := y ≤ x) z)))
  | 4, _ => exact lv_icmp_gt hx hb hd ht (fun q => kt (decide_eq_true q)) (fun q => kf (fun z => q (of_decide_eq_true (p := y < x) z)))
  | 5, _ => exact lv_icmp_le hx hb hd ht (fun q => kt (decide_eq_true q)) (fun q => kf (fun z => q (of_decide_eq_true (p := x ≤ y) z)))
  | n + 6, h => omega
theorem vz_o7 : vz_Op 7 := by
  intro p l e R s m args below meth c Q k b L xs en sz D c0 s0 ad0 tys0 hC pc lv st M i j t f M' h hk hr hN
  obtain ⟨hx, hb, hml, hown, hts, hlocks, hrt, hinit, htr, ⟨hfr, hlo⟩, hst9⟩ := id hC
  have h : (match st with
    | .int x :: st => vj_next k (if vj_cond j x 0 = true then i else pc + 3) lv st M
    | _ => none) = some (.inl (f, M')) := h
  split at h
  · rename_i x st h9
    obtain ⟨rfl, rfl⟩ := vz_nx h
    refine ⟨rfl, fun ad tys ws H locs ls sc hX h0 h1 => ?_⟩
    obtain ⟨hB, hS, hl, hst⟩ := hX
    obtain ⟨h5, h4⟩ := vz_and hk
    cases sc with
    | nil => exact hst.elim
    | cons w sc =>
      obtain ⟨h3, hst⟩ := hst
      have h3 : w = .int x := h3
      subst h3
      refine vz_brc hx hb j (vz_dec h5) (vz_dec h4) (vz_to pc i) (fun q => ?_) (fun q => ?_)
      · have kk := hN ad tys ws H locs ls sc ⟨hB, hS, hl, hst⟩ h0 h1
        rw [if_pos q] at kk
        exact kk
      · have kk := hN ad tys ws H locs ls sc ⟨hB, hS, hl, hst⟩ h0 h1
        rw [if_neg q] at kk
        exact kk
  · cases h
theorem vz_o8 : vz_Op 8 := by
  intro p l e R s m args below meth c Q k b L xs en sz D c0 s0 ad0 tys0 hC pc lv st M i j t f M' h hk hr hN
  obtain ⟨hx, hb, hml, hown, hts, hlocks, hrt, hinit, htr, ⟨hfr, hlo⟩, hst9⟩ := id hC
  have h : (match st with
    | .int y :: .int x :: st => vj_next k (if vj_cond j x y = true then i else pc + 3) lv st M
    | _ => none) = some (.inl (f, M')) := h
  split at h
  · rename_i y x st h9
    obtain ⟨rfl, rfl⟩ := vz_nx h
    refine ⟨rfl, fun ad tys ws H locs ls sc hX h0 h1 => ?_⟩
    obtain ⟨hB, hS, hl, hst⟩ := hX
    obtain ⟨h5, h4⟩ := vz_and hk
    match sc, hst with
    | w :: w2 :: sc, ⟨h3, h3b, hst⟩ =>
      have h3 : w = .int y := h3
      subst h3
      have h3b : w2 = .int x := h3b
      subst h3b
      refine vz_bri hx hb j (vz_dec h5) (vz_dec h4) (vz_to pc i) (fun q => ?_) (fun q => ?_)
      · have kk := hN ad tys ws H locs ls sc ⟨hB, hS, hl, hst⟩ h0 h1
        rw [if_pos q] at kk
        exact kk
      · have kk := hN ad tys ws H locs ls sc ⟨hB, hS, hl, hst⟩ h0 h1
        rw [if_neg q] at kk
        exact kk
  · cases h
theorem vz_o9 : vz_Op 9 := by
  intro p l e R s m args below meth c Q k b L xs en sz D c0 s0 ad0 tys0 hC pc lv st M i j t f M' h hk hr hN
  obtain ⟨hx, hb, hml, hown, hts, hlocks, hrt, hinit, htr, ⟨hfr, hlo⟩, hst9⟩ := id hC
  have h : (match st with
    | .int y :: .int x :: st => vj_next k (pc + 1) lv (.int (x + y) :: st) M
    | _ => none) = some (.inl (f, M')) := h
  split at h
  · rename_i y x st h9
    obtain ⟨rfl, rfl⟩ := vz_nx h
    refine ⟨rfl, fun ad tys ws H locs ls sc hX h0 h1 => ?_⟩
    obtain ⟨hB, hS, hl, hst⟩ := hX
    match sc, hst with
    | w :: w2 :: sc, ⟨h3, h3b, hst⟩ =>
      have h3 : w = .int y := h3
      subst h3
      have h3b : w2 = .int x := h3b
      subst h3b
      exact lv_iadd hx hb (vz_dec hk) (hN ad tys ws H locs ls _ ⟨hB, hS, hl, rfl, hst⟩ h0 h1)
  · cases h
theorem vz_o10 : vz_Op 10 := by
  intro p l e R s m args below meth c Q k b L xs en sz D c0 s0 ad0 tys0 hC pc lv st M i j t f M' h hk hr hN
  obtain ⟨hx, hb, hml, hown, hts, hlocks, hrt, hinit, htr, ⟨hfr, hlo⟩, hst9⟩ := id hC
  have h : (match st with
    | .int y :: .int x :: st => vj_next k (pc + 1) lv (.int (x - y) :: st) M
    | _ => none) = some (.inl (f, M')) := h
  split at h
  · rename_i y x st h9
    obtain ⟨rfl, rfl⟩ := vz_nx h
    refine ⟨rfl, fun ad tys ws H locs ls sc hX h0 h1 => ?_⟩
    obtain ⟨hB, hS, hl, hst⟩ := hX
    match sc, hst with
    | w :: w2 :: sc, ⟨h3, h3b, hst⟩ =>
      have h3 : w = .int y := h3
      subst h3
      have h3b : w2 = .int x := h3b
      subst h3b
      exact lv_isub hx hb (vz_dec hk) (hN ad tys ws H locs ls _ ⟨hB, hS, hl, rfl, hst⟩ h0 h1)
  · cases h
theorem vz_o11 : vz_Op 11 := by
  intro p l e R s m args below meth c Q k b L xs en sz D c0 s0 ad0 tys0 hC pc lv st M i j t f M' h hk hr hN
  obtain ⟨hx, hb, hml, hown, hts, hlocks, hrt, hinit, htr, ⟨hfr, hlo⟩, hst9⟩ := id hC
  have h : (match st with
    | .int y :: .int x :: st => vj_next k (pc + 1) lv (.int (x * y) :: st) M
    | _ => none) = some (.inl (f, M')) := h
  split at h
  · rename_i y x st h9
    obtain ⟨rfl, rfl⟩ := vz_nx h
    refine ⟨rfl, fun ad tys ws H locs ls sc hX h0 h1 => ?_⟩
    obtain ⟨hB, hS, hl, hst⟩ := hX
    match sc, hst with
    | w :: w2 :: sc, ⟨h3, h3b, hst⟩ =>
      have h3 : w = .int y := h3
      subst h3
      have h3b : w2 = .int x := h3b
      subst h3b
      exact lv_imul hx hb (vz_dec hk) (hN ad tys ws H locs ls _ ⟨hB, hS, hl, rfl, hst⟩ h0 h1)
  · cases h
theorem vz_o12 : vz_Op 12 := by
  intro p l e R s m args below meth c Q k b L xs en sz D c0 s0 ad0 tys0 hC pc lv st M i j t f M' h hk hr hN
  obtain ⟨hx, hb, hml, hown, hts, hlocks, hrt, hinit, htr, ⟨hfr, hlo⟩, hst9⟩ := id hC
  have h : (match st with
    | .int y :: .int x :: st => vj_next k (pc + 1) lv (.int (x &&& y) :: st) M
    | _ => none) = some (.inl (f, M')) := h
  split at h
  · rename_i y x st h9
    obtain ⟨rfl, rfl⟩ := vz_nx h
    refine ⟨rfl, fun ad tys ws H locs ls sc hX h0 h1 => ?_⟩
    obtain ⟨hB, hS, hl, hst⟩ := hX
    match sc, hst with
    | w :: w2 :: sc, ⟨h3, h3b, hst⟩ =>
      have h3 : w = .int y := h3
      subst h3
      have h3b : w2 = .int x := h3b
      subst h3b
      exact lv_iand hx hb (vz_dec hk) (hN ad tys ws H locs ls _ ⟨hB, hS, hl, rfl, hst⟩ h0 h1)
  · cases h
theorem vz_o13 : vz_Op 13 := by
  intro p l e R s m args below meth c Q k b L xs en sz D c0 s0 ad0 tys0 hC pc lv st M i j t f M' h hk hr hN
  obtain ⟨hx, hb, hml, hown, hts, hlocks, hrt, hinit, htr, ⟨hfr, hlo⟩, hst9⟩ := id hC
  have h : (match st with
    | .int y :: .int x :: st => if y = 0 then none else vj_next k (pc + 1) lv (.int (x - x / y * y) :: st) M
    | _ => none) = some (.inl (f, M')) := h
  split at h
  · rename_i y x st h9
    by_cases hy : y = 0
    · rw [if_pos hy] at h; cases h
    rw [if_neg hy] at h
    obtain ⟨rfl, rfl⟩ := vz_nx h
    refine ⟨rfl, fun ad tys ws H locs ls sc hX h0 h1 => ?_⟩
    obtain ⟨hB, hS, hl, hst⟩ := hX
    match sc, hst with
    | w :: w2 :: sc, ⟨h3, h3b, hst⟩ =>
      have h3 : w = .int y := h3
      subst h3
      have h3b : w2 = .int x := h3b
      subst h3b
      exact lv_irem hx hb (vz_dec hk) hy (hN ad tys ws H locs ls _ ⟨hB, hS, hl, rfl, hst⟩ h0 h1)
  · cases h
theorem vz_o64 : vz_Op 64 := by
  intro p l e R s m args below meth c Q k b L xs en sz D c0 s0 ad0 tys0 hC pc lv st M i j t f M' h hk hr hN
  obtain ⟨hx, hb, hml, hown, hts, hlocks, hrt, hinit, htr, ⟨hfr, hlo⟩, hst9⟩ := id hC
  have h : (match st with
    | .int y :: .int x :: st => if y = 0 then none else vj_next k (pc + 1) lv (.int (x / y) :: st) M
    | _ => none) = some (.inl (f, M')) := h
  split at h
  · rename_i y x st h9
    by_cases hy : y = 0
    · rw [if_pos hy] at h; cases h
    rw [if_neg hy] at h
    obtain ⟨rfl, rfl⟩ := vz_nx h
    refine ⟨rfl, fun ad tys ws H locs ls sc hX h0 h1 => ?_⟩
    obtain ⟨hB, hS, hl, hst⟩ := hX
    match sc, hst with
    | w :: w2 :: sc, ⟨h3, h3b, hst⟩ =>
      have h3 : w = .int y := h3
      subst h3
      have h3b : w2 = .int x := h3b
      subst h3b
      exact lv_idiv hx hb (vz_dec hk) hy (hN ad tys ws H locs ls _ ⟨hB, hS, hl, rfl, hst⟩ h0 h1)
  · cases h
theorem vz_o65 : vz_Op 65 := by
  intro p l e R s m args below meth c Q k b L xs en sz D c0 s0 ad0 tys0 hC pc lv st M i j t f M' h hk hr hN
  obtain ⟨hx, hb, hml, hown, hts, hlocks, hrt, hinit, htr, ⟨hfr, hlo⟩, hst9⟩ := id hC
  have h : (match st with
    | .int y :: .int x :: st => vj_next k (pc + 1) lv (.int (x <<< (y &&& 31)) :: st) M
    | _ => none) = some (.inl (f, M')) := h
  split at h
  · rename_i y x st h9
    obtain ⟨rfl, rfl⟩ := vz_nx h
    refine ⟨rfl, fun ad tys ws H locs ls sc hX h0 h1 => ?_⟩
    obtain ⟨hB, hS, hl, hst⟩ := hX
    match sc, hst with
    | w :: w2 :: sc, ⟨h3, h3b, hst⟩ =>
      have h3 : w = .int y := h3
      subst h3
      have h3b : w2 = .int x := h3b
      subst h3b
      exact lv_ishl hx hb (vz_dec hk) (hN ad tys ws H locs ls _ ⟨hB, hS, hl, rfl, hst⟩ h0 h1)
  · cases h
theorem vz_o66 : vz_Op 66 := by
  intro p l e R s m args below meth c Q k b L xs en sz D c0 s0 ad0 tys0 hC pc lv st M i j t f M' h hk hr hN
  obtain ⟨hx, hb, hml, hown, hts, hlocks, hrt, hinit, htr, ⟨hfr, hlo⟩, hst9⟩ := id hC
  have h : (match st with
    | .int y :: .int x :: st => vj_next k (pc + 1) lv (.int (x >>> (y &&& 31)) :: st) M
    | _ => none) = some (.inl (f, M')) := h
  split at h
  · rename_i y x st h9
    obtain ⟨rfl, rfl⟩ := vz_nx h
    refine ⟨rfl, fun ad tys ws H locs ls sc hX h0 h1 => ?_⟩
    obtain ⟨hB, hS, hl, hst⟩ := hX
    match sc, hst with
    | w :: w2 :: sc, ⟨h3, h3b, hst⟩ =>
      have h3 : w = .int y := h3
      subst h3
      have h3b : w2 = .int x := h3b
      subst h3b
      exact lv_ishr hx hb (vz_dec hk) (hN ad tys ws H locs ls _ ⟨hB, hS, hl, rfl, hst⟩ h0 h1)
  · cases h
theorem vz_o48 : vz_Op 48 := by
  intro p l e R s m args below meth c Q k b L xs en sz D c0 s0 ad0 tys0 hC pc lv st M i j t f M' h hk hr hN
  obtain ⟨hx, hb, hml, hown, hts, hlocks, hrt, hinit, htr, ⟨hfr, hlo⟩, hst9⟩ := id hC
  have h : (match st with
    | .long y :: .long x :: st => vj_next k (pc + 1) lv (.long (x + y) :: st) M
    | _ => none) = some (.inl (f, M')) := h
  split at h
  · rename_i y x st h9
    obtain ⟨rfl, rfl⟩ := vz_nx h
    refine ⟨rfl, fun ad tys ws H locs ls sc hX h0 h1 => ?_⟩
    obtain ⟨hB, hS, hl, hst⟩ := hX
    match sc, hst with
    | w :: w2 :: sc, ⟨h3, h3b, hst⟩ =>
      have h3 : w = .long y := h3
      subst h3
      have h3b : w2 = .long x := h3b
      subst h3b
      exact lv_ladd hx hb (vz_dec hk) (hN ad tys ws H locs ls _ ⟨hB, hS, hl, rfl, hst⟩ h0 h1)
  · cases h
theorem vz_o49 : vz_Op 49 := by
  intro p l e R s m args below meth c Q k b L xs en sz D c0 s0 ad0 tys0 hC pc lv st M i j t f M' h hk hr hN
  obtain ⟨hx, hb, hml, hown, hts, hlocks, hrt, hinit, htr, ⟨hfr, hlo⟩, hst9⟩ := id hC
  have h : (match st with
    | .long y :: .long x :: st => vj_next k (pc + 1) lv (.long (x * y) :: st) M
    | _ => none) = some (.inl (f, M')) := h
  split at h
  · rename_i y x st h9
    obtain ⟨rfl, rfl⟩ := vz_nx h
    refine ⟨rfl, fun ad tys ws H locs ls sc hX h0 h1 => ?_⟩
    obtain ⟨hB, hS, hl, hst⟩ := hX
    match sc, hst with
    | w :: w2 :: sc, ⟨h3, h3b, hst⟩ =>
      have h3 : w = .long y := h3
      subst h3
      have h3b : w2 = .long x := h3b
      subst h3b
      exact lv_lmul hx hb (vz_dec hk) (hN ad tys ws H locs ls _ ⟨hB, hS, hl, rfl, hst⟩ h0 h1)
  · cases h
theorem vz_o50 : vz_Op 50 := by
  intro p l e R s m args below meth c Q k b L xs en sz D c0 s0 ad0 tys0 hC pc lv st M i j t f M' h hk hr hN
  obtain ⟨hx, hb, hml, hown, hts, hlocks, hrt, hinit, htr, ⟨hfr, hlo⟩, hst9⟩ := id hC
  have h : (match st with
    | .long y :: .long x :: st => vj_next k (pc + 1) lv (.int (lg_cmp x y) :: st) M
    | _ => none) = some (.inl (f, M')) := h
  split at h
  · rename_i y x st h9
    obtain ⟨rfl, rfl⟩ := vz_nx h
    refine ⟨rfl, fun ad tys ws H locs ls sc hX h0 h1 => ?_⟩
    obtain ⟨hB, hS, hl, hst⟩ := hX
    match sc, hst with
    | w :: w2 :: sc, ⟨h3, h3b, hst⟩ =>
      have h3 : w = .long y := h3
      subst h3
      have h3b : w2 = .long x := h3b
      subst h3b
      exact W.lcmp hx hb (vz_dec hk) (hN ad tys ws H locs ls _ ⟨hB, hS, hl, rfl, hst⟩ h0 h1)
  · cases h
theorem vz_o57 : vz_Op 57 := by
  intro p l e R s m args below meth c Q k b L xs en sz D c0 s0 ad0 tys0 hC pc lv st M i j t f M' h hk hr hN
  obtain ⟨hx, hb, hml, hown, hts, hlocks, hrt, hinit, htr, ⟨hfr, hlo⟩, hst9⟩ := id hC
  have h : (match st with
    | .double y :: .double x :: st => vj_next k (pc + 1) lv (.int (Op.cmpValue (FP.dcmp x y) .l) :: st) M
    | _ => none) = some (.inl (f, M')) := h
  split at h
  · rename_i y x st h9
    obtain ⟨rfl, rfl⟩ := vz_nx h
    refine ⟨rfl, fun ad tys ws H locs ls sc hX h0 h1 => ?_⟩
    obtain ⟨hB, hS, hl, hst⟩ := hX
    match sc, hst with
    | w :: w2 :: sc, ⟨h3, h3b, hst⟩ =>
      have h3 : w = .double y := h3
      subst h3
      have h3b : w2 = .double x := h3b
      subst h3b
      exact lv_dcmp hx hb (vz_dec hk) (hN ad tys ws H locs ls _ ⟨hB, hS, hl, rfl, hst⟩ h0 h1)
  · cases h
theorem vz_o70 : vz_Op 70 := by
  intro p l e R s m args below meth c Q k b L xs en sz D c0 s0 ad0 tys0 hC pc lv st M i j t f M' h hk hr hN
  obtain ⟨hx, hb, hml, hown, hts, hlocks, hrt, hinit, htr, ⟨hfr, hlo⟩, hst9⟩ := id hC
  have h : (match st with
    | .double y :: .double x :: st => vj_next k (pc + 1) lv (.int (Op.cmpValue (FP.dcmp x y) .g) :: st) M
    | _ => none) = some (.inl (f, M')) := h
  split at h
  · rename_i y x st h9
    obtain ⟨rfl, rfl⟩ := vz_nx h
    refine ⟨rfl, fun ad tys ws H locs ls sc hX h0 h1 => ?_⟩
    obtain ⟨hB, hS, hl, hst⟩ := hX
    match sc, hst with
    | w :: w2 :: sc, ⟨h3, h3b, hst⟩ =>
      have h3 : w = .double y := h3
      subst h3
      have h3b : w2 = .double x := h3b
      subst h3b
      exact lv_dcmp hx hb (vz_dec hk) (hN ad tys ws H locs ls _ ⟨hB, hS, hl, rfl, hst⟩ h0 h1)
  · cases h
theorem vz_o68 : vz_Op 68 := by
  intro p l e R s m args below meth c Q k b L xs en sz D c0 s0 ad0 tys0 hC pc lv st M i j t f M' h hk hr hN
  obtain ⟨hx, hb, hml, hown, hts, hlocks, hrt, hinit, htr, ⟨hfr, hlo⟩, hst9⟩ := id hC
  have h : (match st with
    | .double y :: .double x :: st => if vj_n64 (FP.ddiv x y) = true then vj_next k (pc + 1) lv (.double (FP.ddiv x y) :: st) M else none
    | _ => none) = some (.inl (f, M')) := h
  split at h
  · rename_i y x st h9
    by_cases hy : vj_n64 (FP.ddiv x y) = true
    · rw [if_pos hy] at h
      obtain ⟨rfl, rfl⟩ := vz_nx h
      refine ⟨rfl, fun ad tys ws H locs ls sc hX h0 h1 => ?_⟩
      obtain ⟨hB, hS, hl, hst⟩ := hX
      match sc, hst with
      | w :: w2 :: sc, ⟨h3, h3b, hst⟩ =>
        have h3 : w = .double y := h3
        subst h3
        have h3b : w2 = .double x := h3b
        subst h3b
        have hy2 : vf_n64 (FP.ddiv x y) := by
          unfold vj_n64 at hy
          exact of_decide_eq_true (p := FP.ddiv x y &&& 0x7fffffffffffffff ≤ 0x7ff0000000000000) hy
        exact lv_ddiv hx hb (vz_dec hk) hy2 (hN ad tys ws H locs ls _ ⟨hB, hS, hl, rfl, hst⟩ h0 h1)
    · rw [if_neg hy] at h; cases h
  · cases h
theorem vz_o69 : vz_Op 69 := by
  intro p l e R s m args below meth c Q k b L xs en sz D c0 s0 ad0 tys0 hC pc lv st M i j t f M' h hk hr hN
  obtain ⟨hx, hb, hml, hown, hts, hlocks, hrt, hinit, htr, ⟨hfr, hlo⟩, hst9⟩ := id hC
  have h : (match st with
    | .double y :: .double x :: st => if vj_n64 (FP.dadd x y) = true then vj_next k (pc + 1) lv (.double (FP.dadd x y) :: st) M else none
    | _ => none) = some (.inl (f, M')) := h
  split at h
  · rename_i y x st h9
    by_cases hy : vj_n64 (FP.dadd x y) = true
    · rw [if_pos hy] at h
      obtain ⟨rfl, rfl⟩ := vz_nx h
      refine ⟨rfl, fun ad tys ws H locs ls sc hX h0 h1 => ?_⟩
      obtain ⟨hB, hS, hl, hst⟩ := hX
      match sc, hst with
      | w :: w2 :: sc, ⟨h3, h3b, hst⟩ =>
        have h3 : w = .double y := h3
        subst h3
        have h3b : w2 = .double x := h3b
        subst h3b
        have hy2 : vf_n64 (FP.dadd x y) := by
          unfold vj_n64 at hy
          exact of_decide_eq_true (p := FP.dadd x y &&& 0x7fffffffffffffff ≤ 0x7ff0000000000000) hy
        exact lv_dadd hx hb (vz_dec hk) hy2 (hN ad tys ws H locs ls _ ⟨hB, hS, hl, rfl, hst⟩ h0 h1)
    · rw [if_neg hy] at h; cases h
  · cases h
theorem vz_o47 : vz_Op 47 := by
  intro p l e R s m args below meth c Q k b L xs en sz D c0 s0 ad0 tys0 hC pc lv st M i j t f M' h hk hr hN
  obtain ⟨hx, hb, hml, hown, hts, hlocks, hrt, hinit, htr, ⟨hfr, hlo⟩, hst9⟩ := id hC
  have h : (match st with
    | .int x :: st => vj_next k (pc + 1) lv (.long (x.toInt64) :: st) M
    | _ => none) = some (.inl (f, M')) := h
  split at h
  · rename_i x st h9
    obtain ⟨rfl, rfl⟩ := vz_nx h
    refine ⟨rfl, fun ad tys ws H locs ls sc hX h0 h1 => ?_⟩
    obtain ⟨hB, hS, hl, hst⟩ := hX
    match sc, hst with
    | w :: sc, ⟨h3, hst⟩ =>
      have h3 : w = .int x := h3
      subst h3
      exact lv_i2l hx hb (vz_dec hk) rfl (hN ad tys ws H locs ls _ ⟨hB, hS, hl, rfl, hst⟩ h0 h1)
  · cases h
theorem vz_o67 : vz_Op 67 := by
  intro p l e R s m args below meth c Q k b L xs en sz D c0 s0 ad0 tys0 hC pc lv st M i j t f M' h hk hr hN
  obtain ⟨hx, hb, hml, hown, hts, hlocks, hrt, hinit, htr, ⟨hfr, hlo⟩, hst9⟩ := id hC
  have h : (match st with
    | .int x :: st => vj_next k (pc + 1) lv (.double (FP.i2d x) :: st) M
    | _ => none) = some (.inl (f, M')) := h
  split at h
  · rename_i x st h9
    obtain ⟨rfl, rfl⟩ := vz_nx h
    refine ⟨rfl, fun ad tys ws H locs ls sc hX h0 h1 => ?_⟩
    obtain ⟨hB, hS, hl, hst⟩ := hX
    match sc, hst with
    | w :: sc, ⟨h3, hst⟩ =>
      have h3 : w = .int x := h3
      subst h3
      exact lv_i2d hx hb (vz_dec hk) (hN ad tys ws H locs ls _ ⟨hB, hS, hl, rfl, hst⟩ h0 h1)
  · cases h
theorem vz_o51 : vz_Op 51 := by
  intro p l e R s m args below meth c Q k b L xs en sz D c0 s0 ad0 tys0 hC pc lv st M i j t f M' h hk hr hN
  obtain ⟨hx, hb, hml, hown, hts, hlocks, hrt, hinit, htr, ⟨hfr, hlo⟩, hst9⟩ := id hC
  have h : vj_next k (pc + (if j = 0 then 1 else 3)) lv (.long (lN i) :: st) M = some (.inl (f, M')) := h
  obtain ⟨rfl, rfl⟩ := vz_nx h
  refine ⟨rfl, fun ad tys ws H locs ls sc hX h0 h1 => ?_⟩
  obtain ⟨hB, hS, hl, hst⟩ := hX
  have kk := hN ad tys ws H locs ls (.long (lN i) :: sc) ⟨hB, hS, hl, rfl, hst⟩ h0 h1
  rcases vz_or hk with hk | hk
  · obtain ⟨hk, h4⟩ := vz_and hk
    obtain ⟨h5, h6⟩ := vz_and hk
    rw [if_pos (vz_dec h5)] at kk
    exact lv_lconst hx hb (vz_dec h4) (by
      show Int64.ofNat (i % 2) = Int64.ofNat i
      rw [Nat.mod_eq_of_lt (vz_dec h6)]) kk
  · obtain ⟨h5, hk⟩ := vz_and hk
    rw [if_neg (vz_dec h5)] at kk
    split at hk
    · rename_i own idx v hw
      obtain ⟨hk, h4⟩ := vz_and hk
      obtain ⟨h6, h7⟩ := vz_and hk
      have h6 := vz_dec h6
      have h7 := vz_dec h7
      subst h6; subst h7
      exact lv_ldc2 hx hb hown (vz_word hw (by intro q; cases q) rfl hts) (vz_dec h4) kk
    · cases hk
theorem vz_o54 : vz_Op 54 := by
  intro p l e R s m args below meth c Q k b L xs en sz D c0 s0 ad0 tys0 hC pc lv st M i j t f M' h hk hr hN
  obtain ⟨hx, hb, hml, hown, hts, hlocks, hrt, hinit, htr, ⟨hfr, hlo⟩, hst9⟩ := id hC
  obtain ⟨rfl, rfl⟩ := vz_nx h
  refine ⟨rfl, fun ad tys ws H locs ls sc hX h0 h1 => ?_⟩
  obtain ⟨hB, hS, hl, hst⟩ := hX
  exact lv_dconst0 hx hb (vz_dec hk) (hN ad tys ws H locs ls _ ⟨hB, hS, hl, rfl, hst⟩ h0 h1)
theorem vz_o71 : vz_Op 71 := by
  intro p l e R s m args below meth c Q k b L xs en sz D c0 s0 ad0 tys0 hC pc lv st M i j t f M' h hk hr hN
  obtain ⟨hx, hb, hml, hown, hts, hlocks, hrt, hinit, htr, ⟨hfr, hlo⟩, hst9⟩ := id hC
  obtain ⟨rfl, rfl⟩ := vz_nx h
  refine ⟨rfl, fun ad tys ws H locs ls sc hX h0 h1 => ?_⟩
  obtain ⟨hB, hS, hl, hst⟩ := hX
  have kk := hN ad tys ws H locs ls (.int (nI i) :: sc) ⟨hB, hS, hl, rfl, hst⟩ h0 h1
  have hk : (match vs_wa t with
    | .constant own idx v => decide (own = vs_own k) && decide (v = nI i) && decide (decode (vs_by k) pc = .ok (.ldc idx, 2))
    | _ => false) = true := hk
  split at hk
  · rename_i own idx v hw
    obtain ⟨hk, h4⟩ := vz_and hk
    obtain ⟨h6, h7⟩ := vz_and hk
    have h6 := vz_dec h6
    have h7 := vz_dec h7
    subst h6; subst h7
    exact lv_ldc hx hb hown (vz_word hw (by intro q; cases q) rfl hts) (vz_dec h4) kk
  · cases hk
theorem vz_o72 : vz_Op 72 := by
  intro p l e R s m args below meth c Q k b L xs en sz D c0 s0 ad0 tys0 hC pc lv st M i j t f M' h hk hr hN
  obtain ⟨hx, hb, hml, hown, hts, hlocks, hrt, hinit, htr, ⟨hfr, hlo⟩, hst9⟩ := id hC
  obtain ⟨rfl, rfl⟩ := vz_nx h
  refine ⟨rfl, fun ad tys ws H locs ls sc hX h0 h1 => ?_⟩
  obtain ⟨hB, hS, hl, hst⟩ := hX
  have kk := hN ad tys ws H locs ls (.double (UInt64.ofNat i) :: sc) ⟨hB, hS, hl, rfl, hst⟩ h0 h1
  have hk : (match vs_wa t with
    | .constantDouble own idx v => decide (own = vs_own k) && decide (v = UInt64.ofNat i) && decide (decode (vs_by k) pc = .ok (.ldc2_w idx, 3))
    | _ => false) = true := hk
  split at hk
  · rename_i own idx v hw
    obtain ⟨hk, h4⟩ := vz_and hk
    obtain ⟨h6, h7⟩ := vz_and hk
    have h6 := vz_dec h6
    have h7 := vz_dec h7
    subst h6; subst h7
    exact lv_ldc2d hx hb hown (vz_word hw (by intro q; cases q) rfl hts) (vz_dec h4) kk
  · cases hk
theorem vz_c1 {b : Nat} {en : Nat → Nat} {ad : List Nat} {v w : Value} (h : vj_r b en ad v w) (hv : ¬ vj_two v = true) : w.category = 1 := by
  rw [h.cat]
  rw [vj_two_cat] at hv
  rcases lv_cat v with q | q
  · exact q
  · rw [q] at hv; exact absurd rfl hv
theorem vz_o38 : vz_Op 38 := by
  intro p l e R s m args below meth c Q k b L xs en sz D c0 s0 ad0 tys0 hC pc lv st M i j t f M' h hk hr hN
  obtain ⟨hx, hb, hml, hown, hts, hlocks, hrt, hinit, htr, ⟨hfr, hlo⟩, hst9⟩ := id hC
  have h : (match st with
    | v :: st => if vj_two v = true then none else vj_next k (pc + 1) lv (v :: v :: st) M
    | _ => none) = some (.inl (f, M')) := h
  split at h
  · rename_i v st h9
    by_cases hv : vj_two v = true
    · rw [if_pos hv] at h; cases h
    · rw [if_neg hv] at h
      obtain ⟨rfl, rfl⟩ := vz_nx h
      refine ⟨rfl, fun ad tys ws H locs ls sc hX h0 h1 => ?_⟩
      obtain ⟨hB, hS, hl, hst⟩ := hX
      match sc, hst with
      | w :: sc, ⟨h3, hst⟩ => exact lv_dup hx hb (vz_dec hk) (vz_c1 h3 hv) (hN ad tys ws H locs ls _ ⟨hB, hS, hl, h3, h3, hst⟩ h0 h1)
  · cases h
theorem vz_o39 : vz_Op 39 := by
  intro p l e R s m args below meth c Q k b L xs en sz D c0 s0 ad0 tys0 hC pc lv st M i j t f M' h hk hr hN
  obtain ⟨hx, hb, hml, hown, hts, hlocks, hrt, hinit, htr, ⟨hfr, hlo⟩, hst9⟩ := id hC
  have h : (match st with
    | v :: st => if vj_two v = true then none else vj_next k (pc + 1) lv st M
    | _ => none) = some (.inl (f, M')) := h
  split at h
  · rename_i v st h9
    by_cases hv : vj_two v = true
    · rw [if_pos hv] at h; cases h
    · rw [if_neg hv] at h
      obtain ⟨rfl, rfl⟩ := vz_nx h
      refine ⟨rfl, fun ad tys ws H locs ls sc hX h0 h1 => ?_⟩
      obtain ⟨hB, hS, hl, hst⟩ := hX
      match sc, hst with
      | w :: sc, ⟨h3, hst⟩ => exact lv_pop hx hb (vz_dec hk) (vz_c1 h3 hv) (hN ad tys ws H locs ls _ ⟨hB, hS, hl, hst⟩ h0 h1)
  · cases h
theorem vz_o40 : vz_Op 40 := by
  intro p l e R s m args below meth c Q k b L xs en sz D c0 s0 ad0 tys0 hC pc lv st M i j t f M' h hk hr hN
  obtain ⟨hx, hb, hml, hown, hts, hlocks, hrt, hinit, htr, ⟨hfr, hlo⟩, hst9⟩ := id hC
  have h : (match st with
    | v :: w :: st => if vj_two v = true ∨ vj_two w = true then none else vj_next k (pc + 1) lv (v :: w :: v :: st) M
    | _ => none) = some (.inl (f, M')) := h
  split at h
  · rename_i v w st h9
    by_cases hv : vj_two v = true ∨ vj_two w = true
    · rw [if_pos hv] at h; cases h
    · rw [if_neg hv] at h
      obtain ⟨rfl, rfl⟩ := vz_nx h
      refine ⟨rfl, fun ad tys ws H locs ls sc hX h0 h1 => ?_⟩
      obtain ⟨hB, hS, hl, hst⟩ := hX
      match sc, hst with
      | v' :: w' :: sc, ⟨h3, h4, hst⟩ => exact lv_dup_x1 hx hb (vz_dec hk) (vz_c1 h3 (fun q => hv (Or.inl q))) (vz_c1 h4 (fun q => hv (Or.inr q))) (hN ad tys ws H locs ls _ ⟨hB, hS, hl, h3, h4, h3, hst⟩ h0 h1)
  · cases h
theorem vz_o41 : vz_Op 41 := by
  intro p l e R s m args below meth c Q k b L xs en sz D c0 s0 ad0 tys0 hC pc lv st M i j t f M' h hk hr hN
  obtain ⟨hx, hb, hml, hown, hts, hlocks, hrt, hinit, htr, ⟨hfr, hlo⟩, hst9⟩ := id hC
  have h : (match st with
    | v :: w :: st => if vj_two v = true ∨ vj_two w = true then none else vj_next k (pc + 1) lv (v :: w :: v :: w :: st) M
    | _ => none) = some (.inl (f, M')) := h
  split at h
  · rename_i v w st h9
    by_cases hv : vj_two v = true ∨ vj_two w = true
    · rw [if_pos hv] at h; cases h
    · rw [if_neg hv] at h
      obtain ⟨rfl, rfl⟩ := vz_nx h
      refine ⟨rfl, fun ad tys ws H locs ls sc hX h0 h1 => ?_⟩
      obtain ⟨hB, hS, hl, hst⟩ := hX
      match sc, hst with
      | v' :: w' :: sc, ⟨h3, h4, hst⟩ => exact lv_dup2_11 hx hb (vz_dec hk) (vz_c1 h3 (fun q => hv (Or.inl q))) (vz_c1 h4 (fun q => hv (Or.inr q))) (hN ad tys ws H locs ls _ ⟨hB, hS, hl, h3, h4, h3, h4, hst⟩ h0 h1)
  · cases h
theorem vz_o60 : vz_Op 60 := by
  intro p l e R s m args below meth c Q k b L xs en sz D c0 s0 ad0 tys0 hC pc lv st M i j t f M' h hk hr hN
  obtain ⟨hx, hb, hml, hown, hts, hlocks, hrt, hinit, htr, ⟨hfr, hlo⟩, hst9⟩ := id hC
  have h : (match st with
    | .null :: st => vj_next k i lv st M
    | .ref _ :: st => vj_next k (pc + 3) lv st M
    | _ => none) = some (.inl (f, M')) := h
  split at h
  · rename_i st h9
    obtain ⟨rfl, rfl⟩ := vz_nx h
    refine ⟨rfl, fun ad tys ws H locs ls sc hX h0 h1 => ?_⟩
    obtain ⟨hB, hS, hl, hst⟩ := hX
    match sc, hst with
    | w :: sc, ⟨h3, hst⟩ =>
      have h3 : w = .null := h3
      subst h3
      exact lv_ifnullN hx hb (vz_dec hk) (vz_to pc i) (hN ad tys ws H locs ls _ ⟨hB, hS, hl, hst⟩ h0 h1)
  · rename_i q st h9
    obtain ⟨rfl, rfl⟩ := vz_nx h
    refine ⟨rfl, fun ad tys ws H locs ls sc hX h0 h1 => ?_⟩
    obtain ⟨hB, hS, hl, hst⟩ := hX
    match sc, hst with
    | w :: sc, ⟨h3, hst⟩ =>
      obtain ⟨a, -, h3⟩ := h3
      subst h3
      exact lv_ifnull hx hb (vz_dec hk) (hN ad tys ws H locs ls _ ⟨hB, hS, hl, hst⟩ h0 h1)
  · cases h
theorem vz_o61 : vz_Op 61 := by
  intro p l e R s m args below meth c Q k b L xs en sz D c0 s0 ad0 tys0 hC pc lv st M i j t f M' h hk hr hN
  obtain ⟨hx, hb, hml, hown, hts, hlocks, hrt, hinit, htr, ⟨hfr, hlo⟩, hst9⟩ := id hC
  have h : (match st with
    | .null :: st => vj_next k (pc + 3) lv st M
    | .ref _ :: st => vj_next k i lv st M
    | _ => none) = some (.inl (f, M')) := h
  split at h
  · rename_i st h9
    obtain ⟨rfl, rfl⟩ := vz_nx h
    refine ⟨rfl, fun ad tys ws H locs ls sc hX h0 h1 => ?_⟩
    obtain ⟨hB, hS, hl, hst⟩ := hX
    match sc, hst with
    | w :: sc, ⟨h3, hst⟩ =>
      have h3 : w = .null := h3
      subst h3
      exact lv_ifnonnullN hx hb (vz_dec hk) (hN ad tys ws H locs ls _ ⟨hB, hS, hl, hst⟩ h0 h1)
  · rename_i q st h9
    obtain ⟨rfl, rfl⟩ := vz_nx h
    refine ⟨rfl, fun ad tys ws H locs ls sc hX h0 h1 => ?_⟩
    obtain ⟨hB, hS, hl, hst⟩ := hX
    match sc, hst with
    | w :: sc, ⟨h3, hst⟩ =>
      obtain ⟨a, -, h3⟩ := h3
      subst h3
      exact lv_ifnonnull hx hb (vz_dec hk) (vz_to pc i) (hN ad tys ws H locs ls _ ⟨hB, hS, hl, hst⟩ h0 h1)
  · cases h
theorem vz_o62 : vz_Op 62 := by
  intro p l e R s m args below meth c Q k b L xs en sz D c0 s0 ad0 tys0 hC pc lv st M i j t f M' h hk hr hN
  obtain ⟨hx, hb, hml, hown, hts, hlocks, hrt, hinit, htr, ⟨hfr, hlo⟩, hst9⟩ := id hC
  obtain ⟨rfl, rfl⟩ := vz_nx h
  refine ⟨rfl, fun ad tys ws H locs ls sc hX h0 h1 => ?_⟩
  obtain ⟨hB, hS, hl, hst⟩ := hX
  exact lv_null hx hb (vz_dec hk) (hN ad tys ws H locs ls _ ⟨hB, hS, hl, rfl, hst⟩ h0 h1)
end VO
