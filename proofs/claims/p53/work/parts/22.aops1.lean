/-! ===== the abstract walker is right: one operation after the other ===== -/
section VR2
def vk_K (L : Nat) (xs : Nat → Int32) (cm sm : Nat) : List vj_F → (List Value ⊕ Nat) → vj_M → Prop
  | [], .inl v, M => v = [.int 1] ∧ M.2.2.2.1 ≤ cm ∧ M.2.2.2.2 ≤ sm
  | [], .inr _, _ => False
  | g :: fs, .inl v, M => ∃ n r M', vr_run L xs n (g.1, g.2.1 + 3, g.2.2.1, v ++ g.2.2.2) M = some (r, M') ∧ vk_K L xs cm sm fs r M'
  | g :: fs, .inr e, M => match vj_catch vt_mi vt_code g e with
    | some (some g') => ∃ n r M', vr_run L xs n g' M = some (r, M') ∧ vk_K L xs cm sm fs r M'
    | some none => vk_K L xs cm sm fs (.inr e) M
    | none => False
/-- from these frames the run comes to the law's end with true, within the room -/
def vk_OK (L : Nat) (xs : Nat → Int32) (cm sm : Nat) (fs : List vj_F) (M : vj_M) : Prop := match fs with
  | [] => False
  | f :: fs => ∃ n r M', vr_run L xs n f M = some (r, M') ∧ vk_K L xs cm sm fs r M'
section
variable {L : Nat} {xs : Nat → Int32} {cm sm : Nat}
theorem vr_succ (m : Nat) (f : vj_F) (M : vj_M) : vr_run L xs (m + 1) f M = (match vr_step L xs f M with
      | some (.inl (f', M')) => vr_run L xs m f' M'
      | some (.inr (.inl (g, vs, a, M'))) => (match vr_run L xs m (a, 0, vj_args (vt_mi a).2.2.1 vs, []) M' with
        | some (.inl v, M2) => vr_run L xs m (g.1, g.2.1 + 3, g.2.2.1, v ++ g.2.2.2) M2
        | some (.inr e, M2) => (match vj_catch vt_mi vt_code g e with
          | some (some g') => vr_run L xs m g' M2
          | some none => some (.inr e, M2)
          | none => none)
        | none => none)
      | some (.inr (.inr (.inl (v, M')))) => some (.inl v, M')
      | some (.inr (.inr (.inr (e, M')))) => some (.inr e, M')
      | none => none) := rfl
theorem vr_more : ∀ (n : Nat) (f : vj_F) (M : vj_M) (x : (List Value ⊕ Nat) × vj_M), vr_run L xs n f M = some x → ∀ m, n ≤ m → vr_run L xs m f M = some x
  | 0, _, _, _, h, _, _ => nomatch h
  | n + 1, f, M, x, h, 0, hm => by omega
  | n + 1, f, M, (r, M'), h, m + 1, hm => by
    have hm : n ≤ m := by omega
    rw [vr_succ]
    rcases vr_cases h with ⟨f1, M1, h1, h2⟩ | ⟨g, vs, a, M1, h1, h2⟩ | ⟨v, h1, h2⟩ | ⟨x, h1, h2⟩
    · rw [h1]
      exact vr_more n f1 M1 _ h2 m hm
    · rw [h1]
      rcases h2 with ⟨v, M2, h3, h4⟩ | ⟨x, M2, h3, h4⟩
      · have h3' := vr_more n _ _ _ h3 m hm
        show (match vr_run L xs m (a, 0, vj_args (vt_mi a).2.2.1 vs, []) M1 with
          | some (.inl v, M2) => vr_run L xs m (g.1, g.2.1 + 3, g.2.2.1, v ++ g.2.2.2) M2
          | some (.inr e, M2) => (match vj_catch vt_mi vt_code g e with
            | some (some g') => vr_run L xs m g' M2
            | some none => some (.inr e, M2)
            | none => none)
          | none => none) = _
        rw [h3']
        exact vr_more n _ _ _ h4 m hm
      · have h3' := vr_more n _ _ _ h3 m hm
        show (match vr_run L xs m (a, 0, vj_args (vt_mi a).2.2.1 vs, []) M1 with
          | some (.inl v, M2) => vr_run L xs m (g.1, g.2.1 + 3, g.2.2.1, v ++ g.2.2.2) M2
          | some (.inr e, M2) => (match vj_catch vt_mi vt_code g e with
            | some (some g') => vr_run L xs m g' M2
            | some none => some (.inr e, M2)
            | none => none)
          | none => none) = _
        rw [h3']
        rcases h4 with ⟨g', h5, h6⟩ | ⟨h5, h6, h7⟩
        · show (match vj_catch vt_mi vt_code g x with
            | some (some g') => vr_run L xs m g' M2
            | some none => some (.inr x, M2)
            | none => none) = _
          rw [h5]
          exact vr_more n _ _ _ h6 m hm
        · show (match vj_catch vt_mi vt_code g x with
            | some (some g') => vr_run L xs m g' M2
            | some none => some (.inr x, M2)
            | none => none) = _
          rw [h5, h6, h7]
    · rw [h1, h2]
    · rw [h1, h2]
theorem vk_next {f f' : vj_F} {fs : List vj_F} {M M' : vj_M} (h : vr_step L xs f M = some (.inl (f', M'))) (k : vk_OK L xs cm sm (f' :: fs) M') : vk_OK L xs cm sm (f :: fs) M := by
  obtain ⟨n, r, M2, h1, h2⟩ := k
  refine ⟨n + 1, r, M2, ?_, h2⟩
  rw [vr_succ, h]
  exact h1
theorem vk_ret {f : vj_F} {fs : List vj_F} {M M' : vj_M} {v : List Value} (h : vr_step L xs f M = some (.inr (.inr (.inl (v, M'))))) (k : vk_K L xs cm sm fs (.inl v) M') : vk_OK L xs cm sm (f :: fs) M := by
  refine ⟨1, .inl v, M', ?_, k⟩
  rw [vr_succ, h]
theorem vk_thr {f : vj_F} {fs : List vj_F} {M M' : vj_M} {e : Nat} (h : vr_step L xs f M = some (.inr (.inr (.inr (e, M'))))) (k : vk_K L xs cm sm fs (.inr e) M') : vk_OK L xs cm sm (f :: fs) M := by
  refine ⟨1, .inr e, M', ?_, k⟩
  rw [vr_succ, h]
theorem vk_call {f g : vj_F} {fs : List vj_F} {M M' : vj_M} {vs : List Value} {a : Nat} (h : vr_step L xs f M = some (.inr (.inl (g, vs, a, M')))) (k : vk_OK L xs cm sm ((a, 0, vj_args (vt_mi a).2.2.1 vs, []) :: g :: fs) M') : vk_OK L xs cm sm (f :: fs) M := by
  obtain ⟨n, r, M2, h1, h2⟩ := k
  have step : ∀ m, vr_run L xs (m + 1) f M = (match vr_run L xs m (a, 0, vj_args (vt_mi a).2.2.1 vs, []) M' with
      | some (.inl v, M2) => vr_run L xs m (g.1, g.2.1 + 3, g.2.2.1, v ++ g.2.2.2) M2
      | some (.inr e, M2) => (match vj_catch vt_mi vt_code g e with
        | some (some g') => vr_run L xs m g' M2
        | some none => some (.inr e, M2)
        | none => none)
      | none => none) := by
    intro m
    rw [vr_succ, h]
  cases r with
  | inl v =>
    obtain ⟨n2, r2, M3, h3, h4⟩ := h2
    refine ⟨n + n2 + 1, r2, M3, ?_, h4⟩
    rw [step, vr_more n _ _ _ h1 (n + n2) (by omega)]
    exact vr_more n2 _ _ _ h3 (n + n2) (by omega)
  | inr e =>
    have h2 : (match vj_catch vt_mi vt_code g e with
      | some (some g') => ∃ n r M', vr_run L xs n g' M2 = some (r, M') ∧ vk_K L xs cm sm fs r M'
      | some none => vk_K L xs cm sm fs (.inr e) M2
      | none => False) := h2
    cases hc : vj_catch vt_mi vt_code g e with
    | none => rw [hc] at h2; exact h2.elim
    | some o =>
      cases o with
      | none =>
        rw [hc] at h2
        refine ⟨n + 1, .inr e, M2, ?_, h2⟩
        rw [step, h1]
        show (match vj_catch vt_mi vt_code g e with
          | some (some g') => vr_run L xs n g' M2
          | some none => some (.inr e, M2)
          | none => none) = _
        rw [hc]
      | some g' =>
        rw [hc] at h2
        obtain ⟨n2, r2, M3, h3, h4⟩ := h2
        refine ⟨n + n2 + 1, r2, M3, ?_, h4⟩
        rw [step, vr_more n _ _ _ h1 (n + n2) (by omega)]
        show (match vj_catch vt_mi vt_code g e with
          | some (some g') => vr_run L xs (n + n2) g' M2
          | some none => some (.inr e, M2)
          | none => none) = _
        rw [hc]
        exact vr_more n2 _ _ _ h3 (n + n2) (by omega)
end
/-- the rest of the walk is right -/
def vq_go (L : Nat) (xs : Nat → Int32) (cm sm : Nat) (go : vi_K) : Prop := ∀ (x : Nat) (fs : List vi_F) (h : vi_H) (cnt nty ce sl : Nat) (sg : vi_G), go x fs h cnt nty ce sl sg = true → ∀ (ρ : List Int32) (gs : List vj_F) (M : vj_M), vq_l (vq_f (vq_r L ρ)) fs gs → vq_m L ρ h cnt nty ce sl M → vq_g L xs ρ sg →
  (match x with
    | 0 => vk_OK L xs cm sm gs M
    | e + 1 => vk_K L xs cm sm gs (.inr e) M)
def vq_Op (op : Nat) : Prop := ∀ (L : Nat) (xs : Nat → Int32) (cm sm : Nat) (go : vi_K), vq_go L xs cm sm go → ∀ (rs : List vi_F) (h : vi_H) (cnt nty ce sl : Nat) (sg : vi_G) (k pc : Nat) (lv : vi_W) (st : List vi_V) (a b c : Nat), vi_op vt_mi vt_anf vt_ts vt_td cm sm op go rs h cnt nty ce sl sg k pc lv st a b c = true →
  ∀ (ρ : List Int32) (gs : List vj_F) (M : vj_M) (lc : List (Option Value)) (sc : List Value), vt_code k pc = (op, a, b, c) → vq_l (vq_f (vq_r L ρ)) rs gs → vq_m L ρ h cnt nty ce sl M → vq_g L xs ρ sg → vq_w (vq_r L ρ) lv lc → vq_l (vq_r L ρ) st sc → vk_OK L xs cm sm ((k, pc, lc, sc) :: gs) M
theorem vk_st {L : Nat} {xs : Nat → Int32} {op a b c k pc : Nat} {lc : List (Option Value)} {sc : List Value} {M : vj_M} (hc : vt_code k pc = (op, a, b, c)) {r : vj_R} (h : vj_op vt_mi vt_nf vt_ts vt_td L xs op a b c k pc lc sc M = r) : vr_step L xs (k, pc, lc, sc) M = r := by
  unfold vr_step vj_step
  dsimp only
  rw [hc]
  exact h
section
variable {L : Nat} {ρ : List Int32}
theorem vq_isI {a : vi_V} {v : Value} (h : vq_r L ρ a v) (ha : vi_isI a = true) : vj_isI v = true := by
  obtain ⟨t, u⟩ := a
  have ha := Nat.le_of_ble_eq_true (show Nat.ble t 1 = true from ha)
  unfold vq_r at h
  match t, h, ha with
  | 0, h, _ => rw [show v = .int (nI u) from h]; rfl
  | 1, h, _ => obtain ⟨x, -, h⟩ := h; rw [h]; rfl
  | n + 2, _, ha => omega
theorem vq_isA {a : vi_V} {v : Value} (h : vq_r L ρ a v) (ha : vi_isA a = true) : vj_isA v = true := by
  obtain ⟨t, u⟩ := a
  have ha : or (Nat.beq t 2) (or (Nat.beq t 3) (or (Nat.beq t 6) (Nat.beq t 7))) = true := ha
  rcases vz_or ha with ha | ha
  · rw [Nat.eq_of_beq_eq_true ha] at h; rw [show v = .ref (u + 8) from h]; rfl
  rcases vz_or ha with ha | ha
  · rw [Nat.eq_of_beq_eq_true ha] at h; rw [show v = .null from h]; rfl
  rcases vz_or ha with ha | ha
  · rw [Nat.eq_of_beq_eq_true ha] at h; rw [show v = .ref 0 from h.1]; rfl
  · rw [Nat.eq_of_beq_eq_true ha] at h; rw [show v = .ref (u + 1) from h.1]; rfl
theorem vq_isJ {a : vi_V} {v : Value} (h : vq_r L ρ a v) (ha : Nat.beq a.1 4 = true) : v = .long (lN a.2) := by
  obtain ⟨t, u⟩ := a
  rw [Nat.eq_of_beq_eq_true (show Nat.beq t 4 = true from ha)] at h
  exact h
theorem vq_isD {a : vi_V} {v : Value} (h : vq_r L ρ a v) (ha : Nat.beq a.1 8 = true) : v = .double FP.dconst0 := by
  obtain ⟨t, u⟩ := a
  rw [Nat.eq_of_beq_eq_true (show Nat.beq t 8 = true from ha)] at h
  exact h
theorem vq_isR {a : vi_V} {v : Value} (h : vq_r L ρ a v) (ha : Nat.beq a.1 2 = true) : v = .ref (a.2 + 8) := by
  obtain ⟨t, u⟩ := a
  rw [Nat.eq_of_beq_eq_true (show Nat.beq t 2 = true from ha)] at h
  exact h
theorem vq_isN {a : vi_V} {v : Value} (h : vq_r L ρ a v) (ha : Nat.beq a.1 3 = true) : v = .null := by
  obtain ⟨t, u⟩ := a
  rw [Nat.eq_of_beq_eq_true (show Nat.beq t 3 = true from ha)] at h
  exact h
theorem vq_isS {a : vi_V} {v : Value} (h : vq_r L ρ a v) (ha : Nat.beq a.1 6 = true) : v = .ref 0 ∧ a.2 = L ∧ L ≤ 6 := by
  obtain ⟨t, u⟩ := a
  rw [Nat.eq_of_beq_eq_true (show Nat.beq t 6 = true from ha)] at h
  exact h
theorem vq_isE {a : vi_V} {v : Value} (h : vq_r L ρ a v) (ha : Nat.beq a.1 7 = true) : v = .ref (a.2 + 1) ∧ a.2 < 5 := by
  obtain ⟨t, u⟩ := a
  rw [Nat.eq_of_beq_eq_true (show Nat.beq t 7 = true from ha)] at h
  exact h
theorem vq_is01 {a : vi_V} {v : Value} (h : vq_r L ρ a v) (ha : vi_is01 a = true) : vj_is01 v = true ∧ vj_isI v = true := by
  obtain ⟨t, u⟩ := a
  obtain ⟨h1, h2⟩ := vz_and (show and (Nat.beq t 0) (Nat.ble u 1) = true from ha)
  rw [Nat.eq_of_beq_eq_true h1] at h
  have h2 := Nat.le_of_ble_eq_true h2
  rw [show v = .int (nI u) from h]
  rcases (show u = 0 ∨ u = 1 by omega) with rfl | rfl
  · exact ⟨by decide, rfl⟩
  · exact ⟨by decide, rfl⟩
/-- a thing that the walker knows -/
theorem vq_ob {h : vi_H} {cnt nty ce sl : Nat} {M : vj_M} (hm : vq_m L ρ h cnt nty ce sl M) {a : vi_V} {v : Value} (hv : vq_r L ρ a v) (ha : and (Nat.beq a.1 2) (Nat.ble (a.2 + 1) cnt) = true) : v = .ref (a.2 + 8) ∧ a.2 < cnt ∧ vj_obj M v = some (a.2 + 8) ∧ vq_c L ρ (vi_tg 11 h a.2) (M.1 (a.2 + 8)) := by
  obtain ⟨h1, h2⟩ := vz_and ha
  have h2 := Nat.le_of_ble_eq_true h2
  have e := vq_isR hv h1
  refine ⟨e, h2, ?_, hm.2.2.2.2.2 _ h2⟩
  rw [e]
  show vj_ob M (a.2 + 8) = _
  unfold vj_ob
  rw [if_pos ⟨by omega, by rw [hm.1]; omega⟩]
theorem vq_in {n j : Nat} (hj : j < n) (hn : n ≤ 16384) : vj_in (nI j) n = true ∧ (nI j).toNatClampNeg = j := by
  have h1 : (nI j).toNatClampNeg = j := nI_clamp (by omega)
  refine ⟨decide_eq_true ?_, h1⟩
  rw [h1]
  intro q
  rcases q with q | q
  · exact nI_pos (n := j) (by omega) q
  · omega
theorem vq_lt32 {u : Nat} (h : u ≤ 16384) : ¬ nI u < 0 ∧ (nI u).toNatClampNeg = u := ⟨nI_pos (by omega), nI_clamp (by omega)⟩
end
theorem vq_o0 : vq_Op 0 := by
  intro L xs cm sm go hI rs h cnt nty ce sl sg k pc lv st a b c hr ρ gs M lc sc hc hrs hm hg hl hst
  have hr : (match vi_lg lv a with
    | some v => and (vi_isI v) (go 0 ((k, pc + b, lv, v :: st) :: rs) h cnt nty ce sl sg)
    | none => false) = true := hr
  split at hr
  · rename_i v hv
    obtain ⟨h4, hr⟩ := vz_and hr
    obtain ⟨v', h2, h3⟩ := hl.2 a v hv
    have h5 : vj_isI v' = true := vq_isI h3 h4
    refine vk_next (f' := (k, pc + b, lc, v' :: sc)) (M' := M) (vk_st hc ?_) (hI 0 _ _ _ _ _ _ _ hr ρ _ M ⟨⟨rfl, rfl, hl, h3, hst⟩, hrs⟩ hm hg)
    show (match vj_lget lc a with
      | some v => if vj_isI v = true then vj_next k (pc + b) lc (v :: sc) M else none
      | none => none) = _
    rw [h2]
    show (if vj_isI v' = true then vj_next k (pc + b) lc (v' :: sc) M else none) = _
    rw [if_pos h5]
    rfl
  · cases hr
theorem vq_o1 : vq_Op 1 := by
  intro L xs cm sm go hI rs h cnt nty ce sl sg k pc lv st a b c hr ρ gs M lc sc hc hrs hm hg hl hst
  have hr : (match vi_lg lv a with
    | some v => and (vi_isA v) (go 0 ((k, pc + b, lv, v :: st) :: rs) h cnt nty ce sl sg)
    | none => false) = true := hr
  split at hr
  · rename_i v hv
    obtain ⟨h4, hr⟩ := vz_and hr
    obtain ⟨v', h2, h3⟩ := hl.2 a v hv
    have h5 : vj_isA v' = true := vq_isA h3 h4
    refine vk_next (f' := (k, pc + b, lc, v' :: sc)) (M' := M) (vk_st hc ?_) (hI 0 _ _ _ _ _ _ _ hr ρ _ M ⟨⟨rfl, rfl, hl, h3, hst⟩, hrs⟩ hm hg)
    show (match vj_lget lc a with
      | some v => if vj_isA v = true then vj_next k (pc + b) lc (v :: sc) M else none
      | none => none) = _
    rw [h2]
    show (if vj_isA v' = true then vj_next k (pc + b) lc (v' :: sc) M else none) = _
    rw [if_pos h5]
    rfl
  · cases hr
theorem vq_o52 : vq_Op 52 := by
  intro L xs cm sm go hI rs h cnt nty ce sl sg k pc lv st a b c hr ρ gs M lc sc hc hrs hm hg hl hst
  have hr : (match vi_lg lv a with
    | some v => and (vi_isJ v) (go 0 ((k, pc + b, lv, v :: st) :: rs) h cnt nty ce sl sg)
    | none => false) = true := hr
  split at hr
  · rename_i v hv
    obtain ⟨h4, hr⟩ := vz_and hr
    obtain ⟨v', h2, h3⟩ := hl.2 a v hv
    have h5 : vj_isJ v' = true := (by rw [vq_isJ h3 h4]; rfl)
    refine vk_next (f' := (k, pc + b, lc, v' :: sc)) (M' := M) (vk_st hc ?_) (hI 0 _ _ _ _ _ _ _ hr ρ _ M ⟨⟨rfl, rfl, hl, h3, hst⟩, hrs⟩ hm hg)
    show (match vj_lget lc a with
      | some v => if vj_isJ v = true then vj_next k (pc + b) lc (v :: sc) M else none
      | none => none) = _
    rw [h2]
    show (if vj_isJ v' = true then vj_next k (pc + b) lc (v' :: sc) M else none) = _
    rw [if_pos h5]
    rfl
  · cases hr
theorem vq_o55 : vq_Op 55 := by
  intro L xs cm sm go hI rs h cnt nty ce sl sg k pc lv st a b c hr ρ gs M lc sc hc hrs hm hg hl hst
  have hr : (match vi_lg lv a with
    | some v => and (vi_isD v) (go 0 ((k, pc + b, lv, v :: st) :: rs) h cnt nty ce sl sg)
    | none => false) = true := hr
  split at hr
  · rename_i v hv
    obtain ⟨h4, hr⟩ := vz_and hr
    obtain ⟨v', h2, h3⟩ := hl.2 a v hv
    have h5 : vj_isD v' = true := (by rw [vq_isD h3 h4]; rfl)
    refine vk_next (f' := (k, pc + b, lc, v' :: sc)) (M' := M) (vk_st hc ?_) (hI 0 _ _ _ _ _ _ _ hr ρ _ M ⟨⟨rfl, rfl, hl, h3, hst⟩, hrs⟩ hm hg)
    show (match vj_lget lc a with
      | some v => if vj_isD v = true then vj_next k (pc + b) lc (v :: sc) M else none
      | none => none) = _
    rw [h2]
    show (if vj_isD v' = true then vj_next k (pc + b) lc (v' :: sc) M else none) = _
    rw [if_pos h5]
    rfl
  · cases hr
theorem vq_o3 : vq_Op 3 := by
  intro L xs cm sm go hI rs h cnt nty ce sl sg k pc lv st a b c hr ρ gs M lc sc hc hrs hm hg hl hst
  match st, sc, hst, hr with
  | v :: st, v' :: sc, ⟨h3, hst⟩, hr =>
    obtain ⟨h4, hr⟩ := vz_and (show and (vi_isI v) (go 0 ((k, pc + b, vi_lset lv a v, st) :: rs) h cnt nty ce sl sg) = true from hr)
    have h5 : vj_isI v' = true := vq_isI h3 h4
    refine vk_next (f' := (k, pc + b, vj_lset lc a v', sc)) (M' := M) (vk_st hc ?_) (hI 0 _ _ _ _ _ _ _ hr ρ _ M ⟨⟨rfl, rfl, hl.lset a h3, hst⟩, hrs⟩ hm hg)
    show (if vj_isI v' = true then vj_next k (pc + b) (vj_lset lc a v') sc M else none) = _
    rw [if_pos h5]
    rfl
  | [], _, _, hr => cases hr
theorem vq_o4 : vq_Op 4 := by
  intro L xs cm sm go hI rs h cnt nty ce sl sg k pc lv st a b c hr ρ gs M lc sc hc hrs hm hg hl hst
  match st, sc, hst, hr with
  | v :: st, v' :: sc, ⟨h3, hst⟩, hr =>
    obtain ⟨h4, hr⟩ := vz_and (show and (vi_isA v) (go 0 ((k, pc + b, vi_lset lv a v, st) :: rs) h cnt nty ce sl sg) = true from hr)
    have h5 : vj_isA v' = true := vq_isA h3 h4
    refine vk_next (f' := (k, pc + b, vj_lset lc a v', sc)) (M' := M) (vk_st hc ?_) (hI 0 _ _ _ _ _ _ _ hr ρ _ M ⟨⟨rfl, rfl, hl.lset a h3, hst⟩, hrs⟩ hm hg)
    show (if vj_isA v' = true then vj_next k (pc + b) (vj_lset lc a v') sc M else none) = _
    rw [if_pos h5]
    rfl
  | [], _, _, hr => cases hr
theorem vq_o53 : vq_Op 53 := by
  intro L xs cm sm go hI rs h cnt nty ce sl sg k pc lv st a b c hr ρ gs M lc sc hc hrs hm hg hl hst
  match st, sc, hst, hr with
  | v :: st, v' :: sc, ⟨h3, hst⟩, hr =>
    obtain ⟨h4, hr⟩ := vz_and (show and (vi_isJ v) (go 0 ((k, pc + b, vi_lset lv a v, st) :: rs) h cnt nty ce sl sg) = true from hr)
    have h5 : vj_isJ v' = true := (by rw [vq_isJ h3 h4]; rfl)
    refine vk_next (f' := (k, pc + b, vj_lset lc a v', sc)) (M' := M) (vk_st hc ?_) (hI 0 _ _ _ _ _ _ _ hr ρ _ M ⟨⟨rfl, rfl, hl.lset a h3, hst⟩, hrs⟩ hm hg)
    show (if vj_isJ v' = true then vj_next k (pc + b) (vj_lset lc a v') sc M else none) = _
    rw [if_pos h5]
    rfl
  | [], _, _, hr => cases hr
theorem vq_o56 : vq_Op 56 := by
  intro L xs cm sm go hI rs h cnt nty ce sl sg k pc lv st a b c hr ρ gs M lc sc hc hrs hm hg hl hst
  match st, sc, hst, hr with
  | v :: st, v' :: sc, ⟨h3, hst⟩, hr =>
    obtain ⟨h4, hr⟩ := vz_and (show and (vi_isD v) (go 0 ((k, pc + b, vi_lset lv a v, st) :: rs) h cnt nty ce sl sg) = true from hr)
    have h5 : vj_isD v' = true := (by rw [vq_isD h3 h4]; rfl)
    refine vk_next (f' := (k, pc + b, vj_lset lc a v', sc)) (M' := M) (vk_st hc ?_) (hI 0 _ _ _ _ _ _ _ hr ρ _ M ⟨⟨rfl, rfl, hl.lset a h3, hst⟩, hrs⟩ hm hg)
    show (if vj_isD v' = true then vj_next k (pc + b) (vj_lset lc a v') sc M else none) = _
    rw [if_pos h5]
    rfl
  | [], _, _, hr => cases hr
theorem vq_o2 : vq_Op 2 := by
  intro L xs cm sm go hI rs h cnt nty ce sl sg k pc lv st a b c hr ρ gs M lc sc hc hrs hm hg hl hst
  exact vk_next (f' := (k, pc + b, lc, .int (nI a) :: sc)) (M' := M) (vk_st hc rfl) (hI 0 _ _ _ _ _ _ _ hr ρ _ M ⟨⟨rfl, rfl, hl, rfl, hst⟩, hrs⟩ hm hg)
theorem vq_o5 : vq_Op 5 := by
  intro L xs cm sm go hI rs h cnt nty ce sl sg k pc lv st a b c hr ρ gs M lc sc hc hrs hm hg hl hst
  exact vk_next (f' := (k, a, lc, sc)) (M' := M) (vk_st hc rfl) (hI 0 _ _ _ _ _ _ _ hr ρ _ M ⟨⟨rfl, rfl, hl, hst⟩, hrs⟩ hm hg)
theorem vq_o6 : vq_Op 6 := by
  intro L xs cm sm go hI rs h cnt nty ce sl sg k pc lv st a b c hr ρ gs M lc sc hc hrs hm hg hl hst
  have hr : (match vi_lg lv a with
    | some v => (match vi_lit sg v with
      | some u => go 0 ((k, pc + 3, vi_lset lv a (0, Nat.mod (u + b) 4294967296), st) :: rs) h cnt nty ce sl sg
      | none => false)
    | none => false) = true := hr
  split at hr
  · rename_i v hv
    split at hr
    · rename_i u hu
      obtain ⟨v', h2, h3⟩ := hl.2 a v hv
      obtain ⟨rfl, -⟩ := vq_lit hg h3 hu
      have h5 : vq_r L ρ (0, Nat.mod (u + b) 4294967296) (.int (nI u + nI b)) := congrArg Value.int (by rw [vz_nI]; exact (vb_mod _).symm)
      refine vk_next (f' := (k, pc + 3, vj_lset lc a (.int (nI u + nI b)), sc)) (M' := M) (vk_st hc ?_) (hI 0 _ _ _ _ _ _ _ hr ρ _ M ⟨⟨rfl, rfl, hl.lset a h5, hst⟩, hrs⟩ hm hg)
      show (match vj_lget lc a with
        | some (.int x) => vj_next k (pc + 3) (vj_lset lc a (.int (x + nI b))) sc M
        | _ => none) = _
      rw [h2]
      rfl
    · cases hr
  · cases hr
theorem vq_o7 : vq_Op 7 := by
  intro L xs cm sm go hI rs h cnt nty ce sl sg k pc lv st a b c hr ρ gs M lc sc hc hrs hm hg hl hst
  match st, sc, hst, hr with
  | x :: st, v :: sc, ⟨h3, hst⟩, hr =>
    obtain ⟨x', y', sg', e1, e2, hg', h4⟩ := vq_cmp hg h3 (show vq_r L ρ (0, 0) (.int 0) from rfl) (show vi_cmp sg b x (0, 0) (fun sg => go 0 ((k, a, lv, st) :: rs) h cnt nty ce sl sg) (fun sg => go 0 ((k, pc + 3, lv, st) :: rs) h cnt nty ce sl sg) = true from hr)
    subst e1
    cases e2
    rcases h4 with ⟨h4, h5⟩ | ⟨h4, h5⟩
    · refine vk_next (f' := (k, a, lc, sc)) (M' := M) (vk_st hc ?_) (hI 0 _ _ _ _ _ _ _ h5 ρ _ M ⟨⟨rfl, rfl, hl, hst⟩, hrs⟩ hm hg')
      show vj_next k (if vj_cond b x' 0 = true then a else pc + 3) lc sc M = _
      rw [if_pos h4]
      rfl
    · refine vk_next (f' := (k, pc + 3, lc, sc)) (M' := M) (vk_st hc ?_) (hI 0 _ _ _ _ _ _ _ h5 ρ _ M ⟨⟨rfl, rfl, hl, hst⟩, hrs⟩ hm hg')
      show vj_next k (if vj_cond b x' 0 = true then a else pc + 3) lc sc M = _
      rw [if_neg h4]
      rfl
  | [], _, _, hr => cases hr
theorem vq_o8 : vq_Op 8 := by
  intro L xs cm sm go hI rs h cnt nty ce sl sg k pc lv st a b c hr ρ gs M lc sc hc hrs hm hg hl hst
  match st, sc, hst, hr with
  | y :: x :: st, w :: v :: sc, ⟨h3b, h3, hst⟩, hr =>
    obtain ⟨x', y', sg', e1, e2, hg', h4⟩ := vq_cmp hg h3 h3b (show vi_cmp sg b x y (fun sg => go 0 ((k, a, lv, st) :: rs) h cnt nty ce sl sg) (fun sg => go 0 ((k, pc + 3, lv, st) :: rs) h cnt nty ce sl sg) = true from hr)
    subst e1
    subst e2
    rcases h4 with ⟨h4, h5⟩ | ⟨h4, h5⟩
    · refine vk_next (f' := (k, a, lc, sc)) (M' := M) (vk_st hc ?_) (hI 0 _ _ _ _ _ _ _ h5 ρ _ M ⟨⟨rfl, rfl, hl, hst⟩, hrs⟩ hm hg')
      show vj_next k (if vj_cond b x' y' = true then a else pc + 3) lc sc M = _
      rw [if_pos h4]
      rfl
    · refine vk_next (f' := (k, pc + 3, lc, sc)) (M' := M) (vk_st hc ?_) (hI 0 _ _ _ _ _ _ _ h5 ρ _ M ⟨⟨rfl, rfl, hl, hst⟩, hrs⟩ hm hg')
      show vj_next k (if vj_cond b x' y' = true then a else pc + 3) lc sc M = _
      rw [if_neg h4]
      rfl
  | [_], _, _, hr => cases hr
  | [], _, _, hr => cases hr
/-- an int operation on ranges -/
theorem vq_int {op : Nat} {F : Int32 → Int32 → Int32} {f : Nat → Nat → Nat} {g : Nat × Nat → Nat × Nat → Nat × Nat}
    (hF : ∀ (L : Nat) (xs : Nat → Int32) (a b c k pc : Nat) (lc : List (Option Value)) (x y : Int32) (sc : List Value) (M : vj_M), vj_op vt_mi vt_nf vt_ts vt_td L xs op a b c k pc lc (.int y :: .int x :: sc) M = vj_next k (pc + 1) lc (.int (F x y) :: sc) M)
    (hf : ∀ u v : Nat, u < 4294967296 → v < 4294967296 → F (nI u) (nI v) = nI (f u v)) (hgg : ∀ (x y : Int32) (rx ry : Nat × Nat), rx.1 ≤ vb_b x → vb_b x ≤ rx.2 → ry.1 ≤ vb_b y → vb_b y ≤ ry.2 → (g rx ry).1 ≤ vb_b (F x y) ∧ vb_b (F x y) ≤ (g rx ry).2)
    (L : Nat) (xs : Nat → Int32) (cm sm : Nat) (go : vi_K) (hI : vq_go L xs cm sm go) (rs : List vi_F) (h : vi_H) (cnt nty ce sl : Nat) (sg : vi_G) (k pc : Nat) (lv : vi_W) (st : List vi_V) (a b c : Nat) (hr : vi_oint f g go rs h cnt nty ce sl sg k pc lv st a b c = true)
    (ρ : List Int32) (gs : List vj_F) (M : vj_M) (lc : List (Option Value)) (sc : List Value) (hc : vt_code k pc = (op, a, b, c)) (hrs : vq_l (vq_f (vq_r L ρ)) rs gs) (hm : vq_m L ρ h cnt nty ce sl M) (hg : vq_g L xs ρ sg) (hl : vq_w (vq_r L ρ) lv lc) (hst : vq_l (vq_r L ρ) st sc) : vk_OK L xs cm sm ((k, pc, lc, sc) :: gs) M := by
  match st, sc, hst, hr with
  | y :: x :: st, w :: v :: sc, ⟨h3b, h3, hst⟩, hr =>
    have hr : (match vi_rng sg x, vi_rng sg y with
      | some rx, some ry =>
        bif and (Nat.beq rx.1 rx.2) (Nat.beq ry.1 ry.2)
        then go 0 ((k, pc + 1, lv, (0, f (Nat.mod (rx.1 + 2147483648) 4294967296) (Nat.mod (ry.1 + 2147483648) 4294967296)) :: st) :: rs) h cnt nty ce sl sg
        else go 0 ((k, pc + 1, lv, (1, sg.length) :: st) :: rs) h cnt nty ce sl (sg ++ [g rx ry])
      | _, _ => false) = true := hr
    split at hr
    · rename_i rx ry hx hy
      obtain ⟨x', x1, x2, x3, -, -⟩ := vq_rng hg h3 hx
      obtain ⟨y', y1, y2, y3, -, -⟩ := vq_rng hg h3b hy
      subst x1
      subst y1
      rcases vi_bif hr with ⟨e, hr⟩ | ⟨-, hr⟩
      · obtain ⟨e1, e2⟩ := vz_and e
        have e1 := Nat.eq_of_beq_eq_true e1
        have e2 := Nat.eq_of_beq_eq_true e2
        have ex : rx.1 = vb_b x' := by omega
        have ey : ry.1 = vb_b y' := by omega
        refine vk_next (f' := (k, pc + 1, lc, .int (F x' y') :: sc)) (M' := M) (vk_st hc (hF _ _ _ _ _ _ _ _ _ _ _ _)) (hI 0 _ _ _ _ _ _ _ hr ρ _ M ⟨⟨rfl, rfl, hl, ?_, hst⟩, hrs⟩ hm hg)
        have z := hf ((vb_b x' + 2147483648) % 4294967296) ((vb_b y' + 2147483648) % 4294967296) (Nat.mod_lt _ (by omega)) (Nat.mod_lt _ (by omega))
        rw [← vb_of, ← vb_of] at z
        show Value.int (F x' y') = .int (nI (f ((rx.1 + 2147483648) % 4294967296) ((ry.1 + 2147483648) % 4294967296)))
        rw [ex, ey]
        exact congrArg Value.int z
      · obtain ⟨z1, z2⟩ := hgg x' y' rx ry x2 x3 y2 y3
        have up : ∀ v w, vq_r L ρ v w → vq_r L (ρ ++ [F x' y']) v w := fun v w q => q.up ⟨_, rfl⟩
        exact vk_next (f' := (k, pc + 1, lc, .int (F x' y') :: sc)) (M' := M) (vk_st hc (hF _ _ _ _ _ _ _ _ _ _ _ _)) (hI 0 _ _ _ _ _ _ _ hr (ρ ++ [F x' y']) _ M ⟨⟨rfl, rfl, hl.up up, vq_new hg, hst.up up⟩, hrs.up (fun _ _ q => q.up up)⟩ (hm.up ⟨_, rfl⟩) (hg.new z1 z2))
    · cases hr
  | [_], _, _, hr => cases hr
  | [], _, _, hr => cases hr
theorem vb_full (x : Int32) : (vi_full).1 ≤ vb_b x ∧ vb_b x ≤ (vi_full).2 := ⟨Nat.zero_le _, by have := vb_b_lt x; show _ ≤ 4294967295; omega⟩
theorem vb_add (x y : Int32) : vb_b (x + y) = (vb_b x + vb_b y + 2147483648) % 4294967296 := by
  have h : x + y = nI ((vb_b x + 2147483648) % 4294967296 + (vb_b y + 2147483648) % 4294967296) := by
    rw [← vz_nI, ← vb_of, ← vb_of]
  rw [h, vb_nI]
  omega
theorem vb_sub (x y : Int32) : vb_b (x - y) = (vb_b x + 6442450944 - vb_b y) % 4294967296 := by
  have e : (x - y) + y = x := by
    apply Int32.toBitVec_inj.mp
    rw [Int32.toBitVec_add, Int32.toBitVec_sub]
    exact BitVec.sub_add_cancel _ _
  have h := vb_add (x - y) y
  rw [e] at h
  have h1 := vb_b_lt (x - y)
  have h2 := vb_b_lt y
  have h3 := vb_b_lt x
  omega
theorem vq_o9 : vq_Op 9 := by
  intro L xs cm sm go hI rs h cnt nty ce sl sg k pc lv st a b c hr
  have hr : vi_oint (fun a b => Nat.mod (a + b) 4294967296) vi_gadd go rs h cnt nty ce sl sg k pc lv st a b c = true := hr
  exact vq_int (op := 9) (f := (fun a b => Nat.mod (a + b) 4294967296)) (g := vi_gadd) (F := fun x y => x + y) (fun _ _ _ _ _ _ _ _ _ _ _ _ => rfl) (fun u v _ _ => by rw [vz_nI]; exact (vb_mod _).symm) (fun x y rx ry h1 h2 h3 h4 => by
    have hb := vb_add x y
    show (vi_gadd rx ry).1 ≤ _ ∧ _ ≤ (vi_gadd rx ry).2
    unfold vi_gadd
    cases e : and (Nat.ble 2147483648 (rx.1 + ry.1)) (Nat.ble (rx.2 + ry.2 + 1) 6442450944) with
    | false => exact vb_full _
    | true =>
      obtain ⟨e1, e2⟩ := vz_and e
      have e1 := Nat.le_of_ble_eq_true e1
      have e2 := Nat.le_of_ble_eq_true e2
      show rx.1 + ry.1 - 2147483648 ≤ _ ∧ _ ≤ rx.2 + ry.2 - 2147483648
      rw [hb]
      omega) L xs cm sm go hI rs h cnt nty ce sl sg k pc lv st a b c hr
theorem vq_o10 : vq_Op 10 := by
  intro L xs cm sm go hI rs h cnt nty ce sl sg k pc lv st a b c hr
  have hr : vi_oint (fun a b => Nat.mod (a + 4294967296 - b) 4294967296) vi_gsub go rs h cnt nty ce sl sg k pc lv st a b c = true := hr
  exact vq_int (op := 10) (f := (fun a b => Nat.mod (a + 4294967296 - b) 4294967296)) (g := vi_gsub) (F := fun x y => x - y) (fun _ _ _ _ _ _ _ _ _ _ _ _ => rfl) (fun u v hu hv => by
    apply vb_inj
    rw [vb_sub, vb_nI, vb_nI, vb_nI]
    show _ = ((u + 4294967296 - v) % 4294967296 + 2147483648) % 4294967296
    omega) (fun x y rx ry h1 h2 h3 h4 => by
    have hb := vb_sub x y
    have hx := vb_b_lt x
    have hy := vb_b_lt y
    show (vi_gsub rx ry).1 ≤ _ ∧ _ ≤ (vi_gsub rx ry).2
    unfold vi_gsub
    cases e : and (Nat.ble ry.2 (rx.1 + 2147483648)) (Nat.ble (rx.2 + 2147483649) (ry.1 + 4294967296)) with
    | false => exact vb_full _
    | true =>
      obtain ⟨e1, e2⟩ := vz_and e
      have e1 := Nat.le_of_ble_eq_true e1
      have e2 := Nat.le_of_ble_eq_true e2
      show rx.1 + 2147483648 - ry.2 ≤ _ ∧ _ ≤ rx.2 + 2147483648 - ry.1
      rw [hb]
      omega) L xs cm sm go hI rs h cnt nty ce sl sg k pc lv st a b c hr
theorem vq_o11 : vq_Op 11 := by
  intro L xs cm sm go hI rs h cnt nty ce sl sg k pc lv st a b c hr
  have hr : vi_oint (fun a b => Nat.mod (a * b) 4294967296) (fun _ _ => vi_full) go rs h cnt nty ce sl sg k pc lv st a b c = true := hr
  exact vq_int (op := 11) (f := (fun a b => Nat.mod (a * b) 4294967296)) (g := (fun _ _ => vi_full)) (F := fun x y => x * y) (fun _ _ _ _ _ _ _ _ _ _ _ _ => rfl) (fun u v _ _ => by
    show Int32.ofNat u * Int32.ofNat v = nI (u * v % 4294967296)
    rw [vb_mod, ← Int32.ofNat_mul]
    rfl) (fun x y rx ry h1 h2 h3 h4 => vb_full _) L xs cm sm go hI rs h cnt nty ce sl sg k pc lv st a b c hr
end VR2
