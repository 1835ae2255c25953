/-! ===== the abstract walker is right: the operations on things ===== -/
section VR3
section
variable {L : Nat} {ρ : List Int32}
theorem vq_m.put {h : vi_H} {cnt nty ce sl : Nat} {M : vj_M} (hm : vq_m L ρ h cnt nty ce sl M) {i : Nat} (hi : i < cnt) {c : vi_C} {d : vj_C} (hc : vq_c L ρ c d) : vq_m L ρ (vi_tp 11 h i c) cnt nty ce sl (vj_put M (i + 8) d) := by
  obtain ⟨m1, m2, m3, m4, m5, m6⟩ := hm
  refine ⟨m1, m2, m3, m4, m5, fun j hj => ?_⟩
  show vq_c L ρ (vi_tg 11 (vi_tp 11 h i c) j) (if j + 8 = i + 8 then d else M.1 (j + 8))
  by_cases e : j = i
  · subst e
    rw [vb_self, if_pos rfl]; exact hc
  · rw [vb_ne 11 h i j c (Ne.symm e) (by omega) (by omega), if_neg (by omega)]
    exact m6 j hj
theorem vq_m.new {h : vi_H} {cnt nty ce sl : Nat} {M : vj_M} (hm : vq_m L ρ h cnt nty ce sl M) (hi : cnt + 1 ≤ 2048) {c : vi_C} {d : vj_C} (hc : vq_c L ρ c d) (ar n : Nat) : vq_m L ρ (vi_tp 11 h cnt c) (cnt + 1) (nty + ar) (ce + 1) (sl + n) (vj_new M d ar n) := by
  obtain ⟨m1, m2, m3, m4, m5, m6⟩ := hm
  refine ⟨by show M.2.1 + 1 = _; omega, by show M.2.2.1 + ar = _; omega, by show M.2.2.2.1 + 1 = _; omega, by show M.2.2.2.2 + n = _; omega, hi, fun j hj => ?_⟩
  show vq_c L ρ (vi_tg 11 (vi_tp 11 h cnt c) j) (if j + 8 = M.2.1 then d else M.1 (j + 8))
  by_cases e : j = cnt
  · subst e
    rw [vb_self, if_pos m1.symm]; exact hc
  · rw [vb_ne 11 h cnt j c (Ne.symm e) (by omega) (by omega), if_neg (by omega)]
    exact m6 j (by omega)
theorem vq_arr {o : Nat × Nat × Nat × vi_Tr vi_V 14} {d : vj_C} (h : vq_c L ρ (.inr o) d) : ∃ A, d = .inl (o.1, o.2.1, o.2.2.1, A) ∧ o.2.2.1 ≤ 16384 ∧ vq_k o.2.1 A ∧ ∀ j, j < o.2.2.1 → vq_r L ρ (vi_tg 14 o.2.2.2 j) (vq_el A j) := by
  match d, h with
  | .inl (t, ty, n, A), h =>
    obtain ⟨h1, h2, h3, h4, h5, h6⟩ := h
    have h1 : o.1 = t := h1
    have h2 : o.2.1 = ty := h2
    have h3 : o.2.2.1 = n := h3
    exact ⟨A, by rw [h1, h2, h3], h4, h5, h6⟩
theorem vq_obj {o : Nat × List vi_V} {d : vj_C} (h : vq_c L ρ (.inl o) d) : ∃ fs, d = .inr (o.1, fs) ∧ vq_l (vq_r L ρ) o.2 fs := by
  match d, h with
  | .inr (t, fs), h =>
    obtain ⟨h1, h2⟩ := h
    have h1 : o.1 = t := h1
    exact ⟨fs, by rw [h1], h2⟩
theorem vq_at {h : vi_H} {cnt nty ce sl : Nat} {M : vj_M} (hm : vq_m L ρ h cnt nty ce sl M) {a : vi_V} {v : Value} (hv : vq_r L ρ a v) (ha : and (Nat.beq a.1 2) (Nat.ble (a.2 + 1) cnt) = true) : v = .ref (a.2 + 8) ∧ a.2 < cnt ∧ vj_obj M (.ref (a.2 + 8)) = some (a.2 + 8) ∧ vq_c L ρ (vi_tg 11 h a.2) (M.1 (a.2 + 8)) := by
  obtain ⟨h1, h2, h3, h4⟩ := vq_ob hm hv ha
  rw [h1] at h3
  exact ⟨h1, h2, h3, h4⟩
theorem vb_split {n : Nat} {l : List Value} {i : Nat} {x : Value} (h : l[i]? = some x) : i < l.length := (List.getElem?_eq_some_iff.mp h).1
/-- an index that is known -/
theorem vq_idx {xs : Nat → Int32} {sg : vi_G} (hg : vq_g L xs ρ sg) {i : vi_V} {v : Value} (hv : vq_r L ρ i v) {ri : Nat × Nat} (h : vi_rng sg i = some ri) (e : Nat.beq ri.1 ri.2 = true) (h1 : 2147483648 ≤ ri.1) {n : Nat} (h2 : ri.1 - 2147483648 + 1 ≤ n) (hn : n ≤ 16384) : ∃ x, v = .int x ∧ vj_in x n = true ∧ x.toNatClampNeg = ri.1 - 2147483648 := by
  obtain ⟨x, x1, x2, x3, -, -⟩ := vq_rng hg hv h
  have e := Nat.eq_of_beq_eq_true e
  have ex : vb_b x = ri.1 := by omega
  have z : x = nI (ri.1 - 2147483648) := by
    rw [vb_of x, ex]
    exact congrArg nI (by have := vb_b_lt x; omega)
  obtain ⟨z1, z2⟩ := vq_in (j := ri.1 - 2147483648) (n := n) (by omega) hn
  rw [← z] at z1 z2
  exact ⟨x, x1, z1, z2⟩
/-- one unknown is split into its values -/
theorem vq_g.one {xs : Nat → Int32} {sg : vi_G} (hg : vq_g L xs ρ sg) {i : vi_V} {x : Int32} (hx : i.1 = 1 → ρ[i.2]? = some x) (e : Nat.beq i.1 1 = true) : vq_g L xs ρ (vi_set sg i.2 (vb_b x, vb_b x)) := by
  have := hg.ref hx (r := (vb_b x, vb_b x)) (Nat.le_refl _) (Nat.le_refl _)
  unfold vi_ref at this
  rw [e] at this
  exact this
end
theorem vq_o12 : vq_Op 12 := by
  intro L xs cm sm go hI rs h cnt nty ce sl sg k pc lv st a b c hr ρ gs M lc sc hc hrs hm hg hl hst
  match st, sc, hst, hr with
  | y :: x :: st, w :: v :: sc, ⟨h3b, h3, hst⟩, hr =>
    obtain ⟨e1, hr⟩ := vz_and (show and (and (Nat.beq x.1 1) (Nat.beq x.2 0)) (and (and (Nat.beq y.1 0) (Nat.beq y.2 63)) (go 0 ((k, pc + 1, lv, (1, 6) :: st) :: rs) h cnt nty ce sl sg)) = true from hr)
    obtain ⟨e2, hr⟩ := vz_and hr
    obtain ⟨e1, e3⟩ := vz_and e1
    obtain ⟨e2, e4⟩ := vz_and e2
    obtain ⟨x1, x2⟩ := x
    obtain ⟨y1, y2⟩ := y
    have f1 : x1 = 1 := Nat.eq_of_beq_eq_true e1
    have f3 : x2 = 0 := Nat.eq_of_beq_eq_true e3
    have f2 : y1 = 0 := Nat.eq_of_beq_eq_true e2
    have f4 : y2 = 63 := Nat.eq_of_beq_eq_true e4
    clear e1 e2 e3 e4
    subst f1
    subst f2
    subst f3
    subst f4
    obtain ⟨z, z1, z2⟩ := h3
    have z1 : ρ[0]? = some z := z1
    rw [hg.2.2.1 0 (by omega)] at z1
    cases z1
    subst z2
    have h3b : w = .int (nI 63) := h3b
    subst h3b
    exact vk_next (f' := (k, pc + 1, lc, .int (xs 0 &&& nI 63) :: sc)) (M' := M) (vk_st hc rfl) (hI 0 _ _ _ _ _ _ _ hr ρ _ M ⟨⟨rfl, rfl, hl, ⟨_, hg.2.2.2, rfl⟩, hst⟩, hrs⟩ hm hg)
  | [_], _, _, hr => cases hr
  | [], _, _, hr => cases hr
theorem vq_o13 : vq_Op 13 := by
  intro L xs cm sm go hI rs h cnt nty ce sl sg k pc lv st a b c hr ρ gs M lc sc hc hrs hm hg hl hst
  match st, sc, hst, hr with
  | y :: x :: st, w :: v :: sc, ⟨h3b, h3, hst⟩, hr =>
    have hr : (match vi_rng sg x with
      | some _ => and (Nat.beq y.1 0 && Nat.beq y.2 27) (go 0 ((k, pc + 1, lv, (1, sg.length) :: st) :: rs) h cnt nty ce sl (sg ++ [vi_full]))
      | none => false) = true := hr
    split at hr
    · rename_i rx hx
      obtain ⟨e1, hr⟩ := vz_and hr
      obtain ⟨e1, e2⟩ := vz_and e1
      obtain ⟨y1, y2⟩ := y
      have f1 : y1 = 0 := Nat.eq_of_beq_eq_true e1
      have f2 : y2 = 27 := Nat.eq_of_beq_eq_true e2
      clear e1 e2
      subst f1
      subst f2
      have h3b : w = .int (nI 27) := h3b
      subst h3b
      obtain ⟨x', x1, -, -, -, -⟩ := vq_rng hg h3 hx
      subst x1
      have up : ∀ v w, vq_r L ρ v w → vq_r L (ρ ++ [x' - x' / nI 27 * nI 27]) v w := fun v w q => q.up ⟨_, rfl⟩
      obtain ⟨f1, f2⟩ := vb_full (x' - x' / nI 27 * nI 27)
      refine vk_next (f' := (k, pc + 1, lc, .int (x' - x' / nI 27 * nI 27) :: sc)) (M' := M) (vk_st hc ?_) (hI 0 _ _ _ _ _ _ _ hr (ρ ++ [x' - x' / nI 27 * nI 27]) _ M ⟨⟨rfl, rfl, hl.up up, vq_new hg, hst.up up⟩, hrs.up (fun _ _ q => q.up up)⟩ (hm.up ⟨_, rfl⟩) (hg.new f1 f2))
      show (if nI 27 = 0 then none else vj_next k (pc + 1) lc (.int (x' - x' / nI 27 * nI 27) :: sc) M) = _
      rw [if_neg (by decide)]
      rfl
    · cases hr
  | [_], _, _, hr => cases hr
  | [], _, _, hr => cases hr
theorem vq_o14 : vq_Op 14 := by
  intro L xs cm sm go hI rs h cnt nty ce sl sg k pc lv st a b c hr ρ gs M lc sc hc hrs hm hg hl hst
  match st, sc, hst, hr with
  | r :: st, w :: sc, ⟨h3, hst⟩, hr =>
    obtain ⟨e1, hr⟩ := vz_and (show and (and (Nat.beq r.1 2) (Nat.ble (r.2 + 1) cnt)) (match vi_tg 11 h r.2 with
      | .inl o => and (Nat.beq o.1 a) (match vi_nth o.2 (Nat.div b 4) with
        | some v => go 0 ((k, pc + 3, lv, v :: st) :: rs) h cnt nty ce sl sg
        | none => false)
      | .inr _ => false) = true from hr)
    obtain ⟨rfl, h5, h6, h7⟩ := vq_at hm h3 e1
    split at hr
    · rename_i o ho
      obtain ⟨e2, hr⟩ := vz_and hr
      have e2 := Nat.eq_of_beq_eq_true e2
      split at hr
      · rename_i v hv
        rw [ho] at h7
        obtain ⟨fs, f1, f2⟩ := vq_obj h7
        rw [vb_nth] at hv
        obtain ⟨w', w1, w2⟩ := f2.at hv
        refine vk_next (f' := (k, pc + 3, lc, w' :: sc)) (M' := M) (vk_st hc ?_) (hI 0 _ _ _ _ _ _ _ hr ρ _ M ⟨⟨rfl, rfl, hl, w2, hst⟩, hrs⟩ hm hg)
        show vj_oget a b c k pc lc (.ref (r.2 + 8) :: sc) M = _
        unfold vj_oget
        dsimp only
        rw [h6]
        dsimp only [vj_at]
        rw [f1]
        dsimp only
        have w1 : fs[b / 4]? = some w' := w1
        rw [if_pos e2, w1]
        rfl
      · cases hr
    · cases hr
  | [], _, _, hr => cases hr
theorem vq_fit {L : Nat} {ρ : List Int32} {ty : Nat} {x : vi_V} {v : Value} (h : vq_r L ρ x v) (hx : vi_fit ty x = true) : vj_fit ty v = true := by
  match ty, hx with
  | 0, hx => exact vq_isI h hx
  | 1, hx => exact (vq_is01 h hx).1
  | 2, hx => show vj_isJ v = true; rw [vq_isJ h hx]; rfl
  | n + 3, hx => exact vq_isA h hx
theorem vq_o15 : vq_Op 15 := by
  intro L xs cm sm go hI rs h cnt nty ce sl sg k pc lv st a b c hr ρ gs M lc sc hc hrs hm hg hl hst
  match st, sc, hst, hr with
  | v :: r :: st, x :: w :: sc, ⟨h3b, h3, hst⟩, hr =>
    obtain ⟨e1, hr⟩ := vz_and (show and (and (Nat.beq r.1 2) (Nat.ble (r.2 + 1) cnt)) (match vi_tg 11 h r.2 with
      | .inl o => and (and (Nat.beq o.1 a) (vi_fit (Nat.mod b 4) v)) (match vi_nth o.2 (Nat.div b 4) with
        | some _ => go 0 ((k, pc + 3, lv, st) :: rs) (vi_tp 11 h r.2 (.inl (o.1, vi_set o.2 (Nat.div b 4) v))) cnt nty ce sl sg
        | none => false)
      | .inr _ => false) = true from hr)
    obtain ⟨rfl, h5, h6, h7⟩ := vq_at hm h3 e1
    split at hr
    · rename_i o ho
      obtain ⟨e2, hr⟩ := vz_and hr
      obtain ⟨e2, e3⟩ := vz_and e2
      have e2 := Nat.eq_of_beq_eq_true e2
      split at hr
      · rename_i v0 hv
        rw [ho] at h7
        obtain ⟨fs, f1, f2⟩ := vq_obj h7
        rw [vb_nth] at hv
        obtain ⟨w', w1, -⟩ := f2.at hv
        have w3 : b / 4 < fs.length := vb_split (n := 0) w1
        have q : vq_c L ρ (.inl (o.1, vi_set o.2 (Nat.div b 4) v)) (.inr (o.1, fs.set (b / 4) x)) := by
          refine ⟨rfl, ?_⟩
          rw [vb_set]
          exact f2.set h3b _
        refine vk_next (f' := (k, pc + 3, lc, sc)) (M' := vj_put M (r.2 + 8) (.inr (o.1, fs.set (b / 4) x))) (vk_st hc ?_) (hI 0 _ _ _ _ _ _ _ hr ρ _ _ ⟨⟨rfl, rfl, hl, hst⟩, hrs⟩ (hm.put h5 q) hg)
        show vj_oput a b c k pc lc (x :: .ref (r.2 + 8) :: sc) M = _
        unfold vj_oput
        dsimp only
        rw [h6]
        dsimp only [vj_at]
        rw [f1]
        dsimp only
        rw [if_pos ⟨e2, vq_fit h3b e3, w3⟩]
        rfl
      · cases hr
    · cases hr
  | [_], _, _, hr => cases hr
  | [], _, _, hr => cases hr
/-- an array is read -/
theorem vq_ald {op ty : Nat}
    (hJ : ∀ (L : Nat) (xs : Nat → Int32) (a b c k pc : Nat) (lc : List (Option Value)) (i : Int32) (q : Nat) (sc : List Value) (M : vj_M) (t tyy n : Nat) (A : vj_A), vj_obj M (.ref (q + 8)) = some (q + 8) → M.1 (q + 8) = .inl (t, tyy, n, A) → vq_k tyy A → (tyy = ty ∨ (ty = 4 ∧ 4 ≤ tyy)) → vj_in i n = true → vj_op vt_mi vt_nf vt_ts vt_td L xs op a b c k pc lc (.int i :: .ref (q + 8) :: sc) M = vj_next k (pc + 1) lc (vq_el A i.toNatClampNeg :: sc) M)
    (hS : ty = 0 → ∀ (L : Nat) (xs : Nat → Int32) (a b c k pc : Nat) (lc : List (Option Value)) (i : Int32) (sc : List Value) (M : vj_M), vj_in i L = true → vj_op vt_mi vt_nf vt_ts vt_td L xs op a b c k pc lc (.int i :: .ref 0 :: sc) M = vj_next k (pc + 1) lc (.int (xs i.toNatClampNeg) :: sc) M)
    (L : Nat) (xs : Nat → Int32) (cm sm : Nat) (go : vi_K) (hI : vq_go L xs cm sm go) (rs : List vi_F) (h : vi_H) (cnt nty ce sl : Nat) (sg : vi_G) (k pc : Nat) (lv : vi_W) (st : List vi_V) (a b c : Nat) (hr : vi_oald ty go rs h cnt nty ce sl sg k pc lv st a b c = true)
    (ρ : List Int32) (gs : List vj_F) (M : vj_M) (lc : List (Option Value)) (sc : List Value) (hc : vt_code k pc = (op, a, b, c)) (hrs : vq_l (vq_f (vq_r L ρ)) rs gs) (hm : vq_m L ρ h cnt nty ce sl M) (hg : vq_g L xs ρ sg) (hl : vq_w (vq_r L ρ) lv lc) (hst : vq_l (vq_r L ρ) st sc) : vk_OK L xs cm sm ((k, pc, lc, sc) :: gs) M := by
  match st, sc, hst, hr with
  | i :: r :: st, v :: w :: sc, ⟨h3, h3b, hst⟩, hr =>
    have hr : (match vi_rng sg i with
      | some ri =>
        bif Nat.beq ri.1 ri.2 then
          (bif Nat.beq r.1 6 then and (Nat.beq ty 0) (and (Nat.ble 2147483648 ri.1) (and (Nat.ble (ri.1 - 2147483648 + 1) r.2) (go 0 ((k, pc + 1, lv, (1, ri.1 - 2147483648) :: st) :: rs) h cnt nty ce sl sg)))
          else and (and (Nat.beq r.1 2) (Nat.ble (r.2 + 1) cnt)) (match vi_tg 11 h r.2 with
            | .inr o => and (or (Nat.beq o.2.1 ty) (and (Nat.beq ty 4) (Nat.ble 4 o.2.1))) (and (Nat.ble 2147483648 ri.1) (and (Nat.ble (ri.1 - 2147483648 + 1) o.2.2.1) (go 0 ((k, pc + 1, lv, vi_tg 14 o.2.2.2 (ri.1 - 2147483648) :: st) :: rs) h cnt nty ce sl sg)))
            | .inl _ => false))
        else and (and (Nat.beq i.1 1) (Nat.ble ri.2 (ri.1 + 64))) (vi_all ri.1 (ri.2 + 1 - ri.1) (fun j => go 0 ((k, pc, lv, i :: r :: st) :: rs) h cnt nty ce sl (vi_set sg i.2 (j, j))))
      | none => false) = true := hr
    split at hr
    · rename_i ri hi
      rcases vi_bif hr with ⟨e, hr⟩ | ⟨-, hr⟩
      · rcases vi_bif hr with ⟨e6, hr⟩ | ⟨-, hr⟩
        · obtain ⟨s1, hr⟩ := vz_and hr
          obtain ⟨s2, hr⟩ := vz_and hr
          obtain ⟨s3, hr⟩ := vz_and hr
          obtain ⟨rfl, s5, s6⟩ := vq_isS h3b e6
          have s3 := Nat.le_of_ble_eq_true s3
          rw [s5] at s3
          obtain ⟨x, rfl, x2, x3⟩ := vq_idx hg h3 hi e (Nat.le_of_ble_eq_true s2) s3 (by omega)
          refine vk_next (f' := (k, pc + 1, lc, .int (xs (ri.1 - 2147483648)) :: sc)) (M' := M) (vk_st hc ?_) (hI 0 _ _ _ _ _ _ _ hr ρ _ M ⟨⟨rfl, rfl, hl, ⟨_, hg.2.2.1 _ (by omega), rfl⟩, hst⟩, hrs⟩ hm hg)
          rw [hS (Nat.eq_of_beq_eq_true s1) L xs a b c k pc lc x sc M x2, x3]
          rfl
        · obtain ⟨e1, hr⟩ := vz_and hr
          obtain ⟨rfl, h5, h6, h7⟩ := vq_at hm h3b e1
          split at hr
          · rename_i o ho
            obtain ⟨s1, hr⟩ := vz_and hr
            obtain ⟨s2, hr⟩ := vz_and hr
            obtain ⟨s3, hr⟩ := vz_and hr
            rw [ho] at h7
            obtain ⟨A, a1, a2, a3, a4⟩ := vq_arr h7
            have s3 := Nat.le_of_ble_eq_true s3
            obtain ⟨x, rfl, x2, x3⟩ := vq_idx hg h3 hi e (Nat.le_of_ble_eq_true s2) s3 a2
            have s4 : o.2.1 = ty ∨ (ty = 4 ∧ 4 ≤ o.2.1) := (vz_or s1).imp (fun q => Nat.eq_of_beq_eq_true q) (fun q => ⟨Nat.eq_of_beq_eq_true (vz_and q).1, Nat.le_of_ble_eq_true (vz_and q).2⟩)
            generalize ri.1 - 2147483648 = j at hr s3 x3
            have a5 := a4 j s3
            refine vk_next (f' := (k, pc + 1, lc, vq_el A j :: sc)) (M' := M) (vk_st hc ?_) (hI 0 _ _ _ _ _ _ _ hr ρ _ M ⟨⟨rfl, rfl, hl, a5, hst⟩, hrs⟩ hm hg)
            rw [hJ L xs a b c k pc lc x r.2 sc M o.1 o.2.1 o.2.2.1 A h6 a1 a3 s4 x2, x3]
            rfl
          · cases hr
      · obtain ⟨e1, hr⟩ := vz_and hr
        obtain ⟨e1, -⟩ := vz_and e1
        obtain ⟨x, x1, x2, x3, x4, -⟩ := vq_rng hg h3 hi
        have hr := vb_all hr (vb_b x) x2 (by omega)
        exact hI 0 _ _ _ _ _ _ _ hr ρ _ M ⟨⟨rfl, rfl, hl, h3, h3b, hst⟩, hrs⟩ hm (hg.one x4 e1)
    · cases hr
  | [_], _, _, hr => cases hr
  | [], _, _, hr => cases hr
theorem vq_o16 : vq_Op 16 := by
  intro L xs cm sm go hI rs h cnt nty ce sl sg k pc lv st a b c hr
  refine vq_ald (op := 16) (ty := 0) ?_ ?_ L xs cm sm go hI rs h cnt nty ce sl sg k pc lv st a b c hr
  · intro L xs a b c k pc lc i q sc M t tyy n A h1 h2 h3 h4 h5
    have h4 : tyy = 0 := by omega
    subst h4
    obtain ⟨f, rfl⟩ := h3
    show vj_oiald L xs a b c k pc lc (.int i :: .ref (q + 8) :: sc) M = _
    unfold vj_oiald
    dsimp only
    rw [if_neg (show ¬ q + 8 = 0 by omega)]
    rw [h1]
    dsimp only [vj_at]
    rw [h2]
    dsimp only
    rw [if_pos ⟨rfl, h5⟩]
    rfl
  · intro _ L xs a b c k pc lc i sc M h5
    show vj_oiald L xs a b c k pc lc (.int i :: .ref 0 :: sc) M = _
    unfold vj_oiald
    dsimp only
    rw [if_pos rfl, if_pos h5]
theorem vq_o18 : vq_Op 18 := by
  intro L xs cm sm go hI rs h cnt nty ce sl sg k pc lv st a b c hr
  refine vq_ald (op := 18) (ty := 1) ?_ ?_ L xs cm sm go hI rs h cnt nty ce sl sg k pc lv st a b c hr
  · intro L xs a b c k pc lc i q sc M t tyy n A h1 h2 h3 h4 h5
    have h4 : tyy = 1 := by omega
    subst h4
    obtain ⟨f, rfl⟩ := h3
    show vj_obald a b c k pc lc (.int i :: .ref (q + 8) :: sc) M = _
    unfold vj_obald
    dsimp only
    rw [h1]
    dsimp only [vj_at]
    rw [h2]
    dsimp only
    rw [if_pos ⟨rfl, h5⟩]
    rfl
  · intro q; omega
theorem vq_o20 : vq_Op 20 := by
  intro L xs cm sm go hI rs h cnt nty ce sl sg k pc lv st a b c hr
  refine vq_ald (op := 20) (ty := 4) ?_ ?_ L xs cm sm go hI rs h cnt nty ce sl sg k pc lv st a b c hr
  · intro L xs a b c k pc lc i q sc M t tyy n A h1 h2 h3 h4 h5
    have h4 : 4 ≤ tyy := by omega
    obtain ⟨f, rfl⟩ : ∃ f, A = .inr (.inr (.inr (.inr f))) := by
      match tyy, h4, h3 with
      | m + 4, _, h3 => exact h3
    show vj_oaald a b c k pc lc (.int i :: .ref (q + 8) :: sc) M = _
    unfold vj_oaald
    dsimp only
    rw [h1]
    dsimp only [vj_at]
    rw [h2]
    dsimp only
    rw [if_pos ⟨h4, h5⟩]
    rfl
  · intro q; omega
theorem vq_o22 : vq_Op 22 := by
  intro L xs cm sm go hI rs h cnt nty ce sl sg k pc lv st a b c hr
  refine vq_ald (op := 22) (ty := 2) ?_ ?_ L xs cm sm go hI rs h cnt nty ce sl sg k pc lv st a b c hr
  · intro L xs a b c k pc lc i q sc M t tyy n A h1 h2 h3 h4 h5
    have h4 : tyy = 2 := by omega
    subst h4
    obtain ⟨f, rfl⟩ := h3
    show vj_olald a b c k pc lc (.int i :: .ref (q + 8) :: sc) M = _
    unfold vj_olald
    dsimp only
    rw [h1]
    dsimp only [vj_at]
    rw [h2]
    dsimp only
    rw [if_pos ⟨rfl, h5⟩]
    rfl
  · intro q; omega
theorem vq_o24 : vq_Op 24 := by
  intro L xs cm sm go hI rs h cnt nty ce sl sg k pc lv st a b c hr
  refine vq_ald (op := 24) (ty := 3) ?_ ?_ L xs cm sm go hI rs h cnt nty ce sl sg k pc lv st a b c hr
  · intro L xs a b c k pc lc i q sc M t tyy n A h1 h2 h3 h4 h5
    have h4 : tyy = 3 := by omega
    subst h4
    obtain ⟨f, rfl⟩ := h3
    show vj_odald a b c k pc lc (.int i :: .ref (q + 8) :: sc) M = _
    unfold vj_odald
    dsimp only
    rw [h1]
    dsimp only [vj_at]
    rw [h2]
    dsimp only
    rw [if_pos ⟨rfl, h5⟩]
    rfl
  · intro q; omega
def vq_ft (M : vj_M) (ty : Nat) (w : Value) : Prop := match ty with
  | 0 => ∃ x, w = .int x
  | 1 => ∃ x, w = .int x ∧ vj_is01 (.int x) = true
  | 2 => ∃ x, w = .long x
  | 3 => ∃ x, w = .double x
  | c + 4 => ∃ q fs, w = .ref q ∧ vj_obj M (.ref q) = some q ∧ M.1 q = .inr (c, fs)
theorem vq_isI' {L : Nat} {ρ : List Int32} {a : vi_V} {v : Value} (h : vq_r L ρ a v) (ha : vi_isI a = true) : ∃ x, v = .int x := by
  have := vq_isI h ha
  match v, this with
  | .int x, _ => exact ⟨x, rfl⟩
theorem vq_fita {L : Nat} {ρ : List Int32} {h : vi_H} {cnt nty ce sl : Nat} {M : vj_M} (hm : vq_m L ρ h cnt nty ce sl M) {ty : Nat} {x : vi_V} {v : Value} (hv : vq_r L ρ x v) (hx : vi_fita ty h cnt x = true) : vq_ft M ty v := by
  match ty, hx with
  | 0, hx => exact vq_isI' hv hx
  | 1, hx =>
    obtain ⟨h1, h2⟩ := vq_is01 hv hx
    match v, h1, h2 with
    | .int x, h1, _ => exact ⟨x, rfl, h1⟩
  | 2, hx => exact ⟨_, vq_isJ hv hx⟩
  | 3, hx => exact ⟨_, vq_isD hv hx⟩
  | t + 4, hx =>
    obtain ⟨e1, hr⟩ := vz_and (show and (and (Nat.beq x.1 2) (Nat.ble (x.2 + 1) cnt)) (match vi_tg 11 h x.2 with
      | .inl o => Nat.beq o.1 t
      | .inr _ => false) = true from hx)
    obtain ⟨h4, h5, h6, h7⟩ := vq_at hm hv e1
    split at hr
    · rename_i o ho
      rw [ho] at h7
      obtain ⟨fs, f1, f2⟩ := vq_obj h7
      rw [Nat.eq_of_beq_eq_true hr] at f1
      exact ⟨_, fs, h4, h6, f1⟩
    · cases hr
/-- an array is written -/
theorem vq_ast {op ty : Nat}
    (hJ : ∀ (L : Nat) (xs : Nat → Int32) (a b c k pc : Nat) (lc : List (Option Value)) (i : Int32) (w : Value) (q : Nat) (sc : List Value) (M : vj_M) (t tyy n : Nat) (A : vj_A), vj_obj M (.ref (q + 8)) = some (q + 8) → M.1 (q + 8) = .inl (t, tyy, n, A) → vq_k tyy A → (tyy = ty ∨ (ty = 4 ∧ 4 ≤ tyy)) → vq_ft M tyy w → vj_in i n = true → ∃ A', vj_op vt_mi vt_nf vt_ts vt_td L xs op a b c k pc lc (w :: .int i :: .ref (q + 8) :: sc) M = vj_next k (pc + 1) lc sc (vj_put M (q + 8) (.inl (t, tyy, n, A'))) ∧ vq_k tyy A' ∧ ∀ j, vq_el A' j = if j = i.toNatClampNeg then w else vq_el A j)
    (L : Nat) (xs : Nat → Int32) (cm sm : Nat) (go : vi_K) (hI : vq_go L xs cm sm go) (rs : List vi_F) (h : vi_H) (cnt nty ce sl : Nat) (sg : vi_G) (k pc : Nat) (lv : vi_W) (st : List vi_V) (a b c : Nat) (hr : vi_oast ty go rs h cnt nty ce sl sg k pc lv st a b c = true)
    (ρ : List Int32) (gs : List vj_F) (M : vj_M) (lc : List (Option Value)) (sc : List Value) (hc : vt_code k pc = (op, a, b, c)) (hrs : vq_l (vq_f (vq_r L ρ)) rs gs) (hm : vq_m L ρ h cnt nty ce sl M) (hg : vq_g L xs ρ sg) (hl : vq_w (vq_r L ρ) lv lc) (hst : vq_l (vq_r L ρ) st sc) : vk_OK L xs cm sm ((k, pc, lc, sc) :: gs) M := by
  match st, sc, hst, hr with
  | v :: i :: r :: st, u :: x :: w :: sc, ⟨h3c, h3, h3b, hst⟩, hr =>
    have hr : (match vi_lit sg i with
      | some j => and (and (Nat.beq r.1 2) (Nat.ble (r.2 + 1) cnt)) (match vi_tg 11 h r.2 with
        | .inr o => and (and (or (Nat.beq o.2.1 ty) (and (Nat.beq ty 4) (Nat.ble 4 o.2.1))) (vi_fita o.2.1 h cnt v)) (and (Nat.ble (j + 1) o.2.2.1)
          (go 0 ((k, pc + 1, lv, st) :: rs) (vi_tp 11 h r.2 (.inr (o.1, o.2.1, o.2.2.1, vi_tp 14 o.2.2.2 j v))) cnt nty ce sl sg))
        | .inl _ => false)
      | none => false) = true := hr
    split at hr
    · rename_i j hj
      obtain ⟨e1, hr⟩ := vz_and hr
      obtain ⟨rfl, h5, h6, h7⟩ := vq_at hm h3b e1
      obtain ⟨rfl, -⟩ := vq_lit hg h3 hj
      split at hr
      · rename_i o ho
        obtain ⟨s1, hr⟩ := vz_and hr
        obtain ⟨s1, s2⟩ := vz_and s1
        obtain ⟨s3, hr⟩ := vz_and hr
        rw [ho] at h7
        obtain ⟨A, a1, a2, a3, a4⟩ := vq_arr h7
        have s3 := Nat.le_of_ble_eq_true s3
        obtain ⟨z1, z2⟩ := vq_in (j := j) (n := o.2.2.1) (by omega) a2
        have s4 : o.2.1 = ty ∨ (ty = 4 ∧ 4 ≤ o.2.1) := (vz_or s1).imp (fun q => Nat.eq_of_beq_eq_true q) (fun q => ⟨Nat.eq_of_beq_eq_true (vz_and q).1, Nat.le_of_ble_eq_true (vz_and q).2⟩)
        obtain ⟨A', b1, b2, b3⟩ := hJ L xs a b c k pc lc (nI j) u r.2 sc M o.1 o.2.1 o.2.2.1 A h6 a1 a3 s4 (vq_fita hm h3c s2) z1
        have q : vq_c L ρ (.inr (o.1, o.2.1, o.2.2.1, vi_tp 14 o.2.2.2 j v)) (.inl (o.1, o.2.1, o.2.2.1, A')) := by
          refine ⟨rfl, rfl, rfl, a2, b2, fun y hy => ?_⟩
          have hy : y < o.2.2.1 := hy
          show vq_r L ρ (vi_tg 14 (vi_tp 14 o.2.2.2 j v) y) (vq_el A' y)
          rw [b3, z2]
          by_cases e : y = j
          · subst e
            rw [vb_self, if_pos rfl]; exact h3c
          · rw [vb_ne 14 _ j y v (Ne.symm e) (by omega) (by omega), if_neg e]
            exact a4 y hy
        exact vk_next (f' := (k, pc + 1, lc, sc)) (vk_st hc b1) (hI 0 _ _ _ _ _ _ _ hr ρ _ _ ⟨⟨rfl, rfl, hl, hst⟩, hrs⟩ (hm.put h5 q) hg)
      · cases hr
    · cases hr
  | [_, _], _, _, hr => cases hr
  | [_], _, _, hr => cases hr
  | [], _, _, hr => cases hr
theorem vq_o17 : vq_Op 17 := by
  intro L xs cm sm go hI rs h cnt nty ce sl sg k pc lv st a b c hr
  refine vq_ast (op := 17) (ty := 0) ?_ L xs cm sm go hI rs h cnt nty ce sl sg k pc lv st a b c hr
  intro L xs a b c k pc lc i w q sc M t tyy n A h1 h2 h3 h4 h6 h5
  have h4 : tyy = 0 := by omega
  subst h4
  obtain ⟨f, rfl⟩ := h3
  obtain ⟨x, rfl⟩ := h6
  refine ⟨.inl (upd f i.toNatClampNeg x), ?_, ⟨_, rfl⟩, fun j => ?_⟩
  · show vj_oiast a b c k pc lc (.int x :: .int i :: .ref (q + 8) :: sc) M = _
    unfold vj_oiast
    dsimp only
    rw [h1]
    dsimp only [vj_at]
    rw [h2]
    dsimp only
    rw [if_pos ⟨rfl, h5⟩]
  · show Value.int (upd f i.toNatClampNeg x j) = _
    unfold upd
    by_cases e : j = i.toNatClampNeg
    · rw [if_pos e, if_pos e]
    · rw [if_neg e, if_neg e]; rfl
theorem vq_o19 : vq_Op 19 := by
  intro L xs cm sm go hI rs h cnt nty ce sl sg k pc lv st a b c hr
  refine vq_ast (op := 19) (ty := 1) ?_ L xs cm sm go hI rs h cnt nty ce sl sg k pc lv st a b c hr
  intro L xs a b c k pc lc i w q sc M t tyy n A h1 h2 h3 h4 h6 h5
  have h4 : tyy = 1 := by omega
  subst h4
  obtain ⟨f, rfl⟩ := h3
  obtain ⟨x, rfl, h7⟩ := h6
  refine ⟨.inl (upd f i.toNatClampNeg x), ?_, ⟨_, rfl⟩, fun j => ?_⟩
  · show vj_obast a b c k pc lc (.int x :: .int i :: .ref (q + 8) :: sc) M = _
    unfold vj_obast
    dsimp only
    rw [h1]
    dsimp only [vj_at]
    rw [h2]
    dsimp only
    rw [if_pos ⟨rfl, h5, h7⟩]
  · show Value.int (upd f i.toNatClampNeg x j) = _
    unfold upd
    by_cases e : j = i.toNatClampNeg
    · rw [if_pos e, if_pos e]
    · rw [if_neg e, if_neg e]; rfl
theorem vq_o23 : vq_Op 23 := by
  intro L xs cm sm go hI rs h cnt nty ce sl sg k pc lv st a b c hr
  refine vq_ast (op := 23) (ty := 2) ?_ L xs cm sm go hI rs h cnt nty ce sl sg k pc lv st a b c hr
  intro L xs a b c k pc lc i w q sc M t tyy n A h1 h2 h3 h4 h6 h5
  have h4 : tyy = 2 := by omega
  subst h4
  obtain ⟨f, rfl⟩ := h3
  obtain ⟨x, rfl⟩ := h6
  refine ⟨.inr (.inl (vp_updL f i.toNatClampNeg x)), ?_, ⟨_, rfl⟩, fun j => ?_⟩
  · show vj_olast a b c k pc lc (.long x :: .int i :: .ref (q + 8) :: sc) M = _
    unfold vj_olast
    dsimp only
    rw [h1]
    dsimp only [vj_at]
    rw [h2]
    dsimp only
    rw [if_pos ⟨rfl, h5⟩]
  · show Value.long (vp_updL f i.toNatClampNeg x j) = _
    unfold vp_updL
    by_cases e : j = i.toNatClampNeg
    · rw [if_pos e, if_pos e]
    · rw [if_neg e, if_neg e]; rfl
theorem vq_o25 : vq_Op 25 := by
  intro L xs cm sm go hI rs h cnt nty ce sl sg k pc lv st a b c hr
  refine vq_ast (op := 25) (ty := 3) ?_ L xs cm sm go hI rs h cnt nty ce sl sg k pc lv st a b c hr
  intro L xs a b c k pc lc i w q sc M t tyy n A h1 h2 h3 h4 h6 h5
  have h4 : tyy = 3 := by omega
  subst h4
  obtain ⟨f, rfl⟩ := h3
  obtain ⟨x, rfl⟩ := h6
  refine ⟨.inr (.inr (.inr (.inl (vf_upd f i.toNatClampNeg x)))), ?_, ⟨_, rfl⟩, fun j => ?_⟩
  · show vj_odast a b c k pc lc (.double x :: .int i :: .ref (q + 8) :: sc) M = _
    unfold vj_odast
    dsimp only
    rw [h1]
    dsimp only [vj_at]
    rw [h2]
    dsimp only
    rw [if_pos ⟨rfl, h5⟩]
  · show Value.double (vf_upd f i.toNatClampNeg x j) = _
    unfold vf_upd
    by_cases e : j = i.toNatClampNeg
    · rw [if_pos e, if_pos e]
    · rw [if_neg e, if_neg e]; rfl
theorem vq_o21 : vq_Op 21 := by
  intro L xs cm sm go hI rs h cnt nty ce sl sg k pc lv st a b c hr
  refine vq_ast (op := 21) (ty := 4) ?_ L xs cm sm go hI rs h cnt nty ce sl sg k pc lv st a b c hr
  intro L xs a b c k pc lc i w q sc M t tyy n A h1 h2 h3 h4 h6 h5
  have h4 : 4 ≤ tyy := by omega
  match tyy, h4, h2, h3, h6 with
  | ci + 4, _, h2, h3, h6 =>
  obtain ⟨f, rfl⟩ := h3
  obtain ⟨u, fs, rfl, u1, u2⟩ := h6
  refine ⟨.inr (.inr (.inr (.inr (va_up f i.toNatClampNeg (some u))))), ?_, ⟨_, rfl⟩, fun j => ?_⟩
  · show vj_oaast a b c k pc lc (.ref u :: .int i :: .ref (q + 8) :: sc) M = _
    unfold vj_oaast
    dsimp only
    rw [h1, u1]
    dsimp only [vj_at]
    rw [h2, u2]
    dsimp only
    rw [if_pos ⟨rfl, h5⟩]
  · show va_rf (va_up f i.toNatClampNeg (some u) j) = _
    unfold va_up
    by_cases e : j = i.toNatClampNeg
    · rw [if_pos e, if_pos e]; rfl
    · rw [if_neg e, if_neg e]; rfl
theorem vq_o26 : vq_Op 26 := by
  intro L xs cm sm go hI rs h cnt nty ce sl sg k pc lv st a b c hr ρ gs M lc sc hc hrs hm hg hl hst
  match st, sc, hst, hr with
  | r :: st, w :: sc, ⟨h3, hst⟩, hr =>
    rcases vi_bif (show (bif Nat.beq r.1 6 then go 0 ((k, pc + 1, lv, (0, r.2) :: st) :: rs) h cnt nty ce sl sg
      else and (and (Nat.beq r.1 2) (Nat.ble (r.2 + 1) cnt)) (match vi_tg 11 h r.2 with
        | .inr o => go 0 ((k, pc + 1, lv, (0, o.2.2.1) :: st) :: rs) h cnt nty ce sl sg
        | .inl _ => false)) = true from hr) with ⟨e6, hr⟩ | ⟨-, hr⟩
    · obtain ⟨rfl, s5, s6⟩ := vq_isS h3 e6
      refine vk_next (f' := (k, pc + 1, lc, .int (nI L) :: sc)) (M' := M) (vk_st hc ?_) (hI 0 _ _ _ _ _ _ _ hr ρ _ M ⟨⟨rfl, rfl, hl, by show Value.int (nI L) = .int (nI r.2); rw [s5], hst⟩, hrs⟩ hm hg)
      show vj_olen L a b c k pc lc (.ref 0 :: sc) M = _
      unfold vj_olen
      dsimp only
      rw [if_pos rfl]
      rfl
    · obtain ⟨e1, hr⟩ := vz_and hr
      obtain ⟨rfl, h5, h6, h7⟩ := vq_at hm h3 e1
      split at hr
      · rename_i o ho
        rw [ho] at h7
        obtain ⟨A, a1, a2, a3, a4⟩ := vq_arr h7
        refine vk_next (f' := (k, pc + 1, lc, .int (nI o.2.2.1) :: sc)) (M' := M) (vk_st hc ?_) (hI 0 _ _ _ _ _ _ _ hr ρ _ M ⟨⟨rfl, rfl, hl, rfl, hst⟩, hrs⟩ hm hg)
        show vj_olen L a b c k pc lc (.ref (r.2 + 8) :: sc) M = _
        unfold vj_olen
        dsimp only
        rw [if_neg (show ¬ r.2 + 8 = 0 by omega), h6]
        dsimp only [vj_at]
        rw [a1]
        rfl
      · cases hr
  | [], _, _, hr => cases hr
end VR3
