/-! ===== the abstract walker is right: calls, ends, the rest ===== -/
section VR4
theorem vb_cat_rev (l : List Value) : vj_cat l.reverse = vj_cat l := by
  unfold vj_cat
  rw [List.map_reverse, List.sum_reverse]
/-- a call -/
theorem vq_call {op how : Nat}
    (hJ : ∀ (L : Nat) (xs : Nat → Int32) (a b c k pc : Nat) (lc : List (Option Value)) (sc : List Value) (M : vj_M), vj_op vt_mi vt_nf vt_ts vt_td L xs op a b c k pc lc sc M = vj_ocall vt_mi how a b c k pc lc sc M)
    (L : Nat) (xs : Nat → Int32) (cm sm : Nat) (go : vi_K) (hI : vq_go L xs cm sm go) (rs : List vi_F) (h : vi_H) (cnt nty ce sl : Nat) (sg : vi_G) (k pc : Nat) (lv : vi_W) (st : List vi_V) (a b c : Nat) (hr : vi_ocall vt_mi how go rs h cnt nty ce sl sg k pc lv st a b c = true)
    (ρ : List Int32) (gs : List vj_F) (M : vj_M) (lc : List (Option Value)) (sc : List Value) (hc : vt_code k pc = (op, a, b, c)) (hrs : vq_l (vq_f (vq_r L ρ)) rs gs) (hm : vq_m L ρ h cnt nty ce sl M) (hg : vq_g L xs ρ sg) (hl : vq_w (vq_r L ρ) lv lc) (hst : vq_l (vq_r L ρ) st sc) : vk_OK L xs cm sm ((k, pc, lc, sc) :: gs) M := by
  have hr : (match vi_take (vt_mi a).2.1 st [] with
    | some (vs, st) => and (and (Nat.ble (vi_cat vs) (vt_mi a).2.2.1) (Nat.ble (vi_cat st) 8))
        (and (bif Nat.beq how 2 then true else match vs with
          | r :: _ => and (and (Nat.beq r.1 2) (Nat.ble (r.2 + 1) cnt)) (match vi_tg 11 h r.2 with
            | .inl o => Nat.beq o.1 (vt_mi a).1
            | .inr _ => false)
          | [] => false) (go 0 ((a, 0, vi_pad (vt_mi a).2.2.1 (vi_spread vs), []) :: (k, pc, lv, st) :: rs) h cnt nty ce sl sg))
    | none => false) = true := hr
  split at hr
  · rename_i vs st' hv
    obtain ⟨e1, hr⟩ := vz_and hr
    obtain ⟨e1, e2⟩ := vz_and e1
    obtain ⟨e3, hr⟩ := vz_and hr
    obtain ⟨z, z1, z2, z3⟩ := vb_take hv
    rw [z2] at hst
    obtain ⟨w1, w2, w3, w4, w5, w6⟩ := hst.app
    have t1 : sc.take (vt_mi a).2.1 = w1 := by rw [w3, List.take_left' (by rw [w4, z1])]
    have t2 : sc.drop (vt_mi a).2.1 = w2 := by rw [w3, List.drop_left' (by rw [w4, z1])]
    rw [List.append_nil] at z3
    have w7 : vq_l (vq_r L ρ) vs w1.reverse := by rw [z3]; exact w5.rev
    have c1 : vj_cat w1 ≤ (vt_mi a).2.2.1 := by
      rw [← vb_cat_rev, ← vq_cat w7]; exact Nat.le_of_ble_eq_true e1
    have c2 : vj_cat w2 ≤ 8 := by
      rw [← vq_cat w6]; exact Nat.le_of_ble_eq_true e2
    have c3 : vj_recv how M (vt_mi a).1 w1.reverse = true := by
      unfold vj_recv
      by_cases q : how = 2
      · rw [if_pos q]
      · rw [if_neg q]
        rcases vi_bif e3 with ⟨e, -⟩ | ⟨-, e3⟩
        · exact absurd (Nat.eq_of_beq_eq_true e) q
        · match vs, w1.reverse, w7, e3 with
          | r :: _, o :: _, ⟨h3, _⟩, e3 =>
            obtain ⟨g1, g2⟩ := vz_and e3
            obtain ⟨rfl, h5, h6, h7⟩ := vq_at hm h3 g1
            split at g2
            · rename_i o ho
              rw [ho] at h7
              obtain ⟨fs, f1, f2⟩ := vq_obj h7
              dsimp only
              rw [h6]
              dsimp only [vj_at]
              rw [f1]
              exact decide_eq_true (Nat.eq_of_beq_eq_true g2)
            · cases g2
          | [], _, _, e3 => cases e3
    refine vk_call (g := (k, pc, lc, w2)) (vs := w1.reverse) (a := a) (M' := M) (vk_st hc ?_) (hI 0 _ _ _ _ _ _ _ hr ρ _ M ⟨⟨rfl, rfl, vq_args w7 _, trivial⟩, ⟨rfl, rfl, hl, w6⟩, hrs⟩ hm hg)
    rw [hJ]
    unfold vj_ocall
    rw [t1, t2, if_pos ⟨by rw [w3, List.length_append, w4, z1]; omega, c1, c2, c3⟩]
  · cases hr
theorem vq_o27 : vq_Op 27 := by
  intro L xs cm sm go hI rs h cnt nty ce sl sg k pc lv st a b c hr
  exact vq_call (op := 27) (how := 0) (fun _ _ _ _ _ _ _ _ _ _ => rfl) L xs cm sm go hI rs h cnt nty ce sl sg k pc lv st a b c hr
theorem vq_o28 : vq_Op 28 := by
  intro L xs cm sm go hI rs h cnt nty ce sl sg k pc lv st a b c hr
  exact vq_call (op := 28) (how := 1) (fun _ _ _ _ _ _ _ _ _ _ => rfl) L xs cm sm go hI rs h cnt nty ce sl sg k pc lv st a b c hr
theorem vq_o29 : vq_Op 29 := by
  intro L xs cm sm go hI rs h cnt nty ce sl sg k pc lv st a b c hr
  exact vq_call (op := 29) (how := 2) (fun _ _ _ _ _ _ _ _ _ _ => rfl) L xs cm sm go hI rs h cnt nty ce sl sg k pc lv st a b c hr
theorem vq_o30 : vq_Op 30 := by
  intro L xs cm sm go hI rs h cnt nty ce sl sg k pc lv st a b c hr ρ gs M lc sc hc hrs hm hg hl hst
  match st, sc, hst, hr with
  | r :: st, w :: sc, ⟨h3, hst⟩, hr =>
    obtain ⟨e1, hr⟩ := vz_and (show and (and (and (Nat.beq r.1 2) (Nat.ble (r.2 + 1) cnt)) (Nat.ble (vi_cat st) 8)) (go 0 ((k, pc + 3, lv, st) :: rs) h cnt nty ce sl sg) = true from hr)
    obtain ⟨e1, e2⟩ := vz_and e1
    obtain ⟨rfl, h5, h6, h7⟩ := vq_at hm h3 e1
    have c2 : vj_cat sc ≤ 8 := by
      rw [← vq_cat hst]; exact Nat.le_of_ble_eq_true e2
    refine vk_next (f' := (k, pc + 3, lc, sc)) (M' := M) (vk_st hc ?_) (hI 0 _ _ _ _ _ _ _ hr ρ _ M ⟨⟨rfl, rfl, hl, hst⟩, hrs⟩ hm hg)
    show vj_oobj a b c k pc lc (.ref (r.2 + 8) :: sc) M = _
    unfold vj_oobj
    dsimp only
    rw [h6]
    dsimp only
    rw [if_pos c2]
    rfl
  | [], _, _, hr => cases hr
theorem vq_math {op : Nat} {F : Int32 → Int32 → Int32} {f : Nat → Nat → Bool}
    (hJ : ∀ (L : Nat) (xs : Nat → Int32) (a b c k pc : Nat) (lc : List (Option Value)) (sc : List Value) (M : vj_M), vj_op vt_mi vt_nf vt_ts vt_td L xs op a b c k pc lc sc M = vj_omath F a b c k pc lc sc M)
    (hf : ∀ u v : Nat, F (nI u) (nI v) = nI (bif f ((u + 2147483648) % 4294967296) ((v + 2147483648) % 4294967296) then v else u))
    (L : Nat) (xs : Nat → Int32) (cm sm : Nat) (go : vi_K) (hI : vq_go L xs cm sm go) (rs : List vi_F) (h : vi_H) (cnt nty ce sl : Nat) (sg : vi_G) (k pc : Nat) (lv : vi_W) (st : List vi_V) (a b c : Nat) (hr : vi_omath f go rs h cnt nty ce sl sg k pc lv st a b c = true)
    (ρ : List Int32) (gs : List vj_F) (M : vj_M) (lc : List (Option Value)) (sc : List Value) (hc : vt_code k pc = (op, a, b, c)) (hrs : vq_l (vq_f (vq_r L ρ)) rs gs) (hm : vq_m L ρ h cnt nty ce sl M) (hg : vq_g L xs ρ sg) (hl : vq_w (vq_r L ρ) lv lc) (hst : vq_l (vq_r L ρ) st sc) : vk_OK L xs cm sm ((k, pc, lc, sc) :: gs) M := by
  match st, sc, hst, hr with
  | y :: x :: st, w :: v :: sc, ⟨h3b, h3, hst⟩, hr =>
    have hr : (match vi_lit sg x, vi_lit sg y with
      | some u, some v => and (Nat.ble (vi_cat st) 8) (go 0 ((k, pc + 3, lv, (0, bif f (Nat.mod (u + 2147483648) 4294967296) (Nat.mod (v + 2147483648) 4294967296) then v else u) :: st) :: rs) h cnt nty ce sl sg)
      | _, _ => false) = true := hr
    split at hr
    · rename_i u u' hx hy
      obtain ⟨e2, hr⟩ := vz_and hr
      obtain ⟨rfl, -⟩ := vq_lit hg h3 hx
      obtain ⟨rfl, -⟩ := vq_lit hg h3b hy
      have c2 : vj_cat sc ≤ 8 := by
        rw [← vq_cat hst]; exact Nat.le_of_ble_eq_true e2
      refine vk_next (f' := (k, pc + 3, lc, .int (F (nI u) (nI u')) :: sc)) (M' := M) (vk_st hc ?_) (hI 0 _ _ _ _ _ _ _ hr ρ _ M ⟨⟨rfl, rfl, hl, congrArg Value.int (hf u u'), hst⟩, hrs⟩ hm hg)
      rw [hJ]
      unfold vj_omath
      dsimp only
      rw [if_pos c2]
      rfl
    · cases hr
  | [_], _, _, hr => cases hr
  | [], _, _, hr => cases hr
theorem vq_o31 : vq_Op 31 := by
  intro L xs cm sm go hI rs h cnt nty ce sl sg k pc lv st a b c hr
  refine vq_math (op := 31) (F := fun x y => if x < y then y else x) (f := fun x y => Nat.ble (x + 1) y) (fun _ _ _ _ _ _ _ _ _ _ => rfl) (fun u v => ?_) L xs cm sm go hI rs h cnt nty ce sl sg k pc lv st a b c hr
  have q := vb_lt (nI u) (nI v)
  rw [vb_nI, vb_nI] at q
  show (if nI u < nI v then nI v else nI u) = nI (bif Nat.ble ((u + 2147483648) % 4294967296 + 1) ((v + 2147483648) % 4294967296) then v else u)
  by_cases z : nI u < nI v
  · rw [if_pos z, Nat.ble_eq_true_of_le (q.mp z)]; rfl
  · rw [if_neg z]
    cases e : Nat.ble ((u + 2147483648) % 4294967296 + 1) ((v + 2147483648) % 4294967296) with
    | false => rfl
    | true => exact absurd (q.mpr (Nat.le_of_ble_eq_true e)) z
theorem vq_o32 : vq_Op 32 := by
  intro L xs cm sm go hI rs h cnt nty ce sl sg k pc lv st a b c hr
  refine vq_math (op := 32) (F := fun x y => if y < x then y else x) (f := fun x y => Nat.ble (y + 1) x) (fun _ _ _ _ _ _ _ _ _ _ => rfl) (fun u v => ?_) L xs cm sm go hI rs h cnt nty ce sl sg k pc lv st a b c hr
  have q := vb_lt (nI v) (nI u)
  rw [vb_nI, vb_nI] at q
  show (if nI v < nI u then nI v else nI u) = nI (bif Nat.ble ((v + 2147483648) % 4294967296 + 1) ((u + 2147483648) % 4294967296) then v else u)
  by_cases z : nI v < nI u
  · rw [if_pos z, Nat.ble_eq_true_of_le (q.mp z)]; rfl
  · rw [if_neg z]
    cases e : Nat.ble ((v + 2147483648) % 4294967296 + 1) ((u + 2147483648) % 4294967296) with
    | false => rfl
    | true => exact absurd (q.mpr (Nat.le_of_ble_eq_true e)) z
theorem vb_cpy (t s : vi_Tr vi_V 14) (sp dp : Nat) : ∀ n, dp + n ≤ 16384 → ∀ j, j < 16384 → vi_tg 14 (vi_cpy t s sp dp n) j = if dp ≤ j ∧ j < dp + n then vi_tg 14 s (sp + (j - dp)) else vi_tg 14 t j := by
  intro n
  induction n with
  | zero => intro _ j _; rw [if_neg (by omega)]; rfl
  | succ n ih =>
    intro hn j hj
    show vi_tg 14 (vi_tp 14 (vi_cpy t s sp dp n) (dp + n) (vi_tg 14 s (sp + n))) j = _
    by_cases e : j = dp + n
    · subst e
      rw [vb_self, if_pos (by omega)]
      exact congrArg (vi_tg 14 s) (by omega)
    · rw [vb_ne 14 _ (dp + n) j _ (Ne.symm e) (by omega) (by omega), ih (by omega) j hj]
      by_cases q : dp ≤ j ∧ j < dp + n
      · rw [if_pos q, if_pos (by omega)]
      · rw [if_neg q, if_neg (by omega)]
theorem vq_o33 : vq_Op 33 := by
  intro L xs cm sm go hI rs h cnt nty ce sl sg k pc lv st a b c hr ρ gs M lc sc hc hrs hm hg hl hst
  match st, sc, hst, hr with
  | n :: dp :: d :: sp :: s :: st, vn :: vdp :: vd :: vsp :: vs :: sc, ⟨h1, h2, h3, h4, h5, hst⟩, hr =>
    have hr : (match vi_lit sg n, vi_lit sg dp, vi_lit sg sp with
      | some n, some dp, some sp => and (and (and (Nat.beq d.1 2) (Nat.ble (d.2 + 1) cnt)) (and (Nat.beq s.1 2) (Nat.ble (s.2 + 1) cnt))) (match vi_tg 11 h s.2, vi_tg 11 h d.2 with
        | .inr o, .inr u => and (and (and (Nat.beq o.2.1 0) (Nat.beq u.2.1 0)) (and (Nat.ble (sp + n) o.2.2.1) (Nat.ble (dp + n) u.2.2.1))) (and (and (Nat.ble (vi_cat st) 8) (and (Nat.ble o.2.2.1 16384) (Nat.ble u.2.2.1 16384)))
          (go 0 ((k, pc + 3, lv, st) :: rs) (vi_tp 11 h d.2 (.inr (u.1, u.2.1, u.2.2.1, vi_cpy u.2.2.2 o.2.2.2 sp dp n))) cnt nty ce sl sg))
        | _, _ => false)
      | _, _, _ => false) = true := hr
    split at hr
    · rename_i n' dp' sp' hn hdp hsp
      obtain ⟨rfl, -⟩ := vq_lit hg h1 hn
      obtain ⟨rfl, -⟩ := vq_lit hg h2 hdp
      obtain ⟨rfl, -⟩ := vq_lit hg h4 hsp
      obtain ⟨e1, hr⟩ := vz_and hr
      obtain ⟨e1, e2⟩ := vz_and e1
      obtain ⟨rfl, d5, d6, d7⟩ := vq_at hm h3 e1
      obtain ⟨rfl, s5, s6, s7⟩ := vq_at hm h5 e2
      split at hr
      · rename_i o u ho hu
        rw [ho] at s7
        rw [hu] at d7
        obtain ⟨A, a1, a2, a3, a4⟩ := vq_arr s7
        obtain ⟨B, b1, b2, b3, b4⟩ := vq_arr d7
        obtain ⟨q1, hr⟩ := vz_and hr
        obtain ⟨q1, q2⟩ := vz_and q1
        obtain ⟨q1, q3⟩ := vz_and q1
        obtain ⟨q2, q4⟩ := vz_and q2
        obtain ⟨q5, hr⟩ := vz_and hr
        obtain ⟨q5, -⟩ := vz_and q5
        have q1 := Nat.eq_of_beq_eq_true q1
        have q3 := Nat.eq_of_beq_eq_true q3
        have q2 := Nat.le_of_ble_eq_true q2
        have q4 := Nat.le_of_ble_eq_true q4
        have c2 : vj_cat sc ≤ 8 := by
          rw [← vq_cat hst]; exact Nat.le_of_ble_eq_true q5
        have a3' := a3
        have b3' := b3
        rw [q1] at a3
        rw [q3] at b3
        obtain ⟨f, rfl⟩ := a3
        obtain ⟨g, rfl⟩ := b3
        obtain ⟨n1, n2⟩ := vq_lt32 (u := n') (by omega)
        obtain ⟨p1, p2⟩ := vq_lt32 (u := dp') (by omega)
        obtain ⟨r1, r2⟩ := vq_lt32 (u := sp') (by omega)
        have q : vq_c L ρ (.inr (u.1, u.2.1, u.2.2.1, vi_cpy u.2.2.2 o.2.2.2 sp' dp' n')) (.inl (u.1, u.2.1, u.2.2.1, .inl (va_cpy f g sp' dp' n'))) := by
          refine ⟨rfl, rfl, rfl, b2, ?_, fun y hy => ?_⟩
          · show vq_k u.2.1 _
            rw [q3]; exact ⟨_, rfl⟩
          · have hy : y < u.2.2.1 := hy
            show vq_r L ρ (vi_tg 14 (vi_cpy u.2.2.2 o.2.2.2 sp' dp' n') y) (.int (va_cpy f g sp' dp' n' y))
            rw [vb_cpy _ _ _ _ _ (by omega) y (by omega)]
            unfold va_cpy
            by_cases z : dp' ≤ y ∧ y < dp' + n'
            · rw [if_pos z, if_pos z]
              exact a4 (sp' + (y - dp')) (by omega)
            · rw [if_neg z, if_neg z]
              exact b4 y hy
        refine vk_next (f' := (k, pc + 3, lc, sc)) (M' := vj_put M (d.2 + 8) (.inl (u.1, u.2.1, u.2.2.1, .inl (va_cpy f g sp' dp' n')))) (vk_st hc ?_) (hI 0 _ _ _ _ _ _ _ hr ρ _ _ ⟨⟨rfl, rfl, hl, hst⟩, hrs⟩ (hm.put d5 q) hg)
        show vj_ocopy a b c k pc lc (.int (nI n') :: .int (nI dp') :: .ref (d.2 + 8) :: .int (nI sp') :: .ref (s.2 + 8) :: sc) M = _
        unfold vj_ocopy
        dsimp only
        rw [s6, d6]
        dsimp only [vj_at]
        rw [a1, b1]
        dsimp only
        rw [n2, p2, r2, if_pos ⟨q1, q3, r1, p1, n1, q2, q4, c2⟩]
        rfl
      · cases hr
    · cases hr
  | [_, _, _, _], _, _, hr => cases hr
  | [_, _, _], _, _, hr => cases hr
  | [_, _], _, _, hr => cases hr
  | [_], _, _, hr => cases hr
  | [], _, _, hr => cases hr
theorem vt_anf_ok (L : Nat) (ρ : List Int32) (a : Nat) : vq_l (vq_r L ρ) (vt_anf a) (vt_nf a) := by
  have e0 : ∀ u, u = (0, 0) → vq_r L ρ u (.int 0) := fun u q => by rw [q]; rfl
  match a with
  | 0 => exact ⟨rfl, rfl, rfl, rfl, rfl, rfl, trivial⟩
  | 1 => exact ⟨rfl, rfl, rfl, rfl, rfl, rfl, rfl, trivial⟩
  | 2 => exact ⟨rfl, rfl, rfl, rfl, rfl, rfl, rfl, rfl, rfl, rfl, rfl, trivial⟩
  | 3 => exact ⟨rfl, rfl, trivial⟩
  | 4 => exact ⟨rfl, rfl, rfl, rfl, rfl, rfl, rfl, trivial⟩
  | 5 => exact ⟨rfl, rfl, rfl, rfl, rfl, rfl, rfl, rfl, rfl, rfl, rfl, trivial⟩
  | _ + 6 => exact trivial
theorem vq_o34 : vq_Op 34 := by
  intro L xs cm sm go hI rs h cnt nty ce sl sg k pc lv st a b c hr ρ gs M lc sc hc hrs hm hg hl hst
  obtain ⟨e1, hr⟩ := vz_and (show and (Nat.ble (cnt + 1) 2048) (go 0 ((k, pc + 3, lv, (2, cnt) :: st) :: rs) (vi_tp 11 h cnt (.inl (a, vt_anf a))) (cnt + 1) nty (ce + 1) (sl + (vt_anf a).length) sg) = true from hr)
  have e1 := Nat.le_of_ble_eq_true e1
  have q := vt_anf_ok L ρ a
  rw [q.len] at hr
  exact vk_next (f' := (k, pc + 3, lc, .ref M.2.1 :: sc)) (M' := vj_new M (.inr (a, vt_nf a)) 0 (vt_nf a).length) (vk_st hc rfl) (hI 0 _ _ _ _ _ _ _ hr ρ _ _ ⟨⟨rfl, rfl, hl, by show Value.ref M.2.1 = .ref (cnt + 8); rw [hm.1], hst⟩, hrs⟩ (hm.new e1 (c := .inl (a, vt_anf a)) (d := .inr (a, vt_nf a)) ⟨rfl, q⟩ 0 _) hg)
theorem vq_o35 : vq_Op 35 := by
  intro L xs cm sm go hI rs h cnt nty ce sl sg k pc lv st a b c hr ρ gs M lc sc hc hrs hm hg hl hst
  obtain ⟨e1, hr⟩ := vz_and (show and (Nat.ble (vi_cat st) 8) (go (a + 1) rs h cnt nty (ce + 1) (sl + 6) sg) = true from hr)
  have c2 : vj_cat sc ≤ 8 := by
    rw [← vq_cat hst]; exact Nat.le_of_ble_eq_true e1
  have q : vq_m L ρ h cnt nty (ce + 1) (sl + 6) (M.1, M.2.1, M.2.2.1, M.2.2.2.1 + 1, M.2.2.2.2 + 6) := by
    obtain ⟨m1, m2, m3, m4, m5, m6⟩ := hm
    exact ⟨m1, m2, by show M.2.2.2.1 + 1 = _; omega, by show M.2.2.2.2 + 6 = _; omega, m5, m6⟩
  refine vk_thr (e := a) (M' := (M.1, M.2.1, M.2.2.1, M.2.2.2.1 + 1, M.2.2.2.2 + 6)) (vk_st hc ?_) (hI (a + 1) _ _ _ _ _ _ _ hr ρ _ _ hrs q hg)
  show vj_othrow a b c k pc lc sc M = _
  unfold vj_othrow
  rw [if_pos c2]
theorem vq_dfl (L : Nat) (ρ : List Int32) (ty n : Nat) (hn : n ≤ 16384) (t : Nat) : vq_c L ρ (.inr (t, ty, n, vi_tf 14 (vi_dfl ty))) (.inl (t, ty, n, vj_dfl ty)) := by
  refine ⟨rfl, rfl, rfl, hn, ?_, fun j _ => ?_⟩
  · show vq_k ty (vj_dfl ty)
    match ty with
    | 0 => exact ⟨_, rfl⟩
    | 1 => exact ⟨_, rfl⟩
    | 2 => exact ⟨_, rfl⟩
    | 3 => exact ⟨_, rfl⟩
    | _ + 4 => exact ⟨_, rfl⟩
  · show vq_r L ρ (vi_tg 14 (vi_tf 14 (vi_dfl ty)) j) (vq_el (vj_dfl ty) j)
    rw [vb_tf]
    match ty with
    | 0 => exact rfl
    | 1 => exact rfl
    | 2 => exact rfl
    | 3 => exact rfl
    | _ + 4 => exact rfl
theorem vq_o36 : vq_Op 36 := by
  intro L xs cm sm go hI rs h cnt nty ce sl sg k pc lv st a b c hr ρ gs M lc sc hc hrs hm hg hl hst
  match st, sc, hst, hr with
  | n :: st, w :: sc, ⟨h3, hst⟩, hr =>
    have hr : (match vi_lit sg n with
      | some n => and (and (Nat.ble n 16384) (or false (Nat.ble (a + 1) 4))) (and (Nat.ble (cnt + 1) 2048)
          (go 0 ((k, pc + 2, lv, (2, cnt) :: st) :: rs) (vi_tp 11 h cnt (.inr (nty, a, n, vi_tf 14 (vi_dfl (a))))) (cnt + 1) (nty + 1) (ce + 1) (sl + n) sg))
      | none => false) = true := hr
    split at hr
    · rename_i u hu
      obtain ⟨e1, hr⟩ := vz_and hr
      obtain ⟨e1, e3⟩ := vz_and e1
      obtain ⟨e2, hr⟩ := vz_and hr
      have e1 := Nat.le_of_ble_eq_true e1
      have e2 := Nat.le_of_ble_eq_true e2
      obtain ⟨rfl, -⟩ := vq_lit hg h3 hu
      obtain ⟨n1, n2⟩ := vq_lt32 e1
      refine vk_next (f' := (k, pc + 2, lc, .ref M.2.1 :: sc)) (M' := vj_new M (.inl (M.2.2.1, a, u, vj_dfl (a))) 1 u) (vk_st hc ?_) (hI 0 _ _ _ _ _ _ _ hr ρ _ _ ⟨⟨rfl, rfl, hl, by show Value.ref M.2.1 = .ref (cnt + 8); rw [hm.1], hst⟩, hrs⟩ (hm.new e2 (by rw [hm.2.1]; exact vq_dfl L ρ (a) u e1 nty) 1 u) hg)
      show vj_onewa a b c k pc lc (.int (nI u) :: sc) M = _
      unfold vj_onewa
      dsimp only
      rw [n2, if_pos ⟨n1, e1, Nat.le_of_ble_eq_true e3⟩]
      rfl
    · cases hr
  | [], _, _, hr => cases hr
theorem vq_o37 : vq_Op 37 := by
  intro L xs cm sm go hI rs h cnt nty ce sl sg k pc lv st a b c hr ρ gs M lc sc hc hrs hm hg hl hst
  match st, sc, hst, hr with
  | n :: st, w :: sc, ⟨h3, hst⟩, hr =>
    have hr : (match vi_lit sg n with
      | some n => and (and (Nat.ble n 16384) (or true (Nat.ble (a + 1) 4))) (and (Nat.ble (cnt + 1) 2048)
          (go 0 ((k, pc + 3, lv, (2, cnt) :: st) :: rs) (vi_tp 11 h cnt (.inr (nty, a + 4, n, vi_tf 14 (vi_dfl (a + 4))))) (cnt + 1) (nty + 1) (ce + 1) (sl + n) sg))
      | none => false) = true := hr
    split at hr
    · rename_i u hu
      obtain ⟨e1, hr⟩ := vz_and hr
      obtain ⟨e1, e3⟩ := vz_and e1
      obtain ⟨e2, hr⟩ := vz_and hr
      have e1 := Nat.le_of_ble_eq_true e1
      have e2 := Nat.le_of_ble_eq_true e2
      obtain ⟨rfl, -⟩ := vq_lit hg h3 hu
      obtain ⟨n1, n2⟩ := vq_lt32 e1
      refine vk_next (f' := (k, pc + 3, lc, .ref M.2.1 :: sc)) (M' := vj_new M (.inl (M.2.2.1, a + 4, u, vj_dfl (a + 4))) 1 u) (vk_st hc ?_) (hI 0 _ _ _ _ _ _ _ hr ρ _ _ ⟨⟨rfl, rfl, hl, by show Value.ref M.2.1 = .ref (cnt + 8); rw [hm.1], hst⟩, hrs⟩ (hm.new e2 (by rw [hm.2.1]; exact vq_dfl L ρ (a + 4) u e1 nty) 1 u) hg)
      show vj_onewq a b c k pc lc (.int (nI u) :: sc) M = _
      unfold vj_onewq
      dsimp only
      rw [n2, if_pos ⟨n1, e1⟩]
      rfl
    · cases hr
  | [], _, _, hr => cases hr
theorem vq_o38 : vq_Op 38 := by
  intro L xs cm sm go hI rs h cnt nty ce sl sg k pc lv st a b c hr ρ gs M lc sc hc hrs hm hg hl hst
  match st, sc, hst, hr with
  | v :: st, w :: sc, ⟨h3, hst⟩, hr =>
    obtain ⟨e1, hr⟩ := vz_and (show and (not (vi_two v)) (go 0 ((k, pc + 1, lv, v :: v :: st) :: rs) h cnt nty ce sl sg) = true from hr)
    have n_w : ¬ vj_two w = true := by
      rw [← vq_two h3]
      intro q
      rw [q] at e1; cases e1
    exact vk_next (f' := (k, pc + 1, lc, w :: w :: sc)) (M' := M) (vk_st hc (if_neg n_w)) (hI 0 _ _ _ _ _ _ _ hr ρ _ M ⟨⟨rfl, rfl, hl, h3, h3, hst⟩, hrs⟩ hm hg)
  | [], _, _, hr => cases hr
theorem vq_o39 : vq_Op 39 := by
  intro L xs cm sm go hI rs h cnt nty ce sl sg k pc lv st a b c hr ρ gs M lc sc hc hrs hm hg hl hst
  match st, sc, hst, hr with
  | v :: st, w :: sc, ⟨h3, hst⟩, hr =>
    obtain ⟨e1, hr⟩ := vz_and (show and (not (vi_two v)) (go 0 ((k, pc + 1, lv, st) :: rs) h cnt nty ce sl sg) = true from hr)
    have n_w : ¬ vj_two w = true := by
      rw [← vq_two h3]
      intro q
      rw [q] at e1; cases e1
    exact vk_next (f' := (k, pc + 1, lc, sc)) (M' := M) (vk_st hc (if_neg n_w)) (hI 0 _ _ _ _ _ _ _ hr ρ _ M ⟨⟨rfl, rfl, hl, hst⟩, hrs⟩ hm hg)
  | [], _, _, hr => cases hr
theorem vq_o40 : vq_Op 40 := by
  intro L xs cm sm go hI rs h cnt nty ce sl sg k pc lv st a b c hr ρ gs M lc sc hc hrs hm hg hl hst
  match st, sc, hst, hr with
  | v :: w :: st, x :: y :: sc, ⟨h3, h3b, hst⟩, hr =>
    obtain ⟨e1, hr⟩ := vz_and (show and (and (not (vi_two v)) (not (vi_two w))) (go 0 ((k, pc + 1, lv, v :: w :: v :: st) :: rs) h cnt nty ce sl sg) = true from hr)
    obtain ⟨e1, e2⟩ := vz_and e1
    have n_x : ¬ (vj_two x = true ∨ vj_two y = true) := by
      rw [← vq_two h3, ← vq_two h3b]
      intro q
      rcases q with q | q
      · rw [q] at e1; cases e1
      · rw [q] at e2; cases e2
    exact vk_next (f' := (k, pc + 1, lc, x :: y :: x :: sc)) (M' := M) (vk_st hc (if_neg n_x)) (hI 0 _ _ _ _ _ _ _ hr ρ _ M ⟨⟨rfl, rfl, hl, h3, h3b, h3, hst⟩, hrs⟩ hm hg)
  | [_], _, _, hr => cases hr
  | [], _, _, hr => cases hr
theorem vq_o41 : vq_Op 41 := by
  intro L xs cm sm go hI rs h cnt nty ce sl sg k pc lv st a b c hr ρ gs M lc sc hc hrs hm hg hl hst
  match st, sc, hst, hr with
  | v :: w :: st, x :: y :: sc, ⟨h3, h3b, hst⟩, hr =>
    obtain ⟨e1, hr⟩ := vz_and (show and (and (not (vi_two v)) (not (vi_two w))) (go 0 ((k, pc + 1, lv, v :: w :: v :: w :: st) :: rs) h cnt nty ce sl sg) = true from hr)
    obtain ⟨e1, e2⟩ := vz_and e1
    have n_x : ¬ (vj_two x = true ∨ vj_two y = true) := by
      rw [← vq_two h3, ← vq_two h3b]
      intro q
      rcases q with q | q
      · rw [q] at e1; cases e1
      · rw [q] at e2; cases e2
    exact vk_next (f' := (k, pc + 1, lc, x :: y :: x :: y :: sc)) (M' := M) (vk_st hc (if_neg n_x)) (hI 0 _ _ _ _ _ _ _ hr ρ _ M ⟨⟨rfl, rfl, hl, h3, h3b, h3, h3b, hst⟩, hrs⟩ hm hg)
  | [_], _, _, hr => cases hr
  | [], _, _, hr => cases hr
theorem vq_fitr {L : Nat} {ρ : List Int32} {h : vi_H} {cnt nty ce sl : Nat} {M : vj_M} (hm : vq_m L ρ h cnt nty ce sl M) {ty : Nat} {x : vi_V} {v : Value} (hv : vq_r L ρ x v) (hx : vi_fitr cnt ty x = true) : vj_fitr M ty v = true := by
  match ty, hx with
  | 1, hx => exact vq_isI hv hx
  | 2, hx => exact (vq_is01 hv hx).1
  | 3, hx => show vj_isJ v = true; rw [vq_isJ hv hx]; rfl
  | 4, hx => show vj_isD v = true; rw [vq_isD hv hx]; rfl
  | 5, hx =>
    rcases vz_or (show or (and (Nat.beq x.1 2) (Nat.ble (x.2 + 1) cnt)) (Nat.beq x.1 3) = true from hx) with q | q
    · obtain ⟨rfl, -, h6, -⟩ := vq_at hm hv q
      show (vj_obj M (.ref (x.2 + 8))).isSome = true
      rw [h6]; rfl
    · rw [vq_isN hv q]; rfl
theorem vq_endr {L : Nat} {xs : Nat → Int32} {cm sm : Nat} {go : vi_K} (hI : vq_go L xs cm sm go) {h : vi_H} {cnt nty ce sl : Nat} {sg : vi_G} {ρ : List Int32} {M : vj_M} {v : vi_V} {w : Value} (hm : vq_m L ρ h cnt nty ce sl M) (hg : vq_g L xs ρ sg) (h3 : vq_r L ρ v w) (rs : List vi_F) (gs : List vj_F) (hr : (match rs with
      | [] => and (and (Nat.beq v.1 0) (Nat.beq v.2 1)) (and (Nat.ble ce cm) (Nat.ble sl sm))
      | (k, pc, lv, st) :: rs => go 0 ((k, pc + 3, lv, v :: st) :: rs) h cnt nty ce sl sg) = true) (hrs : vq_l (vq_f (vq_r L ρ)) rs gs) : vk_K L xs cm sm gs (.inl [w]) M := by
  match rs, gs, hrs, hr with
  | [], [], _, hr =>
    obtain ⟨e2, e3⟩ := vz_and hr
    obtain ⟨e2, e4⟩ := vz_and e2
    obtain ⟨e3, e5⟩ := vz_and e3
    obtain ⟨v1, v2⟩ := v
    have f1 : v1 = 0 := Nat.eq_of_beq_eq_true e2
    have f2 : v2 = 1 := Nat.eq_of_beq_eq_true e4
    rw [f1, f2] at h3
    have h3 : w = .int (nI 1) := h3
    obtain ⟨m1, m2, m3, m4, -⟩ := hm
    have e3 := Nat.le_of_ble_eq_true e3
    have e5 := Nat.le_of_ble_eq_true e5
    exact ⟨by rw [h3]; rfl, by omega, by omega⟩
  | (k', pc', lv', st') :: rs, (k2, pc2, lc2, st2) :: gs, ⟨⟨f1, f2, f3, f4⟩, hrs⟩, hr =>
    have f1 : k' = k2 := f1
    have f2 : pc' = pc2 := f2
    subst f1
    subst f2
    exact hI 0 _ _ _ _ _ _ _ hr ρ ((k', pc' + 3, lc2, w :: st2) :: gs) M ⟨⟨rfl, rfl, f3, h3, f4⟩, hrs⟩ hm hg
theorem vq_endv {L : Nat} {xs : Nat → Int32} {cm sm : Nat} {go : vi_K} (hI : vq_go L xs cm sm go) {h : vi_H} {cnt nty ce sl : Nat} {sg : vi_G} {ρ : List Int32} {M : vj_M} (hm : vq_m L ρ h cnt nty ce sl M) (hg : vq_g L xs ρ sg) (rs : List vi_F) (gs : List vj_F) (hr : (match rs with
      | [] => false
      | (k, pc, lv, st) :: rs => go 0 ((k, pc + 3, lv, st) :: rs) h cnt nty ce sl sg) = true) (hrs : vq_l (vq_f (vq_r L ρ)) rs gs) : vk_K L xs cm sm gs (.inl []) M := by
  match rs, gs, hrs, hr with
  | [], _, _, hr => cases hr
  | (k', pc', lv', st') :: rs, (k2, pc2, lc2, st2) :: gs, ⟨⟨f1, f2, f3, f4⟩, hrs⟩, hr =>
    have f1 : k' = k2 := f1
    have f2 : pc' = pc2 := f2
    subst f1
    subst f2
    exact hI 0 _ _ _ _ _ _ _ hr ρ ((k', pc' + 3, lc2, st2) :: gs) M ⟨⟨rfl, rfl, f3, f4⟩, hrs⟩ hm hg
theorem vq_ret {op : Nat}
    (hJ : ∀ (L : Nat) (xs : Nat → Int32) (a b c k pc : Nat) (lc : List (Option Value)) (sc : List Value) (M : vj_M), vj_op vt_mi vt_nf vt_ts vt_td L xs op a b c k pc lc sc M = vj_oret vt_mi a b c k pc lc sc M)
    (L : Nat) (xs : Nat → Int32) (cm sm : Nat) (go : vi_K) (hI : vq_go L xs cm sm go) (rs : List vi_F) (h : vi_H) (cnt nty ce sl : Nat) (sg : vi_G) (k pc : Nat) (lv : vi_W) (st : List vi_V) (a b c : Nat) (hr : vi_oret vt_mi cm sm go rs h cnt nty ce sl sg k pc lv st a b c = true)
    (ρ : List Int32) (gs : List vj_F) (M : vj_M) (lc : List (Option Value)) (sc : List Value) (hc : vt_code k pc = (op, a, b, c)) (hrs : vq_l (vq_f (vq_r L ρ)) rs gs) (hm : vq_m L ρ h cnt nty ce sl M) (hg : vq_g L xs ρ sg) (hl : vq_w (vq_r L ρ) lv lc) (hst : vq_l (vq_r L ρ) st sc) : vk_OK L xs cm sm ((k, pc, lc, sc) :: gs) M := by
  match st, sc, hst, hr with
  | [v], [w], ⟨h3, _⟩, hr =>
    obtain ⟨e1, hr⟩ := vz_and hr
    refine vk_ret (v := [w]) (M' := M) (vk_st hc ?_) (vq_endr hI hm hg h3 rs gs hr hrs)
    rw [hJ]
    unfold vj_oret
    dsimp only
    rw [if_pos (vq_fitr hm h3 e1)]
  | [], _, _, hr => cases hr
  | _ :: _ :: _, _, _, hr => cases hr
theorem vq_o42 : vq_Op 42 := by
  intro L xs cm sm go hI rs h cnt nty ce sl sg k pc lv st a b c hr
  exact vq_ret (op := 42) (fun _ _ _ _ _ _ _ _ _ _ => rfl) L xs cm sm go hI rs h cnt nty ce sl sg k pc lv st a b c hr
theorem vq_o44 : vq_Op 44 := by
  intro L xs cm sm go hI rs h cnt nty ce sl sg k pc lv st a b c hr
  exact vq_ret (op := 44) (fun _ _ _ _ _ _ _ _ _ _ => rfl) L xs cm sm go hI rs h cnt nty ce sl sg k pc lv st a b c hr
theorem vq_o45 : vq_Op 45 := by
  intro L xs cm sm go hI rs h cnt nty ce sl sg k pc lv st a b c hr
  exact vq_ret (op := 45) (fun _ _ _ _ _ _ _ _ _ _ => rfl) L xs cm sm go hI rs h cnt nty ce sl sg k pc lv st a b c hr
theorem vq_o46 : vq_Op 46 := by
  intro L xs cm sm go hI rs h cnt nty ce sl sg k pc lv st a b c hr
  exact vq_ret (op := 46) (fun _ _ _ _ _ _ _ _ _ _ => rfl) L xs cm sm go hI rs h cnt nty ce sl sg k pc lv st a b c hr
theorem vq_o43 : vq_Op 43 := by
  intro L xs cm sm go hI rs h cnt nty ce sl sg k pc lv st a b c hr ρ gs M lc sc hc hrs hm hg hl hst
  match st, sc, hst, hr with
  | [], [], _, hr =>
    obtain ⟨e1, hr⟩ := vz_and hr
    refine vk_ret (v := []) (M' := M) (vk_st hc ?_) (vq_endv hI hm hg rs gs hr hrs)
    show vj_ovret vt_mi a b c k pc lc [] M = _
    unfold vj_ovret
    dsimp only
    rw [if_pos (Nat.eq_of_beq_eq_true e1)]
  | _ :: _, _, _, hr => cases hr
theorem vb_toL (x : Int64) (y : Int64) (h : x.toInt = y.toInt) : x = y := Int64.toInt_inj.mp h
theorem vb_lN (u : Nat) : (lN u).toInt = (u : Int).bmod 18446744073709551616 := by
  show (Int64.ofNat u).toInt = _
  rw [Int64.toInt_ofNat']
theorem vb_lmod (u : Nat) : lN (u % 18446744073709551616) = lN u := by
  apply vb_toL
  rw [vb_lN, vb_lN, Int.bmod_def, Int.bmod_def]
  omega
theorem vb_i2l {u : Nat} (hu : u < 4294967296) : (nI u).toInt64 = lN (bif Nat.ble u 2147483647 then u else u + 18446744069414584320) := by
  apply vb_toL
  rw [Int32.toInt_toInt64, vb_toInt, vb_nI, vb_lN, Int.bmod_def]
  cases e : Nat.ble u 2147483647 with
  | true => have := Nat.le_of_ble_eq_true e; show _ = if ((u : Nat) : Int) % _ < _ then ((u : Nat) : Int) % _ else ((u : Nat) : Int) % _ - _; omega
  | false => have := vi_nble e; show _ = if ((u + 18446744069414584320 : Nat) : Int) % _ < _ then ((u + 18446744069414584320 : Nat) : Int) % _ else ((u + 18446744069414584320 : Nat) : Int) % _ - _; omega
theorem vq_o47 : vq_Op 47 := by
  intro L xs cm sm go hI rs h cnt nty ce sl sg k pc lv st a b c hr ρ gs M lc sc hc hrs hm hg hl hst
  match st, sc, hst, hr with
  | v :: st, w :: sc, ⟨h3, hst⟩, hr =>
    have hr : (match vi_lit sg v with
      | some u => go 0 ((k, pc + 1, lv, (4, bif Nat.ble u 2147483647 then u else u + 18446744069414584320) :: st) :: rs) h cnt nty ce sl sg
      | none => false) = true := hr
    split at hr
    · rename_i u hu
      obtain ⟨rfl, h4⟩ := vq_lit hg h3 hu
      exact vk_next (f' := (k, pc + 1, lc, .long (nI u).toInt64 :: sc)) (M' := M) (vk_st hc rfl) (hI 0 _ _ _ _ _ _ _ hr ρ _ M ⟨⟨rfl, rfl, hl, congrArg Value.long (vb_i2l h4), hst⟩, hrs⟩ hm hg)
    · cases hr
  | [], _, _, hr => cases hr
theorem vq_o48 : vq_Op 48 := by
  intro L xs cm sm go hI rs h cnt nty ce sl sg k pc lv st a b c hr ρ gs M lc sc hc hrs hm hg hl hst
  match st, sc, hst, hr with
  | y :: x :: st, w :: v :: sc, ⟨h3b, h3, hst⟩, hr =>
    obtain ⟨e1, hr⟩ := vz_and (show and (and (Nat.beq x.1 4) (Nat.beq y.1 4)) (go 0 ((k, pc + 1, lv, (4, Nat.mod (x.2 + y.2) 18446744073709551616) :: st) :: rs) h cnt nty ce sl sg) = true from hr)
    obtain ⟨e1, e2⟩ := vz_and e1
    have g1 := vq_isJ h3 e1
    have g2 := vq_isJ h3b e2
    subst g1
    subst g2
    have q : lN x.2 + lN y.2 = lN (Nat.mod (x.2 + y.2) 18446744073709551616) := by
      show _ = lN ((x.2 + y.2) % 18446744073709551616)
      rw [vb_lmod]
      show Int64.ofNat x.2 + Int64.ofNat y.2 = Int64.ofNat _
      rw [Int64.ofNat_add]
    exact vk_next (f' := (k, pc + 1, lc, .long (lN x.2 + lN y.2) :: sc)) (M' := M) (vk_st hc rfl) (hI 0 _ _ _ _ _ _ _ hr ρ _ M ⟨⟨rfl, rfl, hl, congrArg Value.long q, hst⟩, hrs⟩ hm hg)
  | [_], _, _, hr => cases hr
  | [], _, _, hr => cases hr
theorem vq_o49 : vq_Op 49 := by
  intro L xs cm sm go hI rs h cnt nty ce sl sg k pc lv st a b c hr ρ gs M lc sc hc hrs hm hg hl hst
  match st, sc, hst, hr with
  | y :: x :: st, w :: v :: sc, ⟨h3b, h3, hst⟩, hr =>
    obtain ⟨e1, hr⟩ := vz_and (show and (and (Nat.beq x.1 4) (Nat.beq y.1 4)) (go 0 ((k, pc + 1, lv, (4, Nat.mod (x.2 * y.2) 18446744073709551616) :: st) :: rs) h cnt nty ce sl sg) = true from hr)
    obtain ⟨e1, e2⟩ := vz_and e1
    have g1 := vq_isJ h3 e1
    have g2 := vq_isJ h3b e2
    subst g1
    subst g2
    have q : lN x.2 * lN y.2 = lN (Nat.mod (x.2 * y.2) 18446744073709551616) := by
      show _ = lN ((x.2 * y.2) % 18446744073709551616)
      rw [vb_lmod]
      show Int64.ofNat x.2 * Int64.ofNat y.2 = Int64.ofNat _
      rw [Int64.ofNat_mul]
    exact vk_next (f' := (k, pc + 1, lc, .long (lN x.2 * lN y.2) :: sc)) (M' := M) (vk_st hc rfl) (hI 0 _ _ _ _ _ _ _ hr ρ _ M ⟨⟨rfl, rfl, hl, congrArg Value.long q, hst⟩, hrs⟩ hm hg)
  | [_], _, _, hr => cases hr
  | [], _, _, hr => cases hr
theorem vq_o50 : vq_Op 50 := by
  intro L xs cm sm go hI rs h cnt nty ce sl sg k pc lv st a b c hr ρ gs M lc sc hc hrs hm hg hl hst
  match st, sc, hst, hr with
  | y :: x :: st, w :: v :: sc, ⟨h3b, h3, hst⟩, hr =>
    obtain ⟨e1, hr⟩ := vz_and (show and (and (Nat.beq x.1 4) (Nat.beq y.1 4)) (and (Nat.beq x.2 y.2) (go 0 ((k, pc + 1, lv, (0, 0) :: st) :: rs) h cnt nty ce sl sg)) = true from hr)
    obtain ⟨e1, e2⟩ := vz_and e1
    obtain ⟨e3, hr⟩ := vz_and hr
    have g1 := vq_isJ h3 e1
    have g2 := vq_isJ h3b e2
    subst g1
    subst g2
    have q : lg_cmp (lN x.2) (lN y.2) = nI 0 := by
      rw [Nat.eq_of_beq_eq_true e3]
      unfold lg_cmp
      rw [if_neg (fun q => Int64.lt_irrefl (show lN y.2 < lN y.2 from q)), if_pos rfl]
      rfl
    exact vk_next (f' := (k, pc + 1, lc, .int (lg_cmp (lN x.2) (lN y.2)) :: sc)) (M' := M) (vk_st hc rfl) (hI 0 _ _ _ _ _ _ _ hr ρ _ M ⟨⟨rfl, rfl, hl, congrArg Value.int q, hst⟩, hrs⟩ hm hg)
  | [_], _, _, hr => cases hr
  | [], _, _, hr => cases hr
theorem vq_o51 : vq_Op 51 := by
  intro L xs cm sm go hI rs h cnt nty ce sl sg k pc lv st a b c hr ρ gs M lc sc hc hrs hm hg hl hst
  have hr : go 0 ((k, pc + (bif Nat.beq b 0 then 1 else 3), lv, (4, a) :: st) :: rs) h cnt nty ce sl sg = true := hr
  have e : (bif Nat.beq b 0 then 1 else 3) = (if b = 0 then 1 else 3) := by
    cases z : Nat.beq b 0 with
    | true => rw [if_pos (Nat.eq_of_beq_eq_true z)]; rfl
    | false => rw [if_neg (fun q => by rw [q] at z; cases z)]; rfl
  rw [e] at hr
  exact vk_next (f' := (k, pc + (if b = 0 then 1 else 3), lc, .long (lN a) :: sc)) (M' := M) (vk_st hc rfl) (hI 0 _ _ _ _ _ _ _ hr ρ _ M ⟨⟨rfl, rfl, hl, rfl, hst⟩, hrs⟩ hm hg)
theorem vq_o54 : vq_Op 54 := by
  intro L xs cm sm go hI rs h cnt nty ce sl sg k pc lv st a b c hr ρ gs M lc sc hc hrs hm hg hl hst
  exact vk_next (f' := (k, pc + 1, lc, .double FP.dconst0 :: sc)) (M' := M) (vk_st hc rfl) (hI 0 _ _ _ _ _ _ _ hr ρ _ M ⟨⟨rfl, rfl, hl, rfl, hst⟩, hrs⟩ hm hg)
theorem vq_o57 : vq_Op 57 := by
  intro L xs cm sm go hI rs h cnt nty ce sl sg k pc lv st a b c hr ρ gs M lc sc hc hrs hm hg hl hst
  match st, sc, hst, hr with
  | y :: x :: st, w :: v :: sc, ⟨h3b, h3, hst⟩, hr =>
    obtain ⟨e1, hr⟩ := vz_and (show and (and (Nat.beq x.1 8) (Nat.beq y.1 8)) (go 0 ((k, pc + 1, lv, (0, 0) :: st) :: rs) h cnt nty ce sl sg) = true from hr)
    obtain ⟨e1, e2⟩ := vz_and e1
    have g1 := vq_isD h3 e1
    have g2 := vq_isD h3b e2
    subst g1
    subst g2
    have q : Op.cmpValue (FP.dcmp FP.dconst0 FP.dconst0) .l = nI 0 := by decide +kernel
    exact vk_next (f' := (k, pc + 1, lc, .int (Op.cmpValue (FP.dcmp FP.dconst0 FP.dconst0) .l) :: sc)) (M' := M) (vk_st hc rfl) (hI 0 _ _ _ _ _ _ _ hr ρ _ M ⟨⟨rfl, rfl, hl, congrArg Value.int q, hst⟩, hrs⟩ hm hg)
  | [_], _, _, hr => cases hr
  | [], _, _, hr => cases hr
theorem vq_o58 : vq_Op 58 := by
  intro L xs cm sm go hI rs h cnt nty ce sl sg k pc lv st a b c hr ρ gs M lc sc hc hrs hm hg hl hst
  obtain ⟨e1, hr⟩ := vz_and (show and (Nat.ble (a + 1) 5) (go 0 ((k, pc + 3, lv, (7, a) :: st) :: rs) h cnt nty ce sl sg) = true from hr)
  exact vk_next (f' := (k, pc + 3, lc, .ref (a + 1) :: sc)) (M' := M) (vk_st hc rfl) (hI 0 _ _ _ _ _ _ _ hr ρ _ M ⟨⟨rfl, rfl, hl, ⟨rfl, Nat.le_of_ble_eq_true e1⟩, hst⟩, hrs⟩ hm hg)
theorem vq_o59 : vq_Op 59 := by
  intro L xs cm sm go hI rs h cnt nty ce sl sg k pc lv st a b c hr ρ gs M lc sc hc hrs hm hg hl hst
  match st, sc, hst, hr with
  | y :: x :: st, w :: v :: sc, ⟨h3b, h3, hst⟩, hr =>
    obtain ⟨e1, hr⟩ := vz_and (show and (and (Nat.beq x.1 7) (Nat.beq y.1 7)) (go 0 ((k, (bif Nat.beq x.2 y.2 then pc + 3 else a), lv, st) :: rs) h cnt nty ce sl sg) = true from hr)
    obtain ⟨e1, e2⟩ := vz_and e1
    obtain ⟨rfl, g1⟩ := vq_isE h3 e1
    obtain ⟨rfl, g2⟩ := vq_isE h3b e2
    have q : (bif Nat.beq x.2 y.2 then pc + 3 else a) = (if Nat.beq (x.2 + 1) (y.2 + 1) = true then pc + 3 else a) := by
      show _ = (if Nat.beq x.2 y.2 = true then pc + 3 else a)
      cases Nat.beq x.2 y.2 <;> rfl
    rw [q] at hr
    refine vk_next (f' := (k, (if Nat.beq (x.2 + 1) (y.2 + 1) = true then pc + 3 else a), lc, sc)) (M' := M) (vk_st hc ?_) (hI 0 _ _ _ _ _ _ _ hr ρ _ M ⟨⟨rfl, rfl, hl, hst⟩, hrs⟩ hm hg)
    show vj_oacmp a b c k pc lc (.ref (y.2 + 1) :: .ref (x.2 + 1) :: sc) M = _
    unfold vj_oacmp
    dsimp only
    rw [if_pos (show vj_enq (x.2 + 1) (y.2 + 1) = true from decide_eq_true ⟨by omega, by omega, by omega, by omega⟩)]
    rfl
  | [_], _, _, hr => cases hr
  | [], _, _, hr => cases hr
theorem vq_o60 : vq_Op 60 := by
  intro L xs cm sm go hI rs h cnt nty ce sl sg k pc lv st a b c hr ρ gs M lc sc hc hrs hm hg hl hst
  match st, sc, hst, hr with
  | r :: st, w :: sc, ⟨h3, hst⟩, hr =>
    obtain ⟨e1, hr⟩ := vz_and (show and (or (Nat.beq r.1 2) (Nat.beq r.1 3)) (go 0 ((k, (bif Nat.beq r.1 3 then a else pc + 3), lv, st) :: rs) h cnt nty ce sl sg) = true from hr)
    rcases vz_or e1 with e2 | e2
    · have e3 := vq_isR h3 e2
      subst e3
      rw [Nat.eq_of_beq_eq_true e2] at hr
      exact vk_next (f' := (k, pc + 3, lc, sc)) (M' := M) (vk_st hc rfl) (hI 0 _ _ _ _ _ _ _ hr ρ _ M ⟨⟨rfl, rfl, hl, hst⟩, hrs⟩ hm hg)
    · have e3 := vq_isN h3 e2
      subst e3
      rw [Nat.eq_of_beq_eq_true e2] at hr
      exact vk_next (f' := (k, a, lc, sc)) (M' := M) (vk_st hc rfl) (hI 0 _ _ _ _ _ _ _ hr ρ _ M ⟨⟨rfl, rfl, hl, hst⟩, hrs⟩ hm hg)
  | [], _, _, hr => cases hr
theorem vq_o61 : vq_Op 61 := by
  intro L xs cm sm go hI rs h cnt nty ce sl sg k pc lv st a b c hr ρ gs M lc sc hc hrs hm hg hl hst
  match st, sc, hst, hr with
  | r :: st, w :: sc, ⟨h3, hst⟩, hr =>
    obtain ⟨e1, hr⟩ := vz_and (show and (or (Nat.beq r.1 2) (Nat.beq r.1 3)) (go 0 ((k, (bif Nat.beq r.1 2 then a else pc + 3), lv, st) :: rs) h cnt nty ce sl sg) = true from hr)
    rcases vz_or e1 with e2 | e2
    · have e3 := vq_isR h3 e2
      subst e3
      rw [Nat.eq_of_beq_eq_true e2] at hr
      exact vk_next (f' := (k, a, lc, sc)) (M' := M) (vk_st hc rfl) (hI 0 _ _ _ _ _ _ _ hr ρ _ M ⟨⟨rfl, rfl, hl, hst⟩, hrs⟩ hm hg)
    · have e3 := vq_isN h3 e2
      subst e3
      rw [Nat.eq_of_beq_eq_true e2] at hr
      exact vk_next (f' := (k, pc + 3, lc, sc)) (M' := M) (vk_st hc rfl) (hI 0 _ _ _ _ _ _ _ hr ρ _ M ⟨⟨rfl, rfl, hl, hst⟩, hrs⟩ hm hg)
  | [], _, _, hr => cases hr
theorem vq_o62 : vq_Op 62 := by
  intro L xs cm sm go hI rs h cnt nty ce sl sg k pc lv st a b c hr ρ gs M lc sc hc hrs hm hg hl hst
  exact vk_next (f' := (k, pc + 1, lc, .null :: sc)) (M' := M) (vk_st hc rfl) (hI 0 _ _ _ _ _ _ _ hr ρ _ M ⟨⟨rfl, rfl, hl, rfl, hst⟩, hrs⟩ hm hg)
theorem vq_o63 : vq_Op 63 := by
  intro L xs cm sm go hI rs h cnt nty ce sl sg k pc lv st a b c hr ρ gs M lc sc hc hrs hm hg hl hst
  match st, sc, hst, hr with
  | v :: st, w :: sc, ⟨h3, hst⟩, hr =>
    have hr : vi_oswitch vt_ts vt_td go rs h cnt nty ce sl sg k pc lv (v :: st) a b c = true := hr
    unfold vi_oswitch at hr
    dsimp only at hr
    obtain ⟨e1, hr⟩ := vz_and hr
    split at hr
    · rename_i r hv
      obtain ⟨e2, hr⟩ := vz_and hr
      obtain ⟨e2, e3⟩ := vz_and e2
      have e2 := Nat.le_of_ble_eq_true e2
      have e3 := Nat.le_of_ble_eq_true e3
      have hv' : vi_rng sg v = some r := by
        obtain ⟨v1, v2⟩ := v
        rw [show v1 = 1 from Nat.eq_of_beq_eq_true e1]
        exact hv
      obtain ⟨x, rfl, x2, x3, x4, -⟩ := vq_rng hg h3 hv'
      have hr := vb_all hr (vb_b x) x2 (by omega)
      have z : x = nI (vb_b x - 2147483648) := by
        have := vb_of x
        have e : (vb_b x + 2147483648) % 4294967296 = vb_b x - 2147483648 := by omega
        rw [e] at this
        exact this
      obtain ⟨n1, n2⟩ := vq_lt32 (u := vb_b x - 2147483648) (by omega)
      rw [← z] at n1 n2
      have q : vj_tsw vt_ts vt_td x = (match vi_nth vt_ts (vb_b x - 2147483648) with | some t => t | none => vt_td) := by
        unfold vj_tsw
        rw [if_neg n1, n2, vb_nth]
        cases vt_ts[vb_b x - 2147483648]? <;> rfl
      cases hn : vi_nth vt_ts (vb_b x - 2147483648) with
      | none =>
        rw [hn] at hr q
        exact vk_next (f' := (k, vt_td, lc, sc)) (M' := M) (vk_st hc (show vj_next k (vj_tsw vt_ts vt_td x) lc sc M = _ by rw [q]; rfl)) (hI 0 _ _ _ _ _ _ _ hr ρ _ M ⟨⟨rfl, rfl, hl, hst⟩, hrs⟩ hm (hg.one x4 e1))
      | some t =>
        rw [hn] at hr q
        exact vk_next (f' := (k, t, lc, sc)) (M' := M) (vk_st hc (show vj_next k (vj_tsw vt_ts vt_td x) lc sc M = _ by rw [q]; rfl)) (hI 0 _ _ _ _ _ _ _ hr ρ _ M ⟨⟨rfl, rfl, hl, hst⟩, hrs⟩ hm (hg.one x4 e1))
    · cases hr
  | [], _, _, hr => cases hr
end VR4
