/-! ===== the abstract walker is right ===== -/
section VR5
theorem vq_tg (cm sm op : Nat) (h : op ≤ 63) : vi_tg 6 (vi_opT vt_mi vt_anf vt_ts vt_td cm sm) op = vi_op vt_mi vt_anf vt_ts vt_td cm sm op := by
  match op, h with
  | 0, _ => rfl
  | 1, _ => rfl
  | 2, _ => rfl
  | 3, _ => rfl
  | 4, _ => rfl
  | 5, _ => rfl
  | 6, _ => rfl
  | 7, _ => rfl
  | 8, _ => rfl
  | 9, _ => rfl
  | 10, _ => rfl
  | 11, _ => rfl
  | 12, _ => rfl
  | 13, _ => rfl
  | 14, _ => rfl
  | 15, _ => rfl
  | 16, _ => rfl
  | 17, _ => rfl
  | 18, _ => rfl
  | 19, _ => rfl
  | 20, _ => rfl
  | 21, _ => rfl
  | 22, _ => rfl
  | 23, _ => rfl
  | 24, _ => rfl
  | 25, _ => rfl
  | 26, _ => rfl
  | 27, _ => rfl
  | 28, _ => rfl
  | 29, _ => rfl
  | 30, _ => rfl
  | 31, _ => rfl
  | 32, _ => rfl
  | 33, _ => rfl
  | 34, _ => rfl
  | 35, _ => rfl
  | 36, _ => rfl
  | 37, _ => rfl
  | 38, _ => rfl
  | 39, _ => rfl
  | 40, _ => rfl
  | 41, _ => rfl
  | 42, _ => rfl
  | 43, _ => rfl
  | 44, _ => rfl
  | 45, _ => rfl
  | 46, _ => rfl
  | 47, _ => rfl
  | 48, _ => rfl
  | 49, _ => rfl
  | 50, _ => rfl
  | 51, _ => rfl
  | 52, _ => rfl
  | 53, _ => rfl
  | 54, _ => rfl
  | 55, _ => rfl
  | 56, _ => rfl
  | 57, _ => rfl
  | 58, _ => rfl
  | 59, _ => rfl
  | 60, _ => rfl
  | 61, _ => rfl
  | 62, _ => rfl
  | 63, _ => rfl
  | n + 64, h => omega
theorem vq_all (op : Nat) (h : op ≤ 63) : vq_Op op := by
  match op, h with
  | 0, _ => exact vq_o0
  | 1, _ => exact vq_o1
  | 2, _ => exact vq_o2
  | 3, _ => exact vq_o3
  | 4, _ => exact vq_o4
  | 5, _ => exact vq_o5
  | 6, _ => exact vq_o6
  | 7, _ => exact vq_o7
  | 8, _ => exact vq_o8
  | 9, _ => exact vq_o9
  | 10, _ => exact vq_o10
  | 11, _ => exact vq_o11
  | 12, _ => exact vq_o12
  | 13, _ => exact vq_o13
  | 14, _ => exact vq_o14
  | 15, _ => exact vq_o15
  | 16, _ => exact vq_o16
  | 17, _ => exact vq_o17
  | 18, _ => exact vq_o18
  | 19, _ => exact vq_o19
  | 20, _ => exact vq_o20
  | 21, _ => exact vq_o21
  | 22, _ => exact vq_o22
  | 23, _ => exact vq_o23
  | 24, _ => exact vq_o24
  | 25, _ => exact vq_o25
  | 26, _ => exact vq_o26
  | 27, _ => exact vq_o27
  | 28, _ => exact vq_o28
  | 29, _ => exact vq_o29
  | 30, _ => exact vq_o30
  | 31, _ => exact vq_o31
  | 32, _ => exact vq_o32
  | 33, _ => exact vq_o33
  | 34, _ => exact vq_o34
  | 35, _ => exact vq_o35
  | 36, _ => exact vq_o36
  | 37, _ => exact vq_o37
  | 38, _ => exact vq_o38
  | 39, _ => exact vq_o39
  | 40, _ => exact vq_o40
  | 41, _ => exact vq_o41
  | 42, _ => exact vq_o42
  | 43, _ => exact vq_o43
  | 44, _ => exact vq_o44
  | 45, _ => exact vq_o45
  | 46, _ => exact vq_o46
  | 47, _ => exact vq_o47
  | 48, _ => exact vq_o48
  | 49, _ => exact vq_o49
  | 50, _ => exact vq_o50
  | 51, _ => exact vq_o51
  | 52, _ => exact vq_o52
  | 53, _ => exact vq_o53
  | 54, _ => exact vq_o54
  | 55, _ => exact vq_o55
  | 56, _ => exact vq_o56
  | 57, _ => exact vq_o57
  | 58, _ => exact vq_o58
  | 59, _ => exact vq_o59
  | 60, _ => exact vq_o60
  | 61, _ => exact vq_o61
  | 62, _ => exact vq_o62
  | 63, _ => exact vq_o63
  | n + 64, h => omega
theorem vb_hand (hs : List (Nat × Nat × Nat × Nat)) (pc e : Nat) : vi_hand hs pc e = vj_hand hs pc e := by
  induction hs with
  | nil => rfl
  | cons q hs ih =>
    show (bif and (and (Nat.ble q.1 pc) (Nat.ble (pc + 1) q.2.1)) (Nat.beq q.2.2.2 e) then some q.2.2.1 else vi_hand hs pc e) = if q.1 ≤ pc ∧ pc < q.2.1 ∧ q.2.2.2 = e then some q.2.2.1 else vj_hand hs pc e
    rw [ih]
    by_cases h : q.1 ≤ pc ∧ pc < q.2.1 ∧ q.2.2.2 = e
    · rw [if_pos h, Nat.ble_eq_true_of_le h.1, Nat.ble_eq_true_of_le (show pc + 1 ≤ q.2.1 from h.2.1), h.2.2, Nat.beq_refl]
      rfl
    · rw [if_neg h]
      cases z : and (and (Nat.ble q.1 pc) (Nat.ble (pc + 1) q.2.1)) (Nat.beq q.2.2.2 e) with
      | false => rfl
      | true =>
        obtain ⟨z1, z2⟩ := vz_and z
        obtain ⟨z1, z3⟩ := vz_and z1
        exact absurd ⟨Nat.le_of_ble_eq_true z1, Nat.le_of_ble_eq_true z3, Nat.eq_of_beq_eq_true z2⟩ h
theorem vq_step {L : Nat} {xs : Nat → Int32} {cm sm : Nat} {go : vi_K} (hI : vq_go L xs cm sm go) : vq_go L xs cm sm (vi_step vt_mi vt_anf vt_ts vt_td cm sm vt_code go) := by
  intro x fs h cnt nty ce sl sg hr ρ gs M hf hm hg
  match fs, gs, hr, hf with
  | [], _, hr, _ => cases hr
  | (k, pc, lv, st) :: rs, (k2, pc2, lc, sc) :: gs, hr, hf =>
    obtain ⟨⟨f1, f2, f3, f4⟩, hrs⟩ := hf
    have f1 : k = k2 := f1
    have f2 : pc = pc2 := f2
    subst f1
    subst f2
    match x, hr with
    | 0, hr =>
      rcases vi_bif (show (bif Nat.ble (vt_code k pc).1 63 then vi_tg 6 (vi_opT vt_mi vt_anf vt_ts vt_td cm sm) (vt_code k pc).1 go rs h cnt nty ce sl sg k pc lv st (vt_code k pc).2.1 (vt_code k pc).2.2.1 (vt_code k pc).2.2.2 else false) = true from hr) with ⟨e, hr⟩ | ⟨-, hr⟩
      · have e := Nat.le_of_ble_eq_true e
        rw [vq_tg cm sm _ e] at hr
        exact vq_all _ e L xs cm sm go hI rs h cnt nty ce sl sg k pc lv st _ _ _ hr ρ gs M lc sc rfl hrs hm hg f3 f4
      · cases hr
    | e + 1, hr =>
      obtain ⟨e1, hr⟩ := vz_and (show and (not (Nat.beq (vt_code k pc).1 28)) (match (vt_mi k).2.2.2.2.2.2 with
        | [] => go (e + 1) rs h cnt nty ce sl sg
        | q :: hs => (match vi_hand (q :: hs) pc e with
          | some t => and (Nat.beq (vt_code k t).1 4) (go 0 ((k, t + (vt_code k t).2.2.1, vi_lclr lv (vt_code k t).2.1, []) :: rs) h cnt nty ce sl sg)
          | none => false)) = true from hr)
      have n28 : ¬ (vt_code k pc).1 = 28 := fun q => by rw [q] at e1; cases e1
      show (match vj_catch vt_mi vt_code (k, pc, lc, sc) e with
        | some (some g') => ∃ n r M', vr_run L xs n g' M = some (r, M') ∧ vk_K L xs cm sm gs r M'
        | some none => vk_K L xs cm sm gs (.inr e) M
        | none => False)
      have hc : vj_catch vt_mi vt_code (k, pc, lc, sc) e = (match (vt_mi k).2.2.2.2.2.2 with
        | [] => some none
        | q :: hs => match vj_hand (q :: hs) pc e with
          | some t => if (vt_code k t).1 = 4 then some (some (k, t + (vt_code k t).2.2.1, vj_lclr lc (vt_code k t).2.1, [])) else none
          | none => none) := by
        unfold vj_catch
        exact if_neg n28
      cases hh : (vt_mi k).2.2.2.2.2.2 with
      | nil =>
        rw [hh] at hr hc
        rw [hc]
        exact hI (e + 1) _ _ _ _ _ _ _ hr ρ gs M hrs hm hg
      | cons q hs =>
        rw [hh] at hr hc
        have hr : (match vi_hand (q :: hs) pc e with
          | some t => and (Nat.beq (vt_code k t).1 4) (go 0 ((k, t + (vt_code k t).2.2.1, vi_lclr lv (vt_code k t).2.1, []) :: rs) h cnt nty ce sl sg)
          | none => false) = true := hr
        have hc : vj_catch vt_mi vt_code (k, pc, lc, sc) e = (match vj_hand (q :: hs) pc e with
          | some t => if (vt_code k t).1 = 4 then some (some (k, t + (vt_code k t).2.2.1, vj_lclr lc (vt_code k t).2.1, [])) else none
          | none => none) := hc
        rw [vb_hand] at hr
        cases ht : vj_hand (q :: hs) pc e with
        | none => rw [ht] at hr; cases hr
        | some t =>
          rw [ht] at hr hc
          obtain ⟨e2, hr⟩ := vz_and hr
          have hc : vj_catch vt_mi vt_code (k, pc, lc, sc) e = (if (vt_code k t).1 = 4 then some (some (k, t + (vt_code k t).2.2.1, vj_lclr lc (vt_code k t).2.1, [])) else none) := hc
          rw [if_pos (Nat.eq_of_beq_eq_true e2)] at hc
          rw [hc]
          exact hI 0 _ _ _ _ _ _ _ hr ρ ((k, t + (vt_code k t).2.2.1, vj_lclr lc (vt_code k t).2.1, []) :: gs) M ⟨⟨rfl, rfl, f3.lclr _, trivial⟩, hrs⟩ hm hg
/-- the walk to a place where another walk goes on -/
noncomputable def vi_runB (cm sm : Nat) (go0 : vi_K) (n : Nat) : vi_K := Nat.rec (motive := fun _ => vi_K) go0 (fun _ go => vi_step vt_mi vt_anf vt_ts vt_td cm sm vt_code go) n
theorem vq_runB {L : Nat} {xs : Nat → Int32} {cm sm : Nat} {go0 : vi_K} (h0 : vq_go L xs cm sm go0) : ∀ n, vq_go L xs cm sm (vi_runB cm sm go0 n)
  | 0 => h0
  | n + 1 => vq_step (vq_runB h0 n)
end VR5
