/-! ===== the start state: what the checked heap says; the law from its entry ===== -/
section VW33
def vs_R (k : Nat) : List Int := List.replicate (vs_L0 k) 0
def vs_V (k i : Nat) : Int := match k with
  | 0 => if i = 0 then 1 else 0
  | 2 => if i = 0 then 1 else 0
  | 3 => -1
  | 5 => -1
  | 8 => -1
  | 9 => -1
  | _ => 0
def vs_S0 : vw_S := (fun k _ => vs_R k, vs_V)
theorem vs_Rk : vs_R 0 = [] ∧ vs_R 1 = [0, 0, 0, 0, 0, 0] ∧ vs_R 2 = [] ∧ vs_R 3 = [] ∧ vs_R 4 = [] ∧ vs_R 6 = [] ∧ vs_R 7 = [] ∧ vs_R 12 = [] ∧ vs_R 13 = [] ∧ vs_R 14 = [] ∧ (vs_R 9).length = 36 := by decide +kernel
theorem vs_Lc : ∀ k, k < 22 → vs_L0 k ≤ vw_cap k := by decide +kernel
theorem vs_i0 : nI 0 = jI 0 := jI_nat 0
theorem vs_i1 : nI 1 = jI 1 := jI_nat 1
theorem vs_im : nI 4294967295 = jI (-1) := by decide +kernel
/-- what a known value is -/
def vs_v (a : vi_V) : Value := match a.1 with
  | 0 => .int (nI a.2)
  | 2 => .ref (a.2 + 8)
  | _ => .ref (a.2 + 1)
def vs_t (a : vi_V) : Bool := or (Nat.beq a.1 0) (or (Nat.beq a.1 2) (Nat.beq a.1 7))
theorem vs_v1 {L : Nat} {ρ : List Int32} {a : vi_V} {v : Value} (h : vq_r L ρ a v) (g : vs_t a = true) : v = vs_v a := by
  obtain ⟨t, u⟩ := a
  rcases vz_or g with e | e
  · have e : t = 0 := Nat.eq_of_beq_eq_true e
    subst e
    exact h
  · rcases vz_or e with e | e
    · have e : t = 2 := Nat.eq_of_beq_eq_true e
      subst e
      exact h
    · have e : t = 7 := Nat.eq_of_beq_eq_true e
      subst e
      exact h.1
theorem vs_map {L : Nat} {ρ : List Int32} : ∀ (l : List vi_V) (fs : List Value), vq_l (vq_r L ρ) l fs → l.all vs_t = true → fs = l.map vs_v
  | [], [], _, _ => rfl
  | a :: l, v :: fs, h, g => by
    obtain ⟨g1, g2⟩ := vz_and (show and (vs_t a) (l.all vs_t) = true from g)
    rw [vs_v1 h.1 g1, vs_map l fs h.2 g2]
    rfl
  | [], _ :: _, h, _ => h.elim
  | _ :: _, [], h, _ => h.elim
section
variable {L : Nat} {ρ : List Int32} {h : vi_H} {nty ce sl : Nat} {M : vj_M}
/-- an object that was checked -/
theorem vs_ob (hm : vq_m L ρ h 803 nty ce sl M) {a q ci : Nat} {l : List vi_V} (ha : a + 8 = q) (h1 : a < 803) (hb : vs_o (vi_tg 11 h a) ci l = true) (g : l.all vs_t = true) : M.1 q = .inr (ci, l.map vs_v) := by
  subst ha
  have hc := hm.2.2.2.2.2 a h1
  generalize vi_tg 11 h a = c at hb hc
  generalize M.1 (a + 8) = d at hc
  cases c with
  | inr o =>
    have hb : false = true := hb
    cases hb
  | inl o =>
    obtain ⟨b1, b2⟩ := vz_and (show and (Nat.beq o.1 ci) (decide (o.2 = l)) = true from hb)
    have b1 := Nat.eq_of_beq_eq_true b1
    have b2 : o.2 = l := vz_dec b2
    cases d with
    | inl z => exact (show False from hc).elim
    | inr z =>
      obtain ⟨z1, z2⟩ := z
      obtain ⟨c1, c2⟩ := hc
      have c1 : o.1 = z1 := c1
      have c2 : vq_l (vq_r L ρ) o.2 z2 := c2
      rw [b2] at c2
      rw [vs_map l z2 c2 g, ← c1, b1]
/-- an array that was checked -/
theorem vs_ar (hm : vq_m L ρ h 803 nty ce sl M) {a q ty n m : Nat} {v : Nat → vi_V} (ha : a + 8 = q) (h1 : a < 803) (hb : vs_a (vi_tg 11 h a) ty n m v = true) (hmn : m ≤ n) : ∃ t x, M.1 q = .inl (t, ty, n, x) ∧ vq_k ty x ∧ ∀ j, j < m → vq_r L ρ (v j) (vq_el x j) := by
  subst ha
  have hc := hm.2.2.2.2.2 a h1
  generalize vi_tg 11 h a = c at hb hc
  generalize M.1 (a + 8) = d at hc
  cases c with
  | inl o =>
    have hb : false = true := hb
    cases hb
  | inr o =>
    obtain ⟨b1, b2⟩ := vz_and (show and (Nat.beq o.2.1 ty) (and (Nat.beq o.2.2.1 n) (vi_all 0 m (fun j => decide (vi_tg 14 o.2.2.2 j = v j)))) = true from hb)
    obtain ⟨b2, b3⟩ := vz_and b2
    have b1 := Nat.eq_of_beq_eq_true b1
    have b2 := Nat.eq_of_beq_eq_true b2
    cases d with
    | inr z => exact (show False from hc).elim
    | inl z =>
      obtain ⟨z1, z2, z3, z4⟩ := z
      obtain ⟨c1, c2, c3, c4, c5, c6⟩ := hc
      have c2 : o.2.1 = z2 := c2
      have c3 : o.2.2.1 = z3 := c3
      have c5 : vq_k o.2.1 z4 := c5
      have c6 : ∀ j, j < o.2.2.1 → vq_r L ρ (vi_tg 14 o.2.2.2 j) (vq_el z4 j) := c6
      subst b1
      subst b2
      refine ⟨z1, z4, by rw [c2, c3], c5, fun j hj => ?_⟩
      have e : vi_tg 14 o.2.2.2 j = v j := vz_dec (vb_all b3 j (Nat.zero_le _) (by omega))
      rw [← e]
      exact c6 j (by omega)
theorem vs_rf {o : Option Nat} {q : Nat} (h : va_rf o = .ref q) : o = some q := by
  cases o with
  | none => cases h
  | some a => cases h; rfl
/-- an array of references that was checked -/
theorem vs_ra (hm : vq_m L ρ h 803 nty ce sl M) {a q c n : Nat} {v : Nat → Nat} (ha : a + 8 = q) (h1 : a < 803) (hb : vs_a (vi_tg 11 h a) (c + 4) n n (fun j => (2, v j - 8)) = true) (hv : ∀ j, j < n → 8 ≤ v j) : ∃ t g, M.1 q = .inl (t, c + 4, n, .inr (.inr (.inr (.inr g)))) ∧ ∀ j, j < n → g j = some (v j) := by
  obtain ⟨t, x, e1, e2, e3⟩ := vs_ar hm ha h1 hb (Nat.le_refl _)
  have e2 : ∃ f, x = .inr (.inr (.inr (.inr f))) := e2
  obtain ⟨g, e2⟩ := e2
  subst e2
  refine ⟨t, g, e1, fun j hj => vs_rf ?_⟩
  have e4 : va_rf (g j) = .ref (v j - 8 + 8) := e3 j hj
  rw [e4, Nat.sub_add_cancel (hv j hj)]
theorem vs_V01 (k i : Nat) : vs_V k i = 0 ∨ vs_V k i = 1 ∨ vs_V k i = -1 := by
  generalize hx : vs_V k i = x
  unfold vs_V at hx
  split at hx
  all_goals first | omega | (split at hx <;> omega)
theorem vs_nm : vw_nm vs_V := by
  refine ⟨fun k i => ?_, fun d => ?_, fun i => ?_, fun d => Or.inl rfl⟩
  · rcases vs_V01 k i with e | e | e <;> rw [e] <;> exact ⟨by decide, by decide⟩
  · show (0 : Int) ≤ 0 ∧ (0 : Int) < 5
    decide
  · show (if i = 0 then (1 : Int) else 0) = 0 ∨ (if i = 0 then (1 : Int) else 0) = 1
    by_cases e : i = 0
    · rw [if_pos e]; exact Or.inr rfl
    · rw [if_neg e]; exact Or.inl rfl
theorem vs_un8 {a : Nat} (h : 8 ≤ a) : a - 8 + 8 = a := Nat.sub_add_cancel h
theorem vs_d1 (d : Nat) : (vs_fd d).map vs_v = vw_fd vs_V d := by
  have e1 : nI (if d = 120 then 4294967295 else d) = jI (if d = 120 then -1 else (d : Int)) := by
    by_cases e : d = 120
    · rw [if_pos e, if_pos e]; exact vs_im
    · rw [if_neg e, if_neg e]; exact jI_nat d
  have e5 : vw_rr 5 d - 8 + 8 = vw_rr 5 d := by
    show (if d = 120 then 12 else 23 + 5 * d) - 8 + 8 = (if d = 120 then 12 else 23 + 5 * d)
    split <;> omega
  have e6 : vw_rr 6 d - 8 + 8 = vw_rr 6 d := by
    show (if d = 120 then 14 else 25 + 5 * d) - 8 + 8 = (if d = 120 then 14 else 25 + 5 * d)
    split <;> omega
  show [Value.int (nI (if d = 120 then 4294967295 else d)), Value.ref (0 + 1), Value.int (nI 4294967295), Value.int (nI 0), Value.int (nI 0), Value.int (nI 4294967295), Value.int (nI 4294967295), Value.int (nI 0), Value.int (nI 0), Value.ref (vw_rr 5 d - 8 + 8), Value.ref (vw_rr 6 d - 8 + 8)] = [Value.int (jI (if d = 120 then -1 else (d : Int))), Value.ref ((0 : Int).toNat + 1), Value.int (jI (-1)), Value.int (jI 0), Value.int (jI 0), Value.int (jI (-1)), Value.int (jI (-1)), Value.int (jI 0), Value.int (jI 0), Value.ref (vw_rr 5 d), Value.ref (vw_rr 6 d)]
  rw [e1, e5, e6, vs_im, vs_i0]
  rfl
theorem vs_c1 (i : Nat) : (vs_fc i).map vs_v = vw_fc vs_V i := by
  have e1 : nI (if i = 0 then 1 else 0) = jI (if i = 0 then 1 else 0) := by
    by_cases e : i = 0
    · rw [if_pos e, if_pos e]; exact vs_i1
    · rw [if_neg e, if_neg e]; exact vs_i0
  have r0 : vw_rr 0 i - 8 + 8 = vw_rr 0 i := vs_un8 (by show 8 ≤ 674 + 11 * i; omega)
  have r1 : vw_rr 1 i - 8 + 8 = vw_rr 1 i := vs_un8 (by show 8 ≤ 676 + 11 * i; omega)
  have r2 : vw_rr 2 i - 8 + 8 = vw_rr 2 i := vs_un8 (by show 8 ≤ 678 + 11 * i; omega)
  have r3 : vw_rr 3 i - 8 + 8 = vw_rr 3 i := vs_un8 (by show 8 ≤ 680 + 11 * i; omega)
  have r4 : vw_rr 4 i - 8 + 8 = vw_rr 4 i := vs_un8 (by show 8 ≤ 682 + 11 * i; omega)
  show [Value.int (nI (if i = 0 then 1 else 0)), Value.int (nI 4294967295), Value.ref (vw_rr 0 i - 8 + 8), Value.ref (vw_rr 1 i - 8 + 8), Value.ref (vw_rr 2 i - 8 + 8), Value.ref (vw_rr 3 i - 8 + 8), Value.ref (vw_rr 4 i - 8 + 8)] = [Value.int (jI (if i = 0 then 1 else 0)), Value.int (jI (-1)), Value.ref (vw_rr 0 i), Value.ref (vw_rr 1 i), Value.ref (vw_rr 2 i), Value.ref (vw_rr 3 i), Value.ref (vw_rr 4 i)]
  rw [e1, r0, r1, r2, r3, r4, vs_im]
theorem vs_w1 (i : Nat) : (vs_fv i).map vs_v = vw_fv i := by
  have r0 : vw_rr 15 i - 8 + 8 = vw_rr 15 i := vs_un8 (by show 8 ≤ 642 + 15 * i; omega)
  have r1 : vw_rr 16 i - 8 + 8 = vw_rr 16 i := vs_un8 (by show 8 ≤ 644 + 15 * i; omega)
  have r2 : vw_rr 17 i - 8 + 8 = vw_rr 17 i := vs_un8 (by show 8 ≤ 646 + 15 * i; omega)
  have r3 : vw_rr 18 i - 8 + 8 = vw_rr 18 i := vs_un8 (by show 8 ≤ 648 + 15 * i; omega)
  have r4 : vw_rr 19 i - 8 + 8 = vw_rr 19 i := vs_un8 (by show 8 ≤ 650 + 15 * i; omega)
  have r5 : vw_rr 20 i - 8 + 8 = vw_rr 20 i := vs_un8 (by show 8 ≤ 652 + 15 * i; omega)
  have r6 : vw_rr 21 i - 8 + 8 = vw_rr 21 i := vs_un8 (by show 8 ≤ 654 + 15 * i; omega)
  show [Value.ref (vw_rr 15 i - 8 + 8), Value.ref (vw_rr 16 i - 8 + 8), Value.ref (vw_rr 17 i - 8 + 8), Value.ref (vw_rr 18 i - 8 + 8), Value.ref (vw_rr 19 i - 8 + 8), Value.ref (vw_rr 20 i - 8 + 8), Value.ref (vw_rr 21 i - 8 + 8)] = [Value.ref (vw_rr 15 i), Value.ref (vw_rr 16 i), Value.ref (vw_rr 17 i), Value.ref (vw_rr 18 i), Value.ref (vw_rr 19 i), Value.ref (vw_rr 20 i), Value.ref (vw_rr 21 i)]
  rw [r0, r1, r2, r3, r4, r5, r6]
theorem vs_m1 : vs_fm.map vs_v = vw_fm vs_V := by
  show [Value.ref 9, Value.ref 622, Value.ref 623, Value.ref 624, Value.ref 626, Value.ref 628, Value.ref 639, Value.ref 641, Value.ref 656, Value.ref 671, Value.int (nI 1)] = [Value.ref 9, Value.ref 622, Value.ref 623, Value.ref 624, Value.ref 626, Value.ref 628, Value.ref 639, Value.ref 641, Value.ref 656, Value.ref 671, Value.int (jI 1)]
  rw [vs_i1]
theorem vs_h1 : vs_fh.map vs_v = vw_fh vs_V := by
  show [Value.ref 10, Value.ref 11, Value.int (nI 0), Value.ref 16, Value.ref 18, Value.ref 20] = [Value.ref 10, Value.ref 11, Value.int (jI 0), Value.ref 16, Value.ref 18, Value.ref 20]
  rw [vs_i0]
/-- the checked heap is the start state's -/
theorem vs_rep (hm : vq_m L ρ h 803 nty ce sl M) (hc : vs_ck h = true) : vw_rep vs_S0 M := by
  unfold vs_ck at hc
  obtain ⟨c1, hc⟩ := vz_and hc
  obtain ⟨c2, hc⟩ := vz_and hc
  obtain ⟨c3, hc⟩ := vz_and hc
  obtain ⟨c4, hc⟩ := vz_and hc
  obtain ⟨c5, hc⟩ := vz_and hc
  obtain ⟨c6, hc⟩ := vz_and hc
  obtain ⟨c7, hc⟩ := vz_and hc
  obtain ⟨c8, c9⟩ := vz_and hc
  have hdr : ∀ d, d ≤ 120 → 8 ≤ vw_dr d ∧ vw_dr d < 811 := by
    intro d hd
    unfold vw_dr
    split <;> omega
  refine ⟨hm.1, fun k i hk => ?_, fun d hd => ?_, fun i hi => ?_, fun i hi => ?_, ?_, ?_, ?_, ?_, ?_, vs_nm⟩
  · have hr := vw_row hk
    have hr1 := hr.2.2.1
    have hr2 := hr.2.2.2
    have hL := vs_Lc k hk.1
    have b := vb_all (vb_all c1 k (Nat.zero_le _) (by have := hk.1; omega)) i (Nat.zero_le _) (by have := hk.2; omega)
    obtain ⟨b1, b2⟩ := vz_and b
    have e1 := vs_ob hm (q := vw_rr k i) (vs_un8 hr1) (by omega) b1 rfl
    obtain ⟨t, x, e2, e3, e4⟩ := vs_ar hm (q := vw_rr k i + 1) (by omega) (by omega) b2 hL
    have e3 : ∃ f, x = .inl f := e3
    obtain ⟨f, e3⟩ := e3
    subst e3
    refine ⟨⟨t, f, e2, fun j z hz => ?_⟩, ?_, ?_⟩
    · have hz : (List.replicate (vs_L0 k) (0 : Int))[j]? = some z := hz
      rw [List.getElem?_replicate] at hz
      by_cases hj : j < vs_L0 k
      · rw [if_pos hj] at hz
        have hz := Option.some.inj hz
        subst hz
        have e5 : Value.int (f j) = .int (nI 0) := e4 j hj
        have e6 : f j = nI 0 := Value.int.inj e5
        exact ⟨⟨by decide, by decide⟩, e6.trans vs_i0⟩
      · rw [if_neg hj] at hz
        cases hz
    · refine e1.trans ?_
      show (Sum.inr (3, [Value.ref (vw_rr k i - 7 + 8), Value.int (nI (vs_L0 k))]) : vj_C) = Sum.inr (3, [Value.ref (vw_rr k i + 1), Value.int (jI ((List.replicate (vs_L0 k) (0 : Int)).length : Int))])
      rw [List.length_replicate, ← jI_nat, show vw_rr k i - 7 + 8 = vw_rr k i + 1 by omega]
    · show (List.replicate (vs_L0 k) (0 : Int)).length ≤ _
      rw [List.length_replicate]
      exact hL
  · have h8 := hdr d hd
    have b := vb_all c2 d (Nat.zero_le _) (by omega)
    refine (vs_ob hm (q := vw_dr d) (vs_un8 h8.1) (by omega) b rfl).trans ?_
    rw [vs_d1]
    rfl
  · have b := vb_all c3 i (Nat.zero_le _) (by omega)
    refine (vs_ob hm (q := vw_cr i) (vs_un8 (by unfold vw_cr; omega)) (by unfold vw_cr; omega) b rfl).trans ?_
    rw [vs_c1]
    rfl
  · have b := vb_all c4 i (Nat.zero_le _) (by omega)
    refine (vs_ob hm (q := vw_vr i) (vs_un8 (by unfold vw_vr; omega)) (by unfold vw_vr; omega) b rfl).trans ?_
    rw [vs_w1]
  · refine (vs_ob hm (q := 8) rfl (by omega) c5 rfl).trans ?_
    rw [vs_m1]
    rfl
  · refine (vs_ob hm (q := 9) rfl (by omega) c6 rfl).trans ?_
    rw [vs_h1]
    rfl
  · exact vs_ra hm (q := 10) (c := 2) (v := vw_dr) rfl (by omega) c7 (fun j hj => (hdr j (by omega)).1)
  · exact vs_ra hm (q := 622) (c := 1) (v := vw_cr) rfl (by omega) c8 (fun j hj => by unfold vw_cr; omega)
  · exact vs_ra hm (q := 623) (c := 3) (v := vw_rr 7) rfl (by omega) c9 (fun j hj => by show 8 ≤ 739 + 2 * j; omega)
end
theorem vs_at0 (a : Nat) (h : a < 6) : vl_at [0, 0, 0, 0, 0, 0] (a : Int) = 0 := by
  match a, h with
  | 0, _ => rfl
  | 1, _ => rfl
  | 2, _ => rfl
  | 3, _ => rfl
  | 4, _ => rfl
  | 5, _ => rfl
  | n + 6, h => omega
theorem vs_no {P : Prop} {d : Nat} (h : (d : Int) < 0) : P := absurd h (by omega)
theorem vs_ni {A : Type} {x : A} {P : Prop} (h : x ∈ ([] : List A)) : P := absurd h List.not_mem_nil
/-- what always holds, holds at the start -/
theorem vs_I : vI vs_S0 := by
  obtain ⟨r0, r1, r2, r3, r4, r6, r7, r12, r13, r14, r9⟩ := vs_Rk
  refine ⟨⟨?_, fun i _ => ?_, fun p _ => ?_, ?_, r9⟩, ?_, fun i _ => ?_⟩
  · show vK 0 1 (fun _ => -1) (fun _ => 0) (fun _ => vs_R 6) (fun _ => vs_R 0) (fun _ => vs_R 1) (fun _ => vs_R 2)
    rw [r6, r0, r1, r2]
    refine ⟨⟨by decide, by decide⟩, ⟨by decide, by decide⟩, fun d hd => vs_no hd, fun d d' hd => vs_no hd, fun i hi => ⟨rfl, fun a ha => ?_, fun _ => ⟨rfl, fun a ha => vs_at0 a ha⟩⟩, fun i hi => ⟨List.nodup_nil, fun x hx => vs_ni hx, fun d hd => vs_no hd, (by decide +kernel : ((([] : List Int).length : Nat) : Int) = vk_sum [0, 0, 0, 0, 0, 0] 6), fun j d hj => ?_⟩, ⟨fun d hd => vs_no hd, fun a ha m h1 h2 => ?_⟩, fun i hi => ⟨List.nodup_nil, fun x hx => vs_ni hx⟩⟩
    · rw [vs_at0 a ha]
      exact ⟨Int.le_refl _, Int.le_refl _⟩
    · have hj : ([] : List Int)[j]? = some (d : Int) := hj
      simp at hj
    · have h2 : m ≤ vl_at [0, 0, 0, 0, 0, 0] (a : Int) := h2
      rw [vs_at0 a ha] at h2
      omega
  · show vRd (fun _ => vs_R 6) (vs_R 1) (vs_R 2)
    rw [r2]
    exact fun x hx => vs_ni hx
  · show ∀ x ∈ vs_R 7, _
    rw [r7]
    exact fun x hx => vs_ni hx
  · refine ⟨fun i _ h => ?_, 0, by decide, rfl⟩
    have h : (if i = 0 then (1 : Int) else 0) = 1 := h
    by_cases e : i = 0
    · subst e; decide
    · rw [if_neg e] at h; cases h
  · show vC 0 (vs_R 12) (vs_R 13) (vs_R 14)
    rw [r12, r13, r14]
    exact ⟨rfl, rfl, by decide, fun x hx => vs_ni hx, fun x hx => vs_ni hx, fun x hx => vs_ni hx, fun x h1 h2 => by have h2 : x < 0 := h2; omega⟩
  · show (vs_R 3).length + (vs_R 4).length ≤ 8
    rw [r3, r4]
    decide
theorem vs_lc {A : Type} {n : Nat} : ∀ {l : List A}, l.length = n + 1 → ∃ a r, l = a :: r ∧ r.length = n
  | a :: r, h => ⟨a, r, rfl, Nat.succ.inj h⟩
  | [], h => absurd h (by simp)
theorem vs_l8 {A : Type} {l : List A} (h : l.length = 8) : ∃ a b c d e f g i, l = [a, b, c, d, e, f, g, i] := by
  obtain ⟨a, l1, e1, h1⟩ := vs_lc h
  obtain ⟨b, l2, e2, h2⟩ := vs_lc h1
  obtain ⟨c, l3, e3, h3⟩ := vs_lc h2
  obtain ⟨d, l4, e4, h4⟩ := vs_lc h3
  obtain ⟨e, l5, e5, h5⟩ := vs_lc h4
  obtain ⟨f, l6, e6, h6⟩ := vs_lc h5
  obtain ⟨g, l7, e7, h7⟩ := vs_lc h6
  obtain ⟨i, l8, e8, h8⟩ := vs_lc h7
  have e9 := List.eq_nil_of_length_eq_zero h8
  exact ⟨a, b, c, d, e, f, g, i, by rw [e1, e2, e3, e4, e5, e6, e7, e8, e9]⟩
/-- where the walk of the constructor ends, the law goes on -/
theorem vs_gog {L : Nat} {xs : Nat → Int32} (hL : L ≤ 1000) : vq_go L xs 600086 7301442 vs_go0 := by
  intro x fs h cnt nty ce sl sg hr ρ gs M hf hm hg
  unfold vs_go0 at hr
  obtain ⟨e0, hr⟩ := vz_and hr
  have e0 := Nat.eq_of_beq_eq_true e0
  subst e0
  show vk_OK L xs 600086 7301442 gs M
  cases fs with
  | nil =>
    have hr : false = true := hr
    cases hr
  | cons f rs =>
    cases rs with
    | cons f2 rs2 =>
      have hr : false = true := hr
      cases hr
    | nil =>
      obtain ⟨k1, hr⟩ := vz_and (show and (Nat.beq f.1 128) (and (Nat.beq f.2.1 7) (and (decide (f.2.2.1 = [some (9, 0), none, none, none, none, none, none, none])) (and (decide (f.2.2.2 = [(2, 0)])) (and (Nat.beq cnt 803) (and (Nat.ble ce 600086) (and (Nat.ble sl 7301442) (vs_ck h))))))) = true from hr)
      obtain ⟨k2, hr⟩ := vz_and hr
      obtain ⟨k3, hr⟩ := vz_and hr
      obtain ⟨k4, hr⟩ := vz_and hr
      obtain ⟨k5, hr⟩ := vz_and hr
      obtain ⟨k6, hr⟩ := vz_and hr
      obtain ⟨k7, hck⟩ := vz_and hr
      have k1 := Nat.eq_of_beq_eq_true k1
      have k2 := Nat.eq_of_beq_eq_true k2
      have k3 : f.2.2.1 = [some (9, 0), none, none, none, none, none, none, none] := vz_dec k3
      have k4 : f.2.2.2 = [(2, 0)] := vz_dec k4
      have k5 := Nat.eq_of_beq_eq_true k5
      have k6 := Nat.le_of_ble_eq_true k6
      have k7 := Nat.le_of_ble_eq_true k7
      subst k5
      cases gs with
      | nil => exact hf.elim
      | cons g gs2 =>
        cases gs2 with
        | cons g2 gs3 => exact (show False from hf.2).elim
        | nil =>
          obtain ⟨⟨f1, f2, f3, f4⟩, -⟩ := hf
          obtain ⟨gk, gp, lc, sc⟩ := g
          have a1 : gk = 128 := (show f.1 = gk from f1).symm.trans k1
          have a2 : gp = 7 := (show f.2.1 = gp from f2).symm.trans k2
          have a3 : vq_w (vq_r L ρ) [some (9, 0), none, none, none, none, none, none, none] lc := by
            rw [← k3]; exact f3
          have a4 : vq_l (vq_r L ρ) [(2, 0)] sc := by
            rw [← k4]; exact f4
          clear f1 f2 f3 f4
          have hlen : lc.length = 8 := a3.1.symm
          obtain ⟨v0, v1, v2, v3, v4, v5, v6, v7, b0⟩ := vs_l8 hlen
          obtain ⟨v, g1, g2⟩ := a3.2 0 (9, 0) rfl
          rw [b0] at g1
          have g3 : v0 = some v := g1
          have g4 : v = .ref 0 := g2
          rw [g4] at g3
          rw [g3] at b0
          cases sc with
          | nil => exact (show False from a4).elim
          | cons w sc2 =>
            cases sc2 with
            | cons w2 sc3 => exact (show False from a4.2).elim
            | nil =>
              have f5 : w = .ref 8 := a4.1
              rw [a1, a2, b0, f5]
              have hrep : vw_rep vs_S0 M := vs_rep hm hck
              have hlaw : vW vw_rep L xs (128, 7, [some (.ref 0), v1, v2, v3, v4, v5, v6, v7], [.ref 8]) vs_S0 (fun v _ => v = [.int (jI 1)]) := m_law7 hL vs_I (fun _ => rfl)
              obtain ⟨n, v, M', σ', p1, p2, p3, p4⟩ := hlaw M hrep
              refine ⟨n, .inl v, M', p1, ?_, ?_, ?_⟩
              · rw [p4, ← vs_i1]; rfl
              · rw [p3, hm.2.2.1]; exact k6
              · rw [p3, hm.2.2.2.1]; exact k7
/-- from its entry, for every script, the law comes to its end with 1, in its room -/
theorem vs_any (L : Nat) (hL : L ≤ 1000) (xs : Nat → Int32) : ∃ n M', vr_run L xs n (vt_law, 0, vj_args 8 [.ref 0], []) vl_M0 = some (.inl [.int 1], M') ∧ M'.2.2.2.1 ≤ 600086 ∧ M'.2.2.2.2 ≤ 7301442 := by
  have hf : ∀ x : Int32, (0 : Nat) ≤ vb_b x ∧ vb_b x ≤ 4294967295 := fun x => ⟨Nat.zero_le _, by have := vb_b_lt x; omega⟩
  have hg : vq_g L xs [xs 0, xs 1, xs 2, xs 3, xs 4, xs 5, xs 0 &&& 63] vs_sg := by
    refine ⟨rfl, fun k r hk => ?_, fun j hj => ?_, rfl⟩
    · match k, hk with
      | 0, hk => cases hk; exact ⟨_, rfl, hf _⟩
      | 1, hk => cases hk; exact ⟨_, rfl, hf _⟩
      | 2, hk => cases hk; exact ⟨_, rfl, hf _⟩
      | 3, hk => cases hk; exact ⟨_, rfl, hf _⟩
      | 4, hk => cases hk; exact ⟨_, rfl, hf _⟩
      | 5, hk => cases hk; exact ⟨_, rfl, hf _⟩
      | 6, hk => cases hk; exact ⟨_, rfl, hf _⟩
      | _ + 7, hk => cases hk
    · match j, hj with
      | 0, _ => rfl
      | 1, _ => rfl
      | 2, _ => rfl
      | 3, _ => rfl
      | 4, _ => rfl
      | 5, _ => rfl
      | n + 6, h => omega
  have hm : vq_m L [xs 0, xs 1, xs 2, xs 3, xs 4, xs 5, xs 0 &&& 63] (vi_tf 11 (.inl (0, []))) 0 0 0 0 vl_M0 := ⟨rfl, rfl, rfl, rfl, by omega, fun i h => by omega⟩
  have hl : vq_w (vq_r L [xs 0, xs 1, xs 2, xs 3, xs 4, xs 5, xs 0 &&& 63]) [some (9, 0), none, none, none, none, none, none, none] (vj_args 8 [.ref 0]) := by
    have := vq_args (L := L) (ρ := [xs 0, xs 1, xs 2, xs 3, xs 4, xs 5, xs 0 &&& 63]) (vs := [(9, 0)]) (ws := [.ref 0]) ⟨rfl, trivial⟩ 8
    exact this
  have q : vk_OK L xs 600086 7301442 [(128, 0, vj_args 8 [.ref 0], [])] vl_M0 := vq_runB (vs_gog hL) 13452 0 _ _ _ _ _ _ _ vs_walk _ _ _ ⟨⟨rfl, rfl, hl, trivial⟩, trivial⟩ hm hg
  obtain ⟨n, r, M', q1, q2⟩ := q
  match r, q1, q2 with
  | .inl v, q1, ⟨q2, q3⟩ =>
    rw [q2] at q1
    exact ⟨n, M', q1, q3⟩
  | .inr e, _, q2 => exact q2.elim
/-- from the entry, for every script of at most 260 ints, the law comes to its end with 1 -/
theorem whole_start {p : Program} {e : Env} {s : State} {m : MethodId} {below : List Frame} {meth : Method} {c : Code} (l : Launch) (hflags : l.flags = flags0) {b L : Nat} {xs : Nat → Int32} (hL : L ≤ 260) (C0 : lw_At p s m meth c b L xs) : W p l e room_1 s m #[Value.ref b] below meth c s.heap [] 0 0 (lw_Z below #[Value.ref b] s) (entryFrame m ([Value.ref b] : List Value).toArray 8) := by
  obtain ⟨n, M', h1, h2⟩ := vs_any L (by omega) xs
  exact vl_start l hflags C0 (n := n) (M' := M') h1 h2
end VW33
