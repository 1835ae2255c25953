/-! ===== what is seen: pure ===== -/
section VW15
/-- the cells: letters, types, order -/
def vC (n : Int) (r12 r13 r14 : List Int) : Prop := r13.length = r12.length ∧ r14.length = r12.length ∧ (r12.length : Int) ≤ 6 * n ∧ (∀ x ∈ r12, 0 ≤ x ∧ x < 27) ∧ (∀ x ∈ r13, 0 ≤ x ∧ x < n) ∧ (∀ x ∈ r14, 0 ≤ x ∧ x < (r12.length : Int)) ∧ ∀ x : Int, 0 ≤ x → x < (r12.length : Int) → x ∈ r14
theorem vl_fill_at {c : Nat} {m y z : Int} (h0 : 0 ≤ z) (h1 : z < m) (hc : m ≤ c) : vl_at (vl_fill c m y) z = y := by
  unfold vl_at vl_fill
  rw [if_pos h0, List.getElem?_replicate, if_pos (by omega)]
  rfl
theorem vl_fill_len {c : Nat} {m y : Int} (h0 : 0 ≤ m) (hc : m ≤ c) : ((vl_fill c m y).length : Int) = m := by
  unfold vl_fill
  rw [List.length_replicate]
  omega
theorem vl_at_mem {l : List Int} {z : Int} (h0 : 0 ≤ z) (h1 : z < l.length) : vl_at l z ∈ l := List.mem_of_getElem? (vl_at_lt h0 h1)
theorem vl_ext {l l' : List Int} (hl : l.length = l'.length) (h : ∀ z : Int, 0 ≤ z → z < l.length → vl_at l z = vl_at l' z) : l = l' := by
  apply List.ext_getElem? 
  intro j
  by_cases hj : j < l.length
  · have h1 := vl_at_lt (l := l) (z := (j : Int)) (by omega) (by omega)
    have h2 := vl_at_lt (l := l') (z := (j : Int)) (by omega) (by omega)
    rw [Int.toNat_natCast] at h1 h2
    rw [h1, h2, h _ (by omega) (by omega)]
  · rw [List.getElem?_eq_none (by omega), List.getElem?_eq_none (by omega)]
theorem vl_take_succ {l : List Int} {j : Nat} (h : j < l.length) : l.take (j + 1) = l.take j ++ [vl_at l (j : Int)] := by
  have h1 := vl_at_lt (l := l) (z := (j : Int)) (by omega) (by omega)
  rw [Int.toNat_natCast] at h1
  rw [List.take_add_one, h1]
  rfl
theorem vq_kn_spec {n : Int} {l : List Int} (h0 : 0 ≤ n) (h1 : n ≤ 120) (hl : ∀ x ∈ l, 0 ≤ x ∧ x < n) : ∀ m, m ≤ l.length → ((vq_kn n l m).length : Int) = n ∧ ∀ z : Int, 0 ≤ z → z < n → vl_at (vq_kn n l m) z = if z ∈ l.take m then 1 else 0 := by
  intro m
  induction m with
  | zero =>
    intro _
    refine ⟨vl_fill_len h0 (by omega), fun z z0 z1 => ?_⟩
    rw [List.take_zero, if_neg List.not_mem_nil]
    exact vl_fill_at z0 z1 (by omega)
  | succ m ih =>
    intro hm
    obtain ⟨i1, i2⟩ := ih (by omega)
    have e : vq_kn n l (m + 1) = vl_put (vq_kn n l m) (vl_at l (m : Int)) 1 := rfl
    have hx := hl _ (vl_at_mem (l := l) (z := (m : Int)) (by omega) (by omega))
    rw [e]
    refine ⟨by rw [vl_put_len]; exact i1, fun z z0 z1 => ?_⟩
    rw [vl_at_put hx.1 (by omega), i2 z z0 z1, vl_take_succ (by omega)]
    by_cases q : z = vl_at l (m : Int)
    · rw [if_pos q, if_pos (by rw [q]; exact List.mem_append.mpr (Or.inr List.mem_cons_self))]
    · rw [if_neg q]
      by_cases q2 : z ∈ l.take m
      · rw [if_pos q2, if_pos (List.mem_append.mpr (Or.inl q2))]
      · rw [if_neg q2, if_neg (fun g => by
          rcases List.mem_append.mp g with g | g
          · exact q2 g
          · exact q (List.mem_singleton.mp g))]
/-- who knows the same reads the same -/
theorem vq_kn_eq {n : Int} {l l' : List Int} (h0 : 0 ≤ n) (h1 : n ≤ 120) (hl : ∀ x ∈ l, 0 ≤ x ∧ x < n) (hl' : ∀ x ∈ l', 0 ≤ x ∧ x < n) (h : ∀ x, x ∈ l ↔ x ∈ l') : vq_kn n l l.length = vq_kn n l' l'.length := by
  obtain ⟨a1, a2⟩ := vq_kn_spec h0 h1 hl l.length (Nat.le_refl _)
  obtain ⟨b1, b2⟩ := vq_kn_spec h0 h1 hl' l'.length (Nat.le_refl _)
  refine vl_ext (by omega) (fun z z0 z1 => ?_)
  rw [a2 z z0 (by omega), b2 z z0 (by omega), List.take_length, List.take_length]
  by_cases q : z ∈ l
  · rw [if_pos q, if_pos ((h z).mp q)]
  · rw [if_neg q, if_neg (fun g => q ((h z).mpr g))]
theorem vq_vw_kn {σ : vw_S} {l l' : List Int} {n n' : Nat} (h : vq_kn (σ.2 1 0) l n = vq_kn (σ.2 1 0) l' n') (tb : Int) : vq_vw σ l n tb = vq_vw σ l' n' tb := by
  funext k
  unfold vq_vw
  rw [h]
/-- the text is the cells that are seen -/
theorem vq_ga_spec {r12 r13 r14 Kn ef er : List Int} {n : Int} (hC : vC n r12 r13 r14) (hl : r12.length ≤ 720) : ∀ m, m ≤ r12.length →
    (∀ x ∈ (vq_ga r13 r14 Kn ef er r12.length m).1, (0 ≤ x ∧ x < (r12.length : Int)) ∧ vl_at Kn (vd_pl (ve_ix (vl_at r13 x))) = 1) ∧ (vq_ga r13 r14 Kn ef er r12.length m).1.length ≤ m ∧
    (vq_ga r13 r14 Kn ef er r12.length m).2.1 = (vq_ga r13 r14 Kn ef er r12.length m).1.filter (fun x => decide (vl_at ef (vd_pl (ve_ix (vl_at r13 x))) = 1 ∧ ¬ vl_at er x = 1)) ∧
    ((vq_ga r13 r14 Kn ef er r12.length m).2.2.length = r12.length) ∧ ∀ z : Int, 0 ≤ z → z < (r12.length : Int) → (vl_at (vq_ga r13 r14 Kn ef er r12.length m).2.2 z = 1 ↔ z ∈ (vq_ga r13 r14 Kn ef er r12.length m).2.1) := by
  obtain ⟨c1, c2, c3, c4, c5, c6, c7⟩ := hC
  intro m
  induction m with
  | zero =>
    intro _
    refine ⟨fun x hx => absurd hx List.not_mem_nil, Nat.le_refl _, rfl, ?_, fun z z0 z1 => ?_⟩
    · have := vl_fill_len (c := 720) (m := (r12.length : Int)) (y := 0) (by omega) (by omega)
      show (vl_fill 720 (r12.length : Int) 0).length = _
      omega
    · show vl_at (vl_fill 720 (r12.length : Int) 0) z = 1 ↔ z ∈ []
      rw [vl_fill_at z0 z1 (by omega)]
      exact ⟨fun h => absurd h (by decide), fun h => absurd h List.not_mem_nil⟩
  | succ m ih =>
    intro hm
    obtain ⟨i1, i2, i3, i4, i5⟩ := ih (by omega)
    have hx := c6 _ (vl_at_mem (l := r14) (z := (m : Int)) (by omega) (by omega))
    have e : vq_ga r13 r14 Kn ef er r12.length (m + 1) = vq_ga1 r13 r14 Kn ef er m (vq_ga r13 r14 Kn ef er r12.length m) := rfl
    have l1 : (vq_ga r13 r14 Kn ef er r12.length m).2.1.length ≤ m := by
      rw [i3]
      exact Nat.le_trans (List.length_filter_le _ _) i2
    rw [e]
    unfold vq_ga1
    by_cases q1 : vl_at Kn (vd_pl (ve_ix (vl_at r13 (vl_at r14 (m : Int))))) = 1
    · rw [if_pos q1]
      have ha : vl_add 720 (vq_ga r13 r14 Kn ef er r12.length m).1 (vl_at r14 (m : Int)) = (vq_ga r13 r14 Kn ef er r12.length m).1 ++ [vl_at r14 (m : Int)] := vl_add_lt _ (by omega)
      have hnew : ∀ x ∈ (vq_ga r13 r14 Kn ef er r12.length m).1 ++ [vl_at r14 (m : Int)], (0 ≤ x ∧ x < (r12.length : Int)) ∧ vl_at Kn (vd_pl (ve_ix (vl_at r13 x))) = 1 := fun x h => by
        rcases List.mem_append.mp h with h | h
        · exact i1 x h
        · rw [List.mem_singleton.mp h]
          exact ⟨hx, q1⟩
      by_cases q2 : vl_at ef (vd_pl (ve_ix (vl_at r13 (vl_at r14 (m : Int))))) = 1 ∧ ¬ vl_at er (vl_at r14 (m : Int)) = 1
      · rw [if_pos q2]
        dsimp only
        have hb : vl_add 720 (vq_ga r13 r14 Kn ef er r12.length m).2.1 (vl_at r14 (m : Int)) = (vq_ga r13 r14 Kn ef er r12.length m).2.1 ++ [vl_at r14 (m : Int)] := vl_add_lt _ (by omega)
        rw [ha, hb]
        refine ⟨hnew, by rw [List.length_append]; show _ + 1 ≤ _; omega, ?_, by rw [vl_put_len]; exact i4, fun z z0 z1 => ?_⟩
        · rw [List.filter_append, ← i3]
          congr 1
          rw [List.filter_cons, if_pos (decide_eq_true q2)]
          rfl
        · rw [vl_at_put hx.1 (by omega), List.mem_append, List.mem_singleton]
          by_cases q3 : z = vl_at r14 (m : Int)
          · rw [if_pos q3]
            exact ⟨fun _ => Or.inr q3, fun _ => rfl⟩
          · rw [if_neg q3, i5 z z0 z1]
            exact ⟨Or.inl, fun h => h.elim (fun g => g) (fun g => absurd g q3)⟩
      · rw [if_neg q2]
        dsimp only
        rw [ha]
        refine ⟨hnew, by rw [List.length_append]; show _ + 1 ≤ _; omega, ?_, i4, i5⟩
        rw [List.filter_append, ← i3, List.filter_cons_of_neg (by rw [decide_eq_true_eq]; exact q2)]
        show _ = _ ++ []
        rw [List.append_nil]
    · rw [if_neg q1]
      exact ⟨i1, by omega, i3, i4, i5⟩
/-- the same, of the whole -/
theorem vq_ga_all {r12 r13 r14 Kn ef er : List Int} {n : Int} (hC : vC n r12 r13 r14) (hl : r12.length ≤ 720) :
    (∀ x ∈ (vq_ga r13 r14 Kn ef er r12.length r12.length).1, (0 ≤ x ∧ x < (r12.length : Int)) ∧ vl_at Kn (vd_pl (ve_ix (vl_at r13 x))) = 1) ∧ (vq_ga r13 r14 Kn ef er r12.length r12.length).1.length ≤ 720 ∧
    (vq_ga r13 r14 Kn ef er r12.length r12.length).2.1 = (vq_ga r13 r14 Kn ef er r12.length r12.length).1.filter (fun x => decide (vl_at (vq_ga r13 r14 Kn ef er r12.length r12.length).2.2 x = 1)) := by
  obtain ⟨i1, i2, i3, i4, i5⟩ := vq_ga_spec (Kn := Kn) (ef := ef) (er := er) hC hl r12.length (Nat.le_refl _)
  refine ⟨i1, by omega, ?_⟩
  rw [i3]
  apply List.filter_congr
  intro x hx
  obtain ⟨⟨x0, x1⟩, -⟩ := i1 x hx
  have h := i5 x x0 x1
  rw [i3, List.mem_filter] at h
  apply decide_eq_decide.mpr
  constructor
  · intro g; exact h.mpr ⟨hx, decide_eq_true g⟩
  · intro g; exact of_decide_eq_true (h.mp g).2
/-- a caret's place is within the text -/
theorem vp_go_le (sh cs : List Int) (z : Int) : ∀ (e j : Nat) (p : Int), j + e = cs.length → vp_go sh cs z e j p ≤ p + ((cs.drop j).filter (fun x => decide (vl_at sh x = 1))).length := by
  intro e
  induction e with
  | zero => intro j p _; show p ≤ _; omega
  | succ e ih =>
    intro j p hj
    have h1 := ih (j + 1) (if vl_at sh (vl_at cs (j : Int)) = 1 then p + 1 else p) (by omega)
    have hd : cs.drop j = vl_at cs (j : Int) :: cs.drop (j + 1) := by
      have := vl_at_lt (l := cs) (z := (j : Int)) (by omega) (by omega)
      rw [Int.toNat_natCast] at this
      obtain ⟨a1, a2⟩ := List.getElem?_eq_some_iff.mp this
      rw [List.drop_eq_getElem_cons a1, a2]
    unfold vp_go
    rw [hd]
    by_cases q : vl_at sh (vl_at cs (j : Int)) = 1
    · rw [List.filter_cons, if_pos (decide_eq_true q), List.length_cons]
      simp only [if_pos q] at h1 ⊢
      split <;> omega
    · rw [List.filter_cons, if_neg (show ¬ decide (vl_at sh (vl_at cs (j : Int)) = 1) = true by rw [decide_eq_true_eq]; exact q)]
      simp only [if_neg q] at h1 ⊢
      split <;> omega
theorem vp_pos_le (sh cs : List Int) (z : Int) : vp_pos sh cs z ≤ (cs.filter (fun x => decide (vl_at sh x = 1))).length := by
  unfold vp_pos
  have h := vp_go_le sh cs z cs.length 0 0 (Nat.zero_add _)
  rw [List.drop_zero] at h
  split <;> omega
theorem vy_seen_le (V : Nat → Nat → Int) (he od sh cs : List Int) (x o : Int) : vy_seen V he od sh cs x o ≤ (cs.filter (fun x => decide (vl_at sh x = 1))).length := by
  unfold vy_seen
  split
  · omega
  · exact vp_pos_le _ _ _
/-- the place in the text of what is seen: as many as are seen ahead of it -/
theorem vl_filter_at {cs : List Int} {f : Int → Bool} {j : Nat} (hj : j < cs.length) (h : f (vl_at cs (j : Int)) = true) : ((cs.take j).filter f).length < (cs.filter f).length ∧ vl_at (cs.filter f) (((cs.take j).filter f).length : Int) = vl_at cs (j : Int) := by
  have hd : cs.drop j = vl_at cs (j : Int) :: cs.drop (j + 1) := by
    have := vl_at_lt (l := cs) (z := (j : Int)) (by omega) (by omega)
    rw [Int.toNat_natCast] at this
    obtain ⟨a1, a2⟩ := List.getElem?_eq_some_iff.mp this
    rw [List.drop_eq_getElem_cons a1, a2]
  have e : cs.filter f = (cs.take j).filter f ++ vl_at cs (j : Int) :: (cs.drop (j + 1)).filter f := by
    rw [← List.filter_cons_of_pos h, ← hd, ← List.filter_append, List.take_append_drop]
  refine ⟨by rw [e, List.length_append, List.length_cons]; omega, ?_⟩
  unfold vl_at at e ⊢
  rw [if_pos (by omega), Int.toNat_natCast, e, List.getElem?_append_right (Nat.le_refl _), Nat.sub_self]
  rfl
theorem vl_filter_take {cs : List Int} {f : Int → Bool} {j : Nat} (hj : j < cs.length) : ((cs.take (j + 1)).filter f).length = ((cs.take j).filter f).length + (if f (vl_at cs (j : Int)) = true then 1 else 0) := by
  rw [vl_take_succ hj, List.filter_append, List.length_append]
  congr 1
  by_cases q : f (vl_at cs (j : Int)) = true
  · rw [if_pos q, List.filter_cons_of_pos q]; rfl
  · rw [if_neg q, List.filter_cons_of_neg q]; rfl
end VW15
