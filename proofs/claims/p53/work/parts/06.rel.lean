/-! ===== what the small machine's values and things say of the machine's ===== -/
section VR
def vj_ad (b : Nat) (en : Nat → Nat) (ad : List Nat) (q : Nat) : Option Nat := if q = 0 then some b else if q ≤ 5 then some (en (q - 1)) else if q < 8 then none else ad[q - 8]?
/-- a value of the small machine's and one of the machine's: ad the addresses of the things -/
def vj_r (b : Nat) (en : Nat → Nat) (ad : List Nat) (v w : Value) : Prop := match v with
  | .ref q => ∃ a, vj_ad b en ad q = some a ∧ w = .ref a
  | .int x => w = .int x
  | .long x => w = .long x
  | .double x => w = .double x
  | .null => w = .null
  | _ => False
def vj_l (R : Value → Value → Prop) : List Value → List Value → Prop
  | [], [] => True
  | v :: vs, w :: ws => R v w ∧ vj_l R vs ws
  | _, _ => False
def vs_cn (c : Nat) : String := match c with
  | 0 => RX0
  | 1 => RX1
  | 2 => RX2
  | 3 => RX3
  | 4 => RX4
  | 5 => RX6
  | _ => R_law
def vs_ty (ty : Nat) : FieldType := match ty with
  | 0 => .int
  | 1 => .boolean
  | 2 => .long
  | 3 => .double
  | c + 4 => .object (vs_cn c)
def vj_ar (b : Nat) (en : Nat → Nat) (ad : List Nat) (n : Nat) (x y : vj_A) : Prop := match x with
  | .inl f => y = .inl f
  | .inr (.inl f) => y = .inr (.inl f)
  | .inr (.inr (.inl f)) => y = .inr (.inr (.inl f))
  | .inr (.inr (.inr (.inl f))) => y = .inr (.inr (.inr (.inl f)))
  | .inr (.inr (.inr (.inr f))) => ∃ g, y = .inr (.inr (.inr (.inr g))) ∧ ∀ j, j < n → vj_r b en ad (va_rf (f j)) (va_rf (g j))
def vj_c (b : Nat) (en : Nat → Nat) (ad : List Nat) (tys : List (ClassId × FieldType)) (c : vj_C) (e : va_E) : Prop :=
  match c, e with
  | .inr o, .inr q => o.1 = q.1 ∧ vj_l (vj_r b en ad) o.2 q.2
  | .inl o, .inl q => tys[o.1]? = some (q.1, vs_ty o.2.1) ∧ q.2.1 = o.2.2.1 ∧ vj_ar b en ad o.2.2.1 o.2.2.2 q.2.2
  | _, _ => False
/-- the world: ws are the machine's cells, by their places those of the small machine -/
def vj_w (b : Nat) (en : Nat → Nat) (ad : List Nat) (tys : List (ClassId × FieldType)) (ws : va_W) (M : vj_M) : Prop :=
  ad = ws.map (fun q => q.1) ∧ M.2.1 = ws.length + 8 ∧ M.2.2.1 = tys.length ∧ ∀ (i : Nat) (e : Nat × va_E), ws[i]? = some e → vj_c b en ad tys (M.1 (i + 8)) e.2
/-- locals -/
def vj_lo (b : Nat) (en : Nat → Nat) (ad : List Nat) (lv : List (Option Value)) (ls : Array Slot) (nL : Nat) : Prop := ∃ l, lv_has ls nL l ∧ ∀ i v, vj_lget lv i = some v → ∃ w, (i, w) ∈ l ∧ vj_r b en ad v w
def vs_pre {α : Type} (a a' : List α) : Prop := ∃ z, a' = a ++ z
theorem vs_pre.rf {α : Type} {a : List α} : vs_pre a a := ⟨[], by simp⟩
theorem vs_pre.tr {α : Type} {a b c : List α} (h : vs_pre a b) (g : vs_pre b c) : vs_pre a c := by
  obtain ⟨z, rfl⟩ := h; obtain ⟨y, rfl⟩ := g
  exact ⟨z ++ y, by simp⟩
theorem vs_pre.at {α : Type} {a a' : List α} (h : vs_pre a a') {i : Nat} {x : α} (hi : a[i]? = some x) : a'[i]? = some x := by
  obtain ⟨z, rfl⟩ := h
  rw [List.getElem?_append_left (List.getElem?_eq_some_iff.mp hi).1]; exact hi
section
variable {b : Nat} {en : Nat → Nat} {ad ad' : List Nat}
theorem vj_ad.up (ha : vs_pre ad ad') {q a : Nat} (h : vj_ad b en ad q = some a) : vj_ad b en ad' q = some a := by
  unfold vj_ad at h ⊢
  split
  · rename_i h1; rw [if_pos h1] at h; exact h
  · rename_i h1
    rw [if_neg h1] at h
    split
    · rename_i h2; rw [if_pos h2] at h; exact h
    · rename_i h2
      rw [if_neg h2] at h
      split
      · rename_i h3; rw [if_pos h3] at h; exact h
      · rename_i h3
        rw [if_neg h3] at h
        exact ha.at h
theorem vj_r.up (ha : vs_pre ad ad') {v w : Value} (h : vj_r b en ad v w) : vj_r b en ad' v w := by
  cases v with
  | ref q => obtain ⟨a, h1, h2⟩ := h; exact ⟨a, vj_ad.up ha h1, h2⟩
  | _ => exact h
theorem vj_l.up {R R' : Value → Value → Prop} (hR : ∀ v w, R v w → R' v w) : ∀ {vs ws : List Value}, vj_l R vs ws → vj_l R' vs ws
  | [], [], h => h
  | v :: vs, w :: ws, h => ⟨hR _ _ h.1, vj_l.up hR h.2⟩
  | [], _ :: _, h => h.elim
  | _ :: _, [], h => h.elim
theorem vj_lo.up (ha : vs_pre ad ad') {lv : List (Option Value)} {ls : Array Slot} {nL : Nat} (h : vj_lo b en ad lv ls nL) : vj_lo b en ad' lv ls nL := by
  obtain ⟨l, h1, h2⟩ := h
  refine ⟨l, h1, fun i v hi => ?_⟩
  obtain ⟨w, h3, h4⟩ := h2 i v hi
  exact ⟨w, h3, h4.up ha⟩
theorem vj_ar.up (ha : vs_pre ad ad') {n : Nat} {x y : vj_A} (h : vj_ar b en ad n x y) : vj_ar b en ad' n x y := by
  rcases x with f | f | f | f | f
  · exact h
  · exact h
  · exact h
  · exact h
  · obtain ⟨g, h1, h2⟩ := h
    exact ⟨g, h1, fun j hj => (h2 j hj).up ha⟩
theorem vj_c.up (ha : vs_pre ad ad') {tys tys' : List (ClassId × FieldType)} (ht : vs_pre tys tys') {c : vj_C} {e : va_E} (h : vj_c b en ad tys c e) : vj_c b en ad' tys' c e := by
  unfold vj_c at h ⊢
  match c, e, h with
  | .inr o, .inr q, h => exact ⟨h.1, h.2.up (fun _ _ q => q.up ha)⟩
  | .inl o, .inl q, h => exact ⟨ht.at h.1, h.2.1, h.2.2.up ha⟩
theorem vj_l.at {R : Value → Value → Prop} : ∀ {vs ws : List Value}, vj_l R vs ws → ∀ {i : Nat} {v : Value}, vs[i]? = some v → ∃ w, ws[i]? = some w ∧ R v w
  | [], [], _, i, v, h => by simp at h
  | v :: vs, w :: ws, h, 0, x, e => ⟨w, rfl, by simp at e; rw [← e]; exact h.1⟩
  | v :: vs, w :: ws, h, i + 1, x, e => by
    obtain ⟨y, h1, h2⟩ := vj_l.at h.2 (i := i) (v := x) (by simpa using e)
    exact ⟨y, by simpa using h1, h2⟩
  | [], _ :: _, h, _, _, _ => h.elim
  | _ :: _, [], h, _, _, _ => h.elim
theorem vj_l.set {R : Value → Value → Prop} {v w : Value} (hv : R v w) : ∀ {vs ws : List Value}, vj_l R vs ws → ∀ i : Nat, vj_l R (vs.set i v) (ws.set i w)
  | [], [], _, _ => trivial
  | _ :: vs, _ :: ws, h, 0 => ⟨hv, h.2⟩
  | _ :: vs, _ :: ws, h, i + 1 => ⟨h.1, vj_l.set hv h.2 i⟩
  | [], _ :: _, h, _ => h.elim
  | _ :: _, [], h, _ => h.elim
theorem vj_l.len {R : Value → Value → Prop} : ∀ {vs ws : List Value}, vj_l R vs ws → vs.length = ws.length
  | [], [], _ => rfl
  | _ :: vs, _ :: ws, h => by simp [vj_l.len h.2]
  | [], _ :: _, h => h.elim
  | _ :: _, [], h => h.elim
theorem vj_l.cat {R : Value → Value → Prop} : ∀ {vs us ws ys : List Value}, vj_l R vs ws → vj_l R us ys → vj_l R (vs ++ us) (ws ++ ys)
  | [], _, [], _, _, h => h
  | _ :: vs, us, _ :: ws, ys, g, h => ⟨g.1, vj_l.cat g.2 h⟩
  | [], _, _ :: _, _, h, _ => h.elim
  | _ :: _, _, [], _, h, _ => h.elim
theorem vj_l.rev {R : Value → Value → Prop} : ∀ {vs ws : List Value}, vj_l R vs ws → vj_l R vs.reverse ws.reverse
  | [], [], _ => trivial
  | v :: vs, w :: ws, h => by
    rw [List.reverse_cons, List.reverse_cons]
    exact vj_l.cat (vj_l.rev h.2) ⟨h.1, trivial⟩
  | [], _ :: _, h => h.elim
  | _ :: _, [], h => h.elim
theorem vj_l.take {R : Value → Value → Prop} : ∀ {vs ws : List Value}, vj_l R vs ws → ∀ n : Nat, vj_l R (vs.take n) (ws.take n)
  | [], [], _, n => by simp [vj_l]
  | v :: vs, w :: ws, h, 0 => by simp [vj_l]
  | v :: vs, w :: ws, h, n + 1 => ⟨h.1, vj_l.take h.2 n⟩
  | [], _ :: _, h, _ => h.elim
  | _ :: _, [], h, _ => h.elim
theorem vj_l.drop {R : Value → Value → Prop} : ∀ {vs ws : List Value}, vj_l R vs ws → ∀ n : Nat, vj_l R (vs.drop n) (ws.drop n)
  | [], [], _, n => by simp [vj_l]
  | v :: vs, w :: ws, h, 0 => h
  | v :: vs, w :: ws, h, n + 1 => vj_l.drop h.2 n
  | [], _ :: _, h, _ => h.elim
  | _ :: _, [], h, _ => h.elim
theorem vj_two_cat (v : Value) : vj_two v = (v.category == 2) := by cases v <;> rfl
theorem vj_r.cat {v w : Value} (h : vj_r b en ad v w) : w.category = v.category := by
  cases v with
  | ref q => obtain ⟨a, -, rfl⟩ := h; rfl
  | int x => rw [show w = .int x from h]
  | long x => rw [show w = .long x from h]
  | double x => rw [show w = .double x from h]
  | null => rw [show w = .null from h]
  | _ => exact h.elim
theorem vj_catOf : ∀ {vs ws : List Value}, vj_l (vj_r b en ad) vs ws → vj_cat vs = (ws.map fun v => v.category).sum
  | [], [], _ => rfl
  | v :: vs, w :: ws, h => by
    have h2 := vj_catOf h.2
    unfold vj_cat at h2 ⊢
    rw [List.map_cons, List.sum_cons, List.map_cons, List.sum_cons, h2, h.1.cat]
  | [], _ :: _, h => h.elim
  | _ :: _, [], h => h.elim
end
/-! locals -/
theorem vj_lget_set {lv : List (Option Value)} {i j : Nat} {o : Option Value} {v : Value} (h : vj_lget (lv.set i o) j = some v) : (j = i ∧ o = some v) ∨ (j ≠ i ∧ vj_lget lv j = some v) := by
  unfold vj_lget at h ⊢
  by_cases e : j = i
  · subst e
    refine Or.inl ⟨rfl, ?_⟩
    by_cases hl : j < lv.length
    · rw [List.getElem?_set_self hl] at h; exact h
    · rw [List.getElem?_eq_none (by rw [List.length_set]; omega)] at h; cases h
  · rw [List.getElem?_set_ne (Ne.symm e)] at h
    exact Or.inr ⟨e, h⟩
theorem vj_lget_kill {lv : List (Option Value)} {i j : Nat} {v : Value} (h : vj_lget (vj_kill lv i) j = some v) : vj_lget lv j = some v ∧ ¬ (j + 1 = i ∧ vj_two v = true) := by
  cases i with
  | zero => exact ⟨h, fun q => by omega⟩
  | succ i =>
    unfold vj_kill at h
    dsimp only at h
    cases hg : vj_lget lv i with
    | none =>
      rw [hg] at h
      refine ⟨h, fun q => ?_⟩
      rw [show j = i by omega] at h
      have h' : vj_lget lv i = some v := h
      rw [hg] at h'; cases h'
    | some u =>
      rw [hg] at h
      dsimp only at h
      by_cases e : vj_two u = true
      · rw [if_pos e] at h
        rcases vj_lget_set h with ⟨-, h2⟩ | ⟨h1, h2⟩
        · cases h2
        · exact ⟨h2, fun q => h1 (by omega)⟩
      · rw [if_neg e] at h
        refine ⟨h, fun q => ?_⟩
        rw [show j = i by omega, hg] at h
        cases h
        exact e q.2
theorem vj_lget_lset {lv : List (Option Value)} {i j : Nat} {u v : Value} (h : vj_lget (vj_lset lv i u) j = some v) : (j = i ∧ u = v) ∨ (j ≠ i ∧ vj_lget lv j = some v ∧ ¬ (j + 1 = i ∧ vj_two v = true) ∧ (vj_two u = true → j ≠ i + 1)) := by
  unfold vj_lset at h
  by_cases e : vj_two u = true
  · rw [if_pos e] at h
    rcases vj_lget_set h with ⟨-, h2⟩ | ⟨h1, h2⟩
    · cases h2
    · rcases vj_lget_set h2 with ⟨h3, h4⟩ | ⟨h3, h4⟩
      · exact Or.inl ⟨h3, Option.some.inj h4⟩
      · obtain ⟨h5, h6⟩ := vj_lget_kill h4
        exact Or.inr ⟨h3, h5, h6, fun _ => h1⟩
  · rw [if_neg e] at h
    rcases vj_lget_set h with ⟨h3, h4⟩ | ⟨h3, h4⟩
    · exact Or.inl ⟨h3, Option.some.inj h4⟩
    · obtain ⟨h5, h6⟩ := vj_lget_kill h4
      exact Or.inr ⟨h3, h5, h6, fun q => absurd q e⟩
theorem vj_lget_lclr {lv : List (Option Value)} {i j : Nat} {v : Value} (h : vj_lget (vj_lclr lv i) j = some v) : j ≠ i ∧ vj_lget lv j = some v ∧ ¬ (j + 1 = i ∧ vj_two v = true) := by
  unfold vj_lclr at h
  rcases vj_lget_set h with ⟨-, h4⟩ | ⟨h3, h4⟩
  · cases h4
  · obtain ⟨h5, h6⟩ := vj_lget_kill h4
    exact ⟨h3, h5, h6⟩
section
variable {b : Nat} {en : Nat → Nat} {ad : List Nat}
theorem vj_lo.get {lv : List (Option Value)} {ls : Array Slot} {nL : Nat} (h : vj_lo b en ad lv ls nL) {i : Nat} {v : Value} (hi : vj_lget lv i = some v) : ∃ w, ls[i]? = some (.val w) ∧ vj_r b en ad v w := by
  obtain ⟨l, h1, h2⟩ := h
  obtain ⟨w, h3, h4⟩ := h2 i v hi
  exact ⟨w, h1.2.2 _ h3, h4⟩
/-- what a store of one word leaves -/
theorem vj_lo.st1 {lv : List (Option Value)} {l : List (Nat × Value)} (h2 : ∀ i v, vj_lget lv i = some v → ∃ w, (i, w) ∈ l ∧ vj_r b en ad v w) (i : Nat) {u w : Value} (hu : vj_r b en ad u w) : ∀ j v, vj_lget (vj_lset lv i u) j = some v → ∃ w', (j, w') ∈ (i, w) :: l.filter (fun q => !(q.1 == i) && !(q.1 + 1 == i && q.2.category == 2)) ∧ vj_r b en ad v w' := by
  intro j v hj
  rcases vj_lget_lset hj with ⟨rfl, rfl⟩ | ⟨h3, h4, h5, -⟩
  · exact ⟨w, List.mem_cons_self, hu⟩
  · obtain ⟨w', h6, h7⟩ := h2 j v h4
    refine ⟨w', List.mem_cons_of_mem _ (List.mem_filter.mpr ⟨h6, ?_⟩), h7⟩
    rw [vj_two_cat] at h5
    have e1 : (j == i) = false := by simpa using h3
    rw [e1, h7.cat]
    by_cases e2 : j + 1 = i
    · have : (v.category == 2) = false := by
        cases hc : (v.category == 2) with
        | false => rfl
        | true => exact absurd ⟨e2, hc⟩ h5
      rw [this]; simp
    · have : (j + 1 == i) = false := by simpa using e2
      rw [this]; rfl
theorem vj_lo.st2 {lv : List (Option Value)} {l : List (Nat × Value)} (h2 : ∀ i v, vj_lget lv i = some v → ∃ w, (i, w) ∈ l ∧ vj_r b en ad v w) (i : Nat) {u w : Value} (hu : vj_r b en ad u w) (ht : vj_two u = true) : ∀ j v, vj_lget (vj_lset lv i u) j = some v → ∃ w', (j, w') ∈ (i, w) :: l.filter (fun q => !(q.1 == i) && (!(q.1 == i + 1) && !(q.1 + 1 == i && q.2.category == 2))) ∧ vj_r b en ad v w' := by
  intro j v hj
  rcases vj_lget_lset hj with ⟨rfl, rfl⟩ | ⟨h3, h4, h5, h8⟩
  · exact ⟨w, List.mem_cons_self, hu⟩
  · obtain ⟨w', h6, h7⟩ := h2 j v h4
    refine ⟨w', List.mem_cons_of_mem _ (List.mem_filter.mpr ⟨h6, ?_⟩), h7⟩
    rw [vj_two_cat] at h5
    have e1 : (j == i) = false := by simpa using h3
    have e9 : (j == i + 1) = false := by simpa using h8 ht
    rw [e1, e9, h7.cat]
    by_cases e2 : j + 1 = i
    · have : (v.category == 2) = false := by
        cases hc : (v.category == 2) with
        | false => rfl
        | true => exact absurd ⟨e2, hc⟩ h5
      rw [this]; simp
    · have : (j + 1 == i) = false := by simpa using e2
      rw [this]; rfl
theorem vj_lo.clr {lv : List (Option Value)} {l : List (Nat × Value)} (h2 : ∀ i v, vj_lget lv i = some v → ∃ w, (i, w) ∈ l ∧ vj_r b en ad v w) (i : Nat) (w : Value) : ∀ j v, vj_lget (vj_lclr lv i) j = some v → ∃ w', (j, w') ∈ (i, w) :: l.filter (fun q => !(q.1 == i) && !(q.1 + 1 == i && q.2.category == 2)) ∧ vj_r b en ad v w' := by
  intro j v hj
  obtain ⟨h3, h4, h5⟩ := vj_lget_lclr hj
  obtain ⟨w', h6, h7⟩ := h2 j v h4
  refine ⟨w', List.mem_cons_of_mem _ (List.mem_filter.mpr ⟨h6, ?_⟩), h7⟩
  rw [vj_two_cat] at h5
  have e1 : (j == i) = false := by simpa using h3
  rw [e1, h7.cat]
  by_cases e2 : j + 1 = i
  · have : (v.category == 2) = false := by
      cases hc : (v.category == 2) with
      | false => rfl
      | true => exact absurd ⟨e2, hc⟩ h5
    rw [this]; simp
  · have : (j + 1 == i) = false := by simpa using e2
    rw [this]; rfl
/-- the arguments, laid out -/
theorem vj_spreadOf : ∀ {vs ws : List Value}, vj_l (vj_r b en ad) vs ws → ∀ (i : Nat) (j : Nat) (v : Value), ((vj_spread vs)[j]?).getD none = some v → ∃ w, (i + j, w) ∈ lv_args i ws ∧ vj_r b en ad v w
  | [], [], _, i, j, v, h => by simp [vj_spread] at h
  | u :: vs, w :: ws, h, i, j, v, hj => by
    have hc := h.1.cat
    cases j with
    | zero =>
      have e : some u = some v := by simpa [vj_spread] using hj
      cases e
      exact ⟨w, by unfold lv_args; exact List.mem_cons_self, h.1⟩
    | succ j =>
      unfold vj_spread at hj
      by_cases e : vj_two u = true
      · rw [if_pos e] at hj
        have e3 : w.category = 2 := by rw [hc]; rw [vj_two_cat] at e; simpa using e
        cases j with
        | zero => simp at hj
        | succ j =>
          obtain ⟨w', h1, h2⟩ := vj_spreadOf h.2 (i + 2) j v (by simpa using hj)
          refine ⟨w', ?_, h2⟩
          unfold lv_args
          rw [if_pos e3]
          refine List.mem_cons_of_mem _ ?_
          rw [show i + (j + 1 + 1) = i + 2 + j by omega]
          exact h1
      · rw [if_neg e] at hj
        have e3 : ¬ w.category = 2 := by rw [hc]; rw [vj_two_cat] at e; simpa using e
        obtain ⟨w', h1, h2⟩ := vj_spreadOf h.2 (i + 1) j v (by simpa using hj)
        refine ⟨w', ?_, h2⟩
        unfold lv_args
        rw [if_neg e3]
        refine List.mem_cons_of_mem _ ?_
        rw [show i + (j + 1) = i + 1 + j by omega]
        exact h1
  | [], _ :: _, h, _, _, _, _ => h.elim
  | _ :: _, [], h, _, _, _, _ => h.elim
theorem vj_argsOf {vs ws : List Value} (h : vj_l (vj_r b en ad) vs ws) {n : Nat} {ls : Array Slot} (hl : lv_has ls n (lv_args 0 ws)) : vj_lo b en ad (vj_args n vs) ls n := by
  refine ⟨_, hl, fun i v hi => ?_⟩
  have hi' : ((vj_spread vs)[i]?).getD none = some v := by
    unfold vj_lget vj_args at hi
    by_cases e : i < (vj_spread vs).length
    · rw [List.getElem?_append_left e] at hi; exact hi
    · rw [List.getElem?_append_right (by omega)] at hi
      by_cases e2 : i - (vj_spread vs).length < n - (vj_spread vs).length
      · rw [List.getElem?_replicate, if_pos e2] at hi; cases hi
      · rw [List.getElem?_replicate, if_neg e2] at hi; cases hi
  obtain ⟨w, h1, h2⟩ := vj_spreadOf h 0 i v hi'
  exact ⟨w, by simpa using h1, h2⟩
end
end VR
