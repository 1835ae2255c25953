/-! ===== what the walker's values and things say of the machine's ===== -/
section VR
/-- a value of the walker's and one of the machine's: ad the addresses of the things, ρ the unknown ints -/
def vs_r (b L : Nat) (en : Nat → Nat) (ad : List Nat) (ρ : List Int32) (v : vi_V) (w : Value) : Prop :=
  match v.1 with
  | 0 => w = .int (nI v.2)
  | 1 => ∃ x, ρ[v.2]? = some x ∧ w = .int x
  | 2 => ∃ q, ad[v.2]? = some q ∧ w = .ref q
  | 3 => w = .null
  | 4 => w = .long (lN v.2)
  | 5 => ∃ q, w = .ref q
  | 6 => w = .ref b ∧ v.2 = L
  | 7 => w = .ref (en v.2) ∧ v.2 < 5
  | 8 => w = .double FP.dconst0
  | _ => False
def vs_l (R : vi_V → Value → Prop) : List vi_V → List Value → Prop
  | [], [] => True
  | v :: vs, w :: ws => R v w ∧ vs_l R vs ws
  | _, _ => False
def vs_ll (R : vi_V → Value → Prop) : List (Nat × vi_V) → List (Nat × Value) → Prop
  | [], [] => True
  | v :: vs, w :: ws => (v.1 = w.1 ∧ R v.2 w.2) ∧ vs_ll R vs ws
  | _, _ => False
def vs_cn (c : Nat) : String := match c with
  | 0 => RX0
  | 1 => RX1
  | 2 => RX2
  | 3 => RX3
  | 4 => RX4
  | 5 => RX6
  | 6 => RX7
  | _ => R_law
def vs_ty (ty : Nat) : FieldType := match ty with
  | 0 => .int
  | 1 => .boolean
  | 2 => .long
  | 3 => .double
  | c + 4 => .object (vs_cn c)
abbrev vs_A : Type := (Nat → Int32) ⊕ (Nat → Int64) ⊕ (Nat → UInt32) ⊕ (Nat → UInt64) ⊕ (Nat → Option Nat)
def vs_k (ty : Nat) (x : vs_A) : Prop := match ty with
  | 0 => ∃ f, x = .inl f
  | 1 => ∃ f, x = .inl f
  | 2 => ∃ f, x = .inr (.inl f)
  | 3 => ∃ f, x = .inr (.inr (.inr (.inl f)))
  | _ => ∃ f, x = .inr (.inr (.inr (.inr f)))
def vs_el (x : vs_A) (j : Nat) : Value := match x with
  | .inl f => .int (f j)
  | .inr (.inl f) => .long (f j)
  | .inr (.inr (.inl f)) => .float (f j)
  | .inr (.inr (.inr (.inl f))) => .double (f j)
  | .inr (.inr (.inr (.inr f))) => va_rf (f j)
def vs_c (b L : Nat) (en : Nat → Nat) (ad : List Nat) (ρ : List Int32) (tys : List (ClassId × FieldType)) (c : vi_C) (e : va_E) : Prop :=
  match c, e with
  | .inl o, .inr q => o.1 = q.1 ∧ vs_l (vs_r b L en ad ρ) o.2 q.2
  | .inr o, .inl q => tys[o.1]? = some (q.1, vs_ty o.2.1) ∧ q.2.1 = o.2.2.1 ∧ o.2.2.1 ≤ 16384 ∧ vs_k o.2.1 q.2.2 ∧ ∀ j, j < o.2.2.1 → vs_r b L en ad ρ (vi_tg 14 o.2.2.2 j) (vs_el q.2.2 j)
  | _, _ => False
/-- the world: ws are the machine's cells, by their places those of the walker's -/
def vs_w (b L : Nat) (xs : Nat → Int32) (en : Nat → Nat) (ad : List Nat) (ρ : List Int32) (tys : List (ClassId × FieldType)) (ws : va_W) (h : vi_H) (cnt nty : Nat) (sg : vi_G) : Prop :=
  ad = ws.map (fun q => q.1) ∧ ws.length = cnt ∧ cnt ≤ 2048 ∧ tys.length = nty ∧ (∀ (i : Nat) (e : Nat × va_E), ws[i]? = some e → vs_c b L en ad ρ tys (vi_tg 11 h i) e.2) ∧
  sg.length = ρ.length ∧ (∀ (k : Nat) (r : Nat × Nat), sg[k]? = some r → ∃ x, ρ[k]? = some x ∧ r.1 ≤ vb_b x ∧ vb_b x ≤ r.2) ∧ L ≤ 6 ∧ (∀ j, j < 6 → ρ[j]? = some (xs j)) ∧ ρ[6]? = some (xs 0 &&& 63)
/-- locals -/
def vs_lo (b L : Nat) (en : Nat → Nat) (ad : List Nat) (ρ : List Int32) (lv : List (Nat × vi_V)) (ls : Array Slot) (nL : Nat) : Prop := ∃ l, vs_ll (vs_r b L en ad ρ) lv l ∧ lv_has ls nL l
def vs_pre {α : Type} (a a' : List α) : Prop := ∃ z, a' = a ++ z
theorem vs_pre.rf {α : Type} {a : List α} : vs_pre a a := ⟨[], by simp⟩
theorem vs_pre.tr {α : Type} {a b c : List α} (h : vs_pre a b) (g : vs_pre b c) : vs_pre a c := by
  obtain ⟨z, rfl⟩ := h; obtain ⟨y, rfl⟩ := g
  exact ⟨z ++ y, by simp⟩
theorem vs_pre.at {α : Type} {a a' : List α} (h : vs_pre a a') {i : Nat} {x : α} (hi : a[i]? = some x) : a'[i]? = some x := by
  obtain ⟨z, rfl⟩ := h
  rw [List.getElem?_append_left (List.getElem?_eq_some_iff.mp hi).1]; exact hi
section
variable {b L : Nat} {en : Nat → Nat} {ad ad' : List Nat} {ρ ρ' : List Int32}
theorem vs_r.up (ha : vs_pre ad ad') (hr : vs_pre ρ ρ') {v : vi_V} {w : Value} (h : vs_r b L en ad ρ v w) : vs_r b L en ad' ρ' v w := by
  obtain ⟨t, u⟩ := v
  unfold vs_r at h ⊢
  match t, h with
  | 0, h => exact h
  | 1, h => obtain ⟨x, h1, h2⟩ := h; exact ⟨x, hr.at h1, h2⟩
  | 2, h => obtain ⟨x, h1, h2⟩ := h; exact ⟨x, ha.at h1, h2⟩
  | 3, h => exact h
  | 4, h => exact h
  | 5, h => exact h
  | 6, h => exact h
  | 7, h => exact h
  | 8, h => exact h
theorem vs_l.up {R R' : vi_V → Value → Prop} (hR : ∀ v w, R v w → R' v w) : ∀ {vs : List vi_V} {ws : List Value}, vs_l R vs ws → vs_l R' vs ws
  | [], [], h => h
  | v :: vs, w :: ws, h => ⟨hR _ _ h.1, vs_l.up hR h.2⟩
  | [], _ :: _, h => h.elim
  | _ :: _, [], h => h.elim
theorem vs_ll.up {R R' : vi_V → Value → Prop} (hR : ∀ v w, R v w → R' v w) : ∀ {vs : List (Nat × vi_V)} {ws : List (Nat × Value)}, vs_ll R vs ws → vs_ll R' vs ws
  | [], [], h => h
  | v :: vs, w :: ws, h => ⟨⟨h.1.1, hR _ _ h.1.2⟩, vs_ll.up hR h.2⟩
  | [], _ :: _, h => h.elim
  | _ :: _, [], h => h.elim
theorem vs_lo.up (ha : vs_pre ad ad') (hr : vs_pre ρ ρ') {lv : List (Nat × vi_V)} {ls : Array Slot} {nL : Nat} (h : vs_lo b L en ad ρ lv ls nL) : vs_lo b L en ad' ρ' lv ls nL := by
  obtain ⟨l, h1, h2⟩ := h
  exact ⟨l, h1.up (fun _ _ q => q.up ha hr), h2⟩
theorem vs_c.up (ha : vs_pre ad ad') (hr : vs_pre ρ ρ') {tys tys' : List (ClassId × FieldType)} (ht : vs_pre tys tys') {c : vi_C} {e : va_E} (h : vs_c b L en ad ρ tys c e) : vs_c b L en ad' ρ' tys' c e := by
  unfold vs_c at h ⊢
  match c, e, h with
  | .inl o, .inr q, h => exact ⟨h.1, h.2.up (fun _ _ q => q.up ha hr)⟩
  | .inr o, .inl q, h => exact ⟨ht.at h.1, h.2.1, h.2.2.1, h.2.2.2.1, fun j hj => (h.2.2.2.2 j hj).up ha hr⟩
theorem vs_ll.at {R : vi_V → Value → Prop} : ∀ {lv : List (Nat × vi_V)} {l : List (Nat × Value)}, vs_ll R lv l → ∀ {a : Nat} {v : vi_V}, vi_lg lv a = some v → ∃ (k : Nat) (w : Value), l[k]? = some (a, w) ∧ R v w
  | [], [], _, a, v, h => by cases h
  | q :: lv, p :: l, hl, a, v, h => by
    have h' : Bool.rec (motive := fun _ => Option vi_V) (vi_lg lv a) (some q.2) (Nat.beq q.1 a) = some v := h
    by_cases e : q.1 = a
    · have e' : Nat.beq q.1 a = true := by rw [e]; exact Nat.beq_refl a
      rw [e'] at h'
      cases h'
      exact ⟨0, p.2, by rw [← e, hl.1.1]; rfl, hl.1.2⟩
    · have e' : Nat.beq q.1 a = false := by
        cases hb : Nat.beq q.1 a with
        | false => rfl
        | true => exact absurd (Nat.eq_of_beq_eq_true hb) e
      rw [e'] at h'
      obtain ⟨k, w, h1, h2⟩ := vs_ll.at hl.2 h'
      exact ⟨k + 1, w, by simpa using h1, h2⟩
  | [], _ :: _, h, _, _, _ => h.elim
  | _ :: _, [], h, _, _, _ => h.elim
theorem vs_two {v : vi_V} {w : Value} (h : vs_r b L en ad ρ v w) : vi_two v = (w.category == 2) := by
  obtain ⟨t, u⟩ := v
  unfold vs_r at h
  match t, h with
  | 0, h => rw [h]; rfl
  | 1, h => obtain ⟨x, -, h⟩ := h; rw [h]; rfl
  | 2, h => obtain ⟨x, -, h⟩ := h; rw [h]; rfl
  | 3, h => rw [h]; rfl
  | 4, h => rw [h]; rfl
  | 5, h => obtain ⟨x, h⟩ := h; rw [h]; rfl
  | 6, h => rw [h.1]; rfl
  | 7, h => rw [h.1]; rfl
  | 8, h => rw [h]; rfl
theorem vs_ll.filter {R : vi_V → Value → Prop} {f : Nat × vi_V → Bool} {g : Nat × Value → Bool} (hfg : ∀ v w, v.1 = w.1 → R v.2 w.2 → f v = g w) : ∀ {lv : List (Nat × vi_V)} {l : List (Nat × Value)}, vs_ll R lv l → vs_ll R (lv.filter f) (l.filter g)
  | [], [], _ => trivial
  | v :: lv, w :: l, h => by
    have h1 := hfg v w h.1.1 h.1.2
    have h2 := vs_ll.filter hfg h.2
    rw [List.filter_cons, List.filter_cons, h1]
    split
    · exact ⟨h.1, h2⟩
    · exact h2
  | [], _ :: _, h => h.elim
  | _ :: _, [], h => h.elim
theorem vs_beq (a c : Nat) : Nat.beq a c = (a == c) := by
  by_cases h : a = c
  · subst h; simp
  · have h1 : (a == c) = false := by simp [h]
    rw [h1]
    cases hb : Nat.beq a c with
    | false => rfl
    | true => exact absurd (Nat.eq_of_beq_eq_true hb) h
theorem vs_st1 {lv : List (Nat × vi_V)} {l : List (Nat × Value)} (h : vs_ll (vs_r b L en ad ρ) lv l) (i : Nat) {v : vi_V} {w : Value} (hv : vs_r b L en ad ρ v w) : vs_ll (vs_r b L en ad ρ) (vi_st1 lv i v) ((i, w) :: l.filter (fun q => !(q.1 == i) && !(q.1 + 1 == i && q.2.category == 2))) := by
  refine ⟨⟨rfl, hv⟩, vs_ll.filter (fun v w e hr => ?_) h⟩
  rw [vs_beq, vs_beq, vs_two hr, e]
theorem vs_st2 {lv : List (Nat × vi_V)} {l : List (Nat × Value)} (h : vs_ll (vs_r b L en ad ρ) lv l) (i : Nat) {v : vi_V} {w : Value} (hv : vs_r b L en ad ρ v w) : vs_ll (vs_r b L en ad ρ) (vi_st2 lv i v) ((i, w) :: l.filter (fun q => !(q.1 == i) && (!(q.1 == i + 1) && !(q.1 + 1 == i && q.2.category == 2)))) := by
  refine ⟨⟨rfl, hv⟩, vs_ll.filter (fun v w e hr => ?_) h⟩
  rw [vs_beq, vs_beq, vs_beq, vs_two hr, e]
theorem vs_l.at {R : vi_V → Value → Prop} : ∀ {vs : List vi_V} {ws : List Value}, vs_l R vs ws → ∀ {i : Nat} {v : vi_V}, vs[i]? = some v → ∃ w, ws[i]? = some w ∧ R v w
  | [], [], _, i, v, h => by simp at h
  | v :: vs, w :: ws, h, 0, x, e => ⟨w, rfl, by simp at e; rw [← e]; exact h.1⟩
  | v :: vs, w :: ws, h, i + 1, x, e => by
    obtain ⟨y, h1, h2⟩ := vs_l.at h.2 (i := i) (v := x) (by simpa using e)
    exact ⟨y, by simpa using h1, h2⟩
  | [], _ :: _, h, _, _, _ => h.elim
  | _ :: _, [], h, _, _, _ => h.elim
theorem vs_l.set {R : vi_V → Value → Prop} {v : vi_V} {w : Value} (hv : R v w) : ∀ {vs : List vi_V} {ws : List Value}, vs_l R vs ws → ∀ i : Nat, vs_l R (vs.set i v) (ws.set i w)
  | [], [], _, _ => trivial
  | _ :: vs, _ :: ws, h, 0 => ⟨hv, h.2⟩
  | _ :: vs, _ :: ws, h, i + 1 => ⟨h.1, vs_l.set hv h.2 i⟩
  | [], _ :: _, h, _ => h.elim
  | _ :: _, [], h, _ => h.elim
theorem vs_l.app {R : vi_V → Value → Prop} : ∀ {vs us : List vi_V} {ws : List Value}, vs_l R (vs ++ us) ws → ∃ w1 w2, ws = w1 ++ w2 ∧ w1.length = vs.length ∧ vs_l R vs w1 ∧ vs_l R us w2
  | [], us, ws, h => ⟨[], ws, rfl, rfl, trivial, h⟩
  | v :: vs, us, w :: ws, h => by
    obtain ⟨w1, w2, e, e1, h1, h2⟩ := vs_l.app h.2
    exact ⟨w :: w1, w2, by rw [e]; rfl, by simp [e1], ⟨h.1, h1⟩, h2⟩
  | _ :: _, _, [], h => h.elim
theorem vs_l.len {R : vi_V → Value → Prop} : ∀ {vs : List vi_V} {ws : List Value}, vs_l R vs ws → vs.length = ws.length
  | [], [], _ => rfl
  | _ :: vs, _ :: ws, h => by simp [vs_l.len h.2]
  | [], _ :: _, h => h.elim
  | _ :: _, [], h => h.elim
theorem vs_l.cat {R : vi_V → Value → Prop} : ∀ {vs us : List vi_V} {ws ys : List Value}, vs_l R vs ws → vs_l R us ys → vs_l R (vs ++ us) (ws ++ ys)
  | [], _, [], _, _, h => h
  | _ :: vs, us, _ :: ws, ys, g, h => ⟨g.1, vs_l.cat g.2 h⟩
  | [], _, _ :: _, _, h, _ => h.elim
  | _ :: _, _, [], _, h, _ => h.elim
theorem vs_l.rev {R : vi_V → Value → Prop} : ∀ {vs : List vi_V} {ws : List Value}, vs_l R vs ws → vs_l R vs.reverse ws.reverse
  | [], [], _ => trivial
  | v :: vs, w :: ws, h => by
    rw [List.reverse_cons, List.reverse_cons]
    exact vs_l.cat (vs_l.rev h.2) ⟨h.1, trivial⟩
  | [], _ :: _, h => h.elim
  | _ :: _, [], h => h.elim
theorem vs_catOf : ∀ {vs : List vi_V} {ws : List Value}, vs_l (vs_r b L en ad ρ) vs ws → vi_cat vs = (ws.map fun v => v.category).sum
  | [], [], _ => rfl
  | v :: vs, w :: ws, h => by
    have h2 := vs_catOf h.2
    have h1 := vs_two h.1
    show (bif vi_two v then 2 else 1) + vi_cat vs = _
    rw [List.map_cons, List.sum_cons, h2, h1]
    rcases lv_cat w with e | e <;> rw [e] <;> rfl
  | [], _ :: _, h => h.elim
  | _ :: _, [], h => h.elim
theorem vs_argsOf : ∀ {vs : List vi_V} {ws : List Value}, vs_l (vs_r b L en ad ρ) vs ws → ∀ i, vs_ll (vs_r b L en ad ρ) (vi_args i vs) (lv_args i ws)
  | [], [], _, _ => trivial
  | v :: vs, w :: ws, h, i => by
    refine ⟨⟨rfl, h.1⟩, ?_⟩
    have h1 := vs_two h.1
    have h2 := vs_argsOf h.2 (bif vi_two v then i + 2 else i + 1)
    have e : (bif vi_two v then i + 2 else i + 1) = (if w.category = 2 then i + 2 else i + 1) := by
      rw [h1]
      rcases lv_cat w with e | e <;> rw [e] <;> rfl
    have h3 : vs_ll (vs_r b L en ad ρ) (vi_args (bif vi_two v then i + 2 else i + 1) vs) (lv_args (if w.category = 2 then i + 2 else i + 1) ws) := by rw [← e]; exact h2
    exact h3
  | [], _ :: _, h, _ => h.elim
  | _ :: _, [], h, _ => h.elim
end
end VR
