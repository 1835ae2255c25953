/-! ===== what the abstract walker's states say of the small machine's ===== -/
section VQ
def vq_r (L : Nat) (ρ : List Int32) (a : vi_V) (v : Value) : Prop := match a.1 with
  | 0 => v = .int (nI a.2)
  | 1 => ∃ x, ρ[a.2]? = some x ∧ v = .int x
  | 2 => v = .ref (a.2 + 8)
  | 3 => v = .null
  | 4 => v = .long (lN a.2)
  | 6 => v = .ref 0 ∧ a.2 = L ∧ L ≤ 6
  | 7 => v = .ref (a.2 + 1) ∧ a.2 < 5
  | 8 => v = .double FP.dconst0
  | 9 => v = .ref 0
  | _ => False
def vq_l {α β : Type} (R : α → β → Prop) : List α → List β → Prop
  | [], [] => True
  | v :: vs, w :: ws => R v w ∧ vq_l R vs ws
  | _, _ => False
def vq_w (R : vi_V → Value → Prop) (lv : vi_W) (lc : List (Option Value)) : Prop := lv.length = lc.length ∧ ∀ i a, vi_lg lv i = some a → ∃ v, vj_lget lc i = some v ∧ R a v
def vq_f (R : vi_V → Value → Prop) (f : vi_F) (g : vj_F) : Prop := f.1 = g.1 ∧ f.2.1 = g.2.1 ∧ vq_w R f.2.2.1 g.2.2.1 ∧ vq_l R f.2.2.2 g.2.2.2
def vq_el (x : vj_A) (j : Nat) : Value := match x with
  | .inl f => .int (f j)
  | .inr (.inl f) => .long (f j)
  | .inr (.inr (.inl f)) => .float (f j)
  | .inr (.inr (.inr (.inl f))) => .double (f j)
  | .inr (.inr (.inr (.inr f))) => va_rf (f j)
def vq_k (ty : Nat) (x : vj_A) : Prop := match ty with
  | 0 => ∃ f, x = .inl f
  | 1 => ∃ f, x = .inl f
  | 2 => ∃ f, x = .inr (.inl f)
  | 3 => ∃ f, x = .inr (.inr (.inr (.inl f)))
  | _ => ∃ f, x = .inr (.inr (.inr (.inr f)))
def vq_c (L : Nat) (ρ : List Int32) (c : vi_C) (d : vj_C) : Prop := match c, d with
  | .inl o, .inr q => o.1 = q.1 ∧ vq_l (vq_r L ρ) o.2 q.2
  | .inr o, .inl q => o.1 = q.1 ∧ o.2.1 = q.2.1 ∧ o.2.2.1 = q.2.2.1 ∧ o.2.2.1 ≤ 16384 ∧ vq_k o.2.1 q.2.2.2 ∧ ∀ j, j < o.2.2.1 → vq_r L ρ (vi_tg 14 o.2.2.2 j) (vq_el q.2.2.2 j)
  | _, _ => False
def vq_m (L : Nat) (ρ : List Int32) (h : vi_H) (cnt nty ce sl : Nat) (M : vj_M) : Prop := M.2.1 = cnt + 8 ∧ M.2.2.1 = nty ∧ M.2.2.2.1 = ce ∧ M.2.2.2.2 = sl ∧ cnt ≤ 2048 ∧ ∀ i, i < cnt → vq_c L ρ (vi_tg 11 h i) (M.1 (i + 8))
/-- an int, as a number from 0 on -/
def vb_b (x : Int32) : Nat := (x.toInt + 2147483648).toNat
def vq_g (L : Nat) (xs : Nat → Int32) (ρ : List Int32) (sg : vi_G) : Prop := sg.length = ρ.length ∧ (∀ (k : Nat) (r : Nat × Nat), sg[k]? = some r → ∃ x, ρ[k]? = some x ∧ r.1 ≤ vb_b x ∧ vb_b x ≤ r.2) ∧ (∀ j, j < 6 → ρ[j]? = some (xs j)) ∧ ρ[6]? = some (xs 0 &&& 63)
/-! tries and lists -/
theorem vb_tp_s {α : Type} {n : Nat} {t : vi_Tr α (n + 1)} {i : Nat} {v : α} : vi_tp (n + 1) t i v = if i % 2 = 0 then @Prod.mk (vi_Tr α n) (vi_Tr α n) (vi_tp n (@Prod.fst (vi_Tr α n) (vi_Tr α n) t) (i / 2) v) (@Prod.snd (vi_Tr α n) (vi_Tr α n) t) else @Prod.mk (vi_Tr α n) (vi_Tr α n) (@Prod.fst (vi_Tr α n) (vi_Tr α n) t) (vi_tp n (@Prod.snd (vi_Tr α n) (vi_Tr α n) t) (i / 2) v) := by
  show Bool.rec (motive := fun _ => vi_Tr α (n + 1)) (@Prod.mk (vi_Tr α n) (vi_Tr α n) (@Prod.fst (vi_Tr α n) (vi_Tr α n) t) (vi_tp n (@Prod.snd (vi_Tr α n) (vi_Tr α n) t) (i / 2) v)) (@Prod.mk (vi_Tr α n) (vi_Tr α n) (vi_tp n (@Prod.fst (vi_Tr α n) (vi_Tr α n) t) (i / 2) v) (@Prod.snd (vi_Tr α n) (vi_Tr α n) t)) (Nat.beq (i % 2) 0) = _
  by_cases h : i % 2 = 0
  · rw [if_pos h, h]; rfl
  · rw [if_neg h, show i % 2 = 1 by omega]; rfl
theorem vb_self {α : Type} (n : Nat) : ∀ (t : vi_Tr α n) (i : Nat) (v : α), vi_tg n (vi_tp n t i v) i = v := by
  induction n with
  | zero => intro t i v; rfl
  | succ n ih =>
    intro t i v
    rw [vb_tg_s, vb_tp_s]
    by_cases h : i % 2 = 0
    · rw [if_pos h, if_pos h]; exact ih _ _ _
    · rw [if_neg h, if_neg h]; exact ih _ _ _
theorem vb_ne {α : Type} (n : Nat) : ∀ (t : vi_Tr α n) (i j : Nat) (v : α), i ≠ j → i < 2 ^ n → j < 2 ^ n → vi_tg n (vi_tp n t i v) j = vi_tg n t j := by
  induction n with
  | zero => intro t i j v h hi hj; exact absurd (show i = j by simp at hi hj; omega) h
  | succ n ih =>
    intro t i j v h hi hj
    have e : 2 ^ (n + 1) = 2 * 2 ^ n := by rw [Nat.pow_succ]; omega
    rw [vb_tg_s, vb_tp_s, vb_tg_s (t := t)]
    by_cases h1 : i % 2 = 0 <;> by_cases h2 : j % 2 = 0
    · rw [if_pos h1, if_pos h2, if_pos h2]; exact ih _ _ _ _ (by omega) (by omega) (by omega)
    · rw [if_pos h1, if_neg h2, if_neg h2]
    · rw [if_neg h1, if_pos h2, if_pos h2]
    · rw [if_neg h1, if_neg h2, if_neg h2]; exact ih _ _ _ _ (by omega) (by omega) (by omega)
theorem vb_tf {α : Type} (n : Nat) (v : α) : ∀ i, vi_tg n (vi_tf n v) i = v := by
  induction n with
  | zero => intro i; rfl
  | succ n ih =>
    intro i
    rw [vb_tg_s]
    split <;> exact ih _
theorem vb_set {α : Type} (l : List α) : ∀ i v, vi_set l i v = l.set i v := by
  induction l with
  | nil => intro i v; simp [vi_set]
  | cons x l ih =>
    intro i v
    cases i with
    | zero => rfl
    | succ i => exact (congrArg (x :: ·) (ih i v)).trans (by simp)
theorem vb_take {n : Nat} {st acc vs rest : List vi_V} (h : vi_take n st acc = some (vs, rest)) : ∃ z, z.length = n ∧ st = z ++ rest ∧ vs = z.reverse ++ acc := by
  induction n generalizing st acc with
  | zero =>
    have h' : some (acc, st) = some (vs, rest) := h
    cases h'
    exact ⟨[], rfl, rfl, rfl⟩
  | succ n ih =>
    cases st with
    | nil => exact absurd h (by intro q; cases q)
    | cons v st =>
      obtain ⟨z, h1, h2, h3⟩ := ih (st := st) (acc := v :: acc) h
      exact ⟨v :: z, by simp [h1], by simp [h2], by simp [h3]⟩
/-! ints as numbers -/
theorem vb_b_lt (x : Int32) : vb_b x < 4294967296 := by
  have h1 := Int32.le_toInt x; have h2 := Int32.toInt_lt x
  unfold vb_b; omega
theorem vb_toInt (x : Int32) : x.toInt = (vb_b x : Int) - 2147483648 := by
  have h1 := Int32.le_toInt x; have h2 := Int32.toInt_lt x
  unfold vb_b; omega
theorem vb_inj {x y : Int32} (h : vb_b x = vb_b y) : x = y := Int32.toInt_inj.mp (by rw [vb_toInt, vb_toInt, h])
theorem vb_nI (u : Nat) : vb_b (nI u) = (u + 2147483648) % 4294967296 := by
  have h : (nI u).toInt = (u : Int).bmod 4294967296 := by
    show (Int32.ofNat u).toInt = _
    rw [Int32.toInt_ofNat']
  unfold vb_b
  rw [h]
  have := Int.bmod_def (u : Int) 4294967296
  rw [this]
  split <;> omega
theorem vb_of (x : Int32) : x = nI ((vb_b x + 2147483648) % 4294967296) := by
  apply vb_inj
  rw [vb_nI]
  have := vb_b_lt x
  omega
theorem vb_lt (x y : Int32) : x < y ↔ vb_b x < vb_b y := by
  rw [Int32.lt_iff_toInt_lt, vb_toInt, vb_toInt]; omega
theorem vb_le (x y : Int32) : x ≤ y ↔ vb_b x ≤ vb_b y := by
  rw [Int32.le_iff_toInt_le, vb_toInt, vb_toInt]; omega
theorem vb_eq (x y : Int32) : x = y ↔ vb_b x = vb_b y := ⟨fun h => by rw [h], vb_inj⟩
theorem vb_mod (u : Nat) : nI (u % 4294967296) = nI u := by
  apply vb_inj
  rw [vb_nI, vb_nI]
  omega
/-! the relations -/
section
variable {L : Nat} {ρ ρ' : List Int32}
theorem vq_r.up (hr : vs_pre ρ ρ') {a : vi_V} {v : Value} (h : vq_r L ρ a v) : vq_r L ρ' a v := by
  obtain ⟨t, u⟩ := a
  unfold vq_r at h ⊢
  match t, h with
  | 0, h => exact h
  | 1, h => obtain ⟨x, h1, h2⟩ := h; exact ⟨x, hr.at h1, h2⟩
  | 2, h => exact h
  | 3, h => exact h
  | 4, h => exact h
  | 6, h => exact h
  | 7, h => exact h
  | 8, h => exact h
  | 9, h => exact h
theorem vq_l.up {α β : Type} {R R' : α → β → Prop} (hR : ∀ v w, R v w → R' v w) : ∀ {vs : List α} {ws : List β}, vq_l R vs ws → vq_l R' vs ws
  | [], [], h => h
  | v :: vs, w :: ws, h => ⟨hR _ _ h.1, vq_l.up hR h.2⟩
  | [], _ :: _, h => h.elim
  | _ :: _, [], h => h.elim
theorem vq_w.up {R R' : vi_V → Value → Prop} (hR : ∀ v w, R v w → R' v w) {lv : vi_W} {lc : List (Option Value)} (h : vq_w R lv lc) : vq_w R' lv lc := ⟨h.1, fun i a hi => by
  obtain ⟨v, h1, h2⟩ := h.2 i a hi
  exact ⟨v, h1, hR _ _ h2⟩⟩
theorem vq_f.up {R R' : vi_V → Value → Prop} (hR : ∀ v w, R v w → R' v w) {f : vi_F} {g : vj_F} (h : vq_f R f g) : vq_f R' f g := ⟨h.1, h.2.1, h.2.2.1.up hR, h.2.2.2.up hR⟩
theorem vq_c.up (hr : vs_pre ρ ρ') {c : vi_C} {d : vj_C} (h : vq_c L ρ c d) : vq_c L ρ' c d := by
  unfold vq_c at h ⊢
  match c, d, h with
  | .inl o, .inr q, h => exact ⟨h.1, h.2.up (fun _ _ q => q.up hr)⟩
  | .inr o, .inl q, h => exact ⟨h.1, h.2.1, h.2.2.1, h.2.2.2.1, h.2.2.2.2.1, fun j hj => (h.2.2.2.2.2 j hj).up hr⟩
theorem vq_m.up (hr : vs_pre ρ ρ') {h : vi_H} {cnt nty ce sl : Nat} {M : vj_M} (hm : vq_m L ρ h cnt nty ce sl M) : vq_m L ρ' h cnt nty ce sl M := ⟨hm.1, hm.2.1, hm.2.2.1, hm.2.2.2.1, hm.2.2.2.2.1, fun i hi => (hm.2.2.2.2.2 i hi).up hr⟩
theorem vq_l.at {α β : Type} {R : α → β → Prop} : ∀ {vs : List α} {ws : List β}, vq_l R vs ws → ∀ {i : Nat} {v : α}, vs[i]? = some v → ∃ w, ws[i]? = some w ∧ R v w
  | [], [], _, i, v, h => by simp at h
  | v :: vs, w :: ws, h, 0, x, e => ⟨w, rfl, by simp at e; rw [← e]; exact h.1⟩
  | v :: vs, w :: ws, h, i + 1, x, e => by
    obtain ⟨y, h1, h2⟩ := vq_l.at h.2 (i := i) (v := x) (by simpa using e)
    exact ⟨y, by simpa using h1, h2⟩
  | [], _ :: _, h, _, _, _ => h.elim
  | _ :: _, [], h, _, _, _ => h.elim
theorem vq_l.set {α β : Type} {R : α → β → Prop} {v : α} {w : β} (hv : R v w) : ∀ {vs : List α} {ws : List β}, vq_l R vs ws → ∀ i : Nat, vq_l R (vs.set i v) (ws.set i w)
  | [], [], _, _ => trivial
  | _ :: vs, _ :: ws, h, 0 => ⟨hv, h.2⟩
  | _ :: vs, _ :: ws, h, i + 1 => ⟨h.1, vq_l.set hv h.2 i⟩
  | [], _ :: _, h, _ => h.elim
  | _ :: _, [], h, _ => h.elim
theorem vq_l.len {α β : Type} {R : α → β → Prop} : ∀ {vs : List α} {ws : List β}, vq_l R vs ws → vs.length = ws.length
  | [], [], _ => rfl
  | _ :: vs, _ :: ws, h => by simp [vq_l.len h.2]
  | [], _ :: _, h => h.elim
  | _ :: _, [], h => h.elim
theorem vq_l.cat {α β : Type} {R : α → β → Prop} : ∀ {vs us : List α} {ws ys : List β}, vq_l R vs ws → vq_l R us ys → vq_l R (vs ++ us) (ws ++ ys)
  | [], _, [], _, _, h => h
  | _ :: vs, us, _ :: ws, ys, g, h => ⟨g.1, vq_l.cat g.2 h⟩
  | [], _, _ :: _, _, h, _ => h.elim
  | _ :: _, _, [], _, h, _ => h.elim
theorem vq_l.app {α β : Type} {R : α → β → Prop} : ∀ {vs us : List α} {ws : List β}, vq_l R (vs ++ us) ws → ∃ w1 w2, ws = w1 ++ w2 ∧ w1.length = vs.length ∧ vq_l R vs w1 ∧ vq_l R us w2
  | [], us, ws, h => ⟨[], ws, rfl, rfl, trivial, h⟩
  | v :: vs, us, w :: ws, h => by
    obtain ⟨w1, w2, e, e1, h1, h2⟩ := vq_l.app h.2
    exact ⟨w :: w1, w2, by rw [e]; rfl, by simp [e1], ⟨h.1, h1⟩, h2⟩
  | _ :: _, _, [], h => h.elim
theorem vq_l.rev {α β : Type} {R : α → β → Prop} : ∀ {vs : List α} {ws : List β}, vq_l R vs ws → vq_l R vs.reverse ws.reverse
  | [], [], _ => trivial
  | v :: vs, w :: ws, h => by
    rw [List.reverse_cons, List.reverse_cons]
    exact vq_l.cat (vq_l.rev h.2) ⟨h.1, trivial⟩
  | [], _ :: _, h => h.elim
  | _ :: _, [], h => h.elim
theorem vq_two {a : vi_V} {v : Value} (h : vq_r L ρ a v) : vi_two a = vj_two v := by
  obtain ⟨t, u⟩ := a
  unfold vq_r at h
  match t, h with
  | 0, h => rw [h]; rfl
  | 1, h => obtain ⟨x, -, h⟩ := h; rw [h]; rfl
  | 2, h => rw [h]; rfl
  | 3, h => rw [h]; rfl
  | 4, h => rw [h]; rfl
  | 6, h => rw [h.1]; rfl
  | 7, h => rw [h.1]; rfl
  | 8, h => rw [h]; rfl
  | 9, h => rw [h]; rfl
theorem vq_cat : ∀ {vs : List vi_V} {ws : List Value}, vq_l (vq_r L ρ) vs ws → vi_cat vs = vj_cat ws
  | [], [], _ => rfl
  | v :: vs, w :: ws, h => by
    have h2 := vq_cat h.2
    have h1 := vq_two h.1
    rw [vj_two_cat] at h1
    show (bif vi_two v then 2 else 1) + vi_cat vs = _
    unfold vj_cat at h2 ⊢
    rw [List.map_cons, List.sum_cons, h2, h1]
    rcases lv_cat w with e | e <;> rw [e] <;> rfl
  | [], _ :: _, h => h.elim
  | _ :: _, [], h => h.elim
theorem vb_lg {lv : vi_W} {i : Nat} : vi_lg lv i = (lv[i]?).getD none := by
  unfold vi_lg
  rw [vb_nth]
  cases lv[i]? <;> rfl
theorem vq_w.sets {R : vi_V → Value → Prop} {lv : vi_W} {lc : List (Option Value)} (h : vq_w R lv lc) (i : Nat) {o : Option vi_V} {o' : Option Value} (ho : ∀ a, o = some a → ∃ v, o' = some v ∧ R a v) : vq_w R (vi_set lv i o) (lc.set i o') := by
  rw [vb_set]
  refine ⟨by rw [List.length_set, List.length_set]; exact h.1, fun j a hj => ?_⟩
  rw [vb_lg] at hj
  by_cases e : j = i
  · subst e
    by_cases hl : j < lv.length
    · rw [List.getElem?_set_self hl] at hj
      obtain ⟨v, h1, h2⟩ := ho a hj
      refine ⟨v, ?_, h2⟩
      unfold vj_lget
      rw [List.getElem?_set_self (by rw [← h.1]; exact hl)]
      exact h1
    · rw [List.getElem?_eq_none (by rw [List.length_set]; omega)] at hj; cases hj
  · rw [List.getElem?_set_ne (Ne.symm e), ← vb_lg] at hj
    obtain ⟨v, h1, h2⟩ := h.2 j a hj
    refine ⟨v, ?_, h2⟩
    unfold vj_lget at h1 ⊢
    rw [List.getElem?_set_ne (Ne.symm e)]
    exact h1
theorem vq_w.setR {R : vi_V → Value → Prop} {lv : vi_W} {lc : List (Option Value)} (h : vq_w R lv lc) {i : Nat} (hi : vi_lg lv i = none) (o' : Option Value) : vq_w R lv (lc.set i o') := by
  refine ⟨by rw [List.length_set]; exact h.1, fun j a hj => ?_⟩
  have e : j ≠ i := by
    intro e
    rw [e, hi] at hj; cases hj
  obtain ⟨v, h1, h2⟩ := h.2 j a hj
  refine ⟨v, ?_, h2⟩
  unfold vj_lget at h1 ⊢
  rw [List.getElem?_set_ne (Ne.symm e)]
  exact h1
theorem vi_kill_s (lv : vi_W) (i : Nat) : vi_kill lv (i + 1) = (match vi_lg lv i with
    | some v => bif vi_two v then vi_set lv i none else lv
    | none => lv) := rfl
theorem vj_kill_s (lv : List (Option Value)) (i : Nat) : vj_kill lv (i + 1) = (match vj_lget lv i with
    | some v => if vj_two v = true then lv.set i none else lv
    | none => lv) := rfl
theorem vq_w.kill {lv : vi_W} {lc : List (Option Value)} (h : vq_w (vq_r L ρ) lv lc) (i : Nat) : vq_w (vq_r L ρ) (vi_kill lv i) (vj_kill lc i) := by
  cases i with
  | zero => exact h
  | succ i =>
    rw [vi_kill_s, vj_kill_s]
    cases hg : vi_lg lv i with
    | none =>
      cases hc : vj_lget lc i with
      | none => exact h
      | some v =>
        show vq_w _ lv (if vj_two v = true then lc.set i none else lc)
        by_cases e : vj_two v = true
        · rw [if_pos e]; exact h.setR hg none
        · rw [if_neg e]; exact h
    | some a =>
      obtain ⟨v, h1, h2⟩ := h.2 i a hg
      rw [h1]
      show vq_w _ (bif vi_two a then vi_set lv i none else lv) (if vj_two v = true then lc.set i none else lc)
      rw [vq_two h2]
      cases e : vj_two v with
      | false => exact h
      | true => exact h.sets i (fun a ha => nomatch ha)
theorem vq_w.lset {lv : vi_W} {lc : List (Option Value)} (h : vq_w (vq_r L ρ) lv lc) (i : Nat) {a : vi_V} {v : Value} (hv : vq_r L ρ a v) : vq_w (vq_r L ρ) (vi_lset lv i a) (vj_lset lc i v) := by
  unfold vi_lset vj_lset
  rw [vq_two hv]
  have h1 := (h.kill i).sets i (o := some a) (o' := some v) (fun b hb => by cases hb; exact ⟨v, rfl, hv⟩)
  cases e : vj_two v with
  | false => exact h1
  | true => exact h1.sets (i + 1) (fun a ha => nomatch ha)
theorem vq_w.lclr {lv : vi_W} {lc : List (Option Value)} (h : vq_w (vq_r L ρ) lv lc) (i : Nat) : vq_w (vq_r L ρ) (vi_lclr lv i) (vj_lclr lc i) := (h.kill i).sets i (fun a ha => nomatch ha)
theorem vq_spread : ∀ {vs : List vi_V} {ws : List Value}, vq_l (vq_r L ρ) vs ws → vq_w (vq_r L ρ) (vi_spread vs) (vj_spread ws)
  | [], [], _ => ⟨rfl, fun i a h => by rw [vb_lg] at h; simp [vi_spread] at h⟩
  | v :: vs, w :: ws, h => by
    have ih := vq_spread h.2
    have h1 := vq_two h.1
    have e1 : vi_spread (v :: vs) = some v :: (bif vi_two v then none :: vi_spread vs else vi_spread vs) := rfl
    have e2 : vj_spread (w :: ws) = some w :: (if vj_two w = true then none :: vj_spread ws else vj_spread ws) := rfl
    rw [e1, e2, h1]
    have step : ∀ {R : vi_V → Value → Prop} {lv : vi_W} {lc : List (Option Value)} (o : Option vi_V) (o' : Option Value), vq_w R lv lc → (∀ a, o = some a → ∃ v, o' = some v ∧ R a v) → vq_w R (o :: lv) (o' :: lc) := by
      intro R lv lc o o' h ho
      refine ⟨by simp [h.1], fun i a hi => ?_⟩
      cases i with
      | zero =>
        rw [vb_lg] at hi
        obtain ⟨v, q1, q2⟩ := ho a (by simpa using hi)
        exact ⟨v, by unfold vj_lget; simpa using q1, q2⟩
      | succ i =>
        rw [vb_lg] at hi
        obtain ⟨v, q1, q2⟩ := h.2 i a (by rw [vb_lg]; simpa using hi)
        exact ⟨v, by unfold vj_lget at q1 ⊢; simpa using q1, q2⟩
    cases e : vj_two w with
    | false => exact step _ _ ih (fun a ha => by cases ha; exact ⟨w, rfl, h.1⟩)
    | true => exact step _ _ (step none none ih (fun a ha => nomatch ha)) (fun a ha => by cases ha; exact ⟨w, rfl, h.1⟩)
  | [], _ :: _, h => h.elim
  | _ :: _, [], h => h.elim
theorem vq_args {vs : List vi_V} {ws : List Value} (h : vq_l (vq_r L ρ) vs ws) (n : Nat) : vq_w (vq_r L ρ) (vi_pad n (vi_spread vs)) (vj_args n ws) := by
  have h1 := vq_spread h
  unfold vi_pad vj_args
  refine ⟨by rw [List.length_append, List.length_append, h1.1, List.length_replicate, List.length_replicate], fun i a hi => ?_⟩
  rw [vb_lg] at hi
  by_cases e : i < (vi_spread vs).length
  · rw [List.getElem?_append_left e, ← vb_lg] at hi
    obtain ⟨v, q1, q2⟩ := h1.2 i a hi
    refine ⟨v, ?_, q2⟩
    unfold vj_lget at q1 ⊢
    rw [List.getElem?_append_left (by rw [← h1.1]; exact e)]
    exact q1
  · rw [List.getElem?_append_right (by omega)] at hi
    by_cases e2 : i - (vi_spread vs).length < n - (vi_spread vs).length
    · rw [List.getElem?_replicate, if_pos e2] at hi; cases hi
    · rw [List.getElem?_replicate, if_neg e2] at hi; cases hi
end
/-! ranges -/
section
variable {L : Nat} {xs : Nat → Int32} {ρ : List Int32} {sg : vi_G}
theorem vq_rng (hg : vq_g L xs ρ sg) {a : vi_V} {v : Value} (hv : vq_r L ρ a v) {r : Nat × Nat} (h : vi_rng sg a = some r) : ∃ x, v = .int x ∧ r.1 ≤ vb_b x ∧ vb_b x ≤ r.2 ∧ (a.1 = 1 → ρ[a.2]? = some x) ∧ (a.1 = 0 ∨ a.1 = 1) := by
  obtain ⟨t, u⟩ := a
  unfold vi_rng at h
  unfold vq_r at hv
  match t, h, hv with
  | 0, h, hv =>
    have h := Option.some.inj h
    subst h
    refine ⟨nI u, (show v = .int (nI u) from hv), ?_, ?_, (fun (q : (0 : Nat) = 1) => nomatch q), Or.inl rfl⟩
    · rw [vb_nI]; exact Nat.le_refl _
    · rw [vb_nI]; exact Nat.le_refl _
  | 1, h, hv =>
    obtain ⟨x, h1, h2⟩ := hv
    have h : vi_nth sg u = some r := h
    rw [vb_nth] at h
    obtain ⟨y, h3, h4, h5⟩ := hg.2.1 u r h
    have h1 : ρ[u]? = some x := h1
    rw [h1] at h3
    cases h3
    exact ⟨x, h2, h4, h5, fun _ => h1, Or.inr rfl⟩
theorem vq_lit (hg : vq_g L xs ρ sg) {a : vi_V} {v : Value} (hv : vq_r L ρ a v) {u : Nat} (h : vi_lit sg a = some u) : v = .int (nI u) ∧ u < 4294967296 := by
  unfold vi_lit at h
  cases hr : vi_rng sg a with
  | none => rw [hr] at h; cases h
  | some r =>
    rw [hr] at h
    have h : (bif Nat.beq r.1 r.2 then some (Nat.mod (r.1 + 2147483648) 4294967296) else none) = some u := h
    obtain ⟨x, h1, h2, h3, -⟩ := vq_rng hg hv hr
    cases hb : Nat.beq r.1 r.2 with
    | false => rw [hb] at h; cases h
    | true =>
      rw [hb] at h
      have e := Nat.eq_of_beq_eq_true hb
      have h : some (Nat.mod (r.1 + 2147483648) 4294967296) = some u := h
      have h := Option.some.inj h
      have e2 : r.1 = vb_b x := by omega
      rw [e2] at h
      refine ⟨by rw [h1, ← h]; exact congrArg Value.int (vb_of x), ?_⟩
      rw [← h]
      exact Nat.mod_lt _ (by omega)
/-- one range is made smaller -/
theorem vq_g.ref (hg : vq_g L xs ρ sg) {a : vi_V} {x : Int32} (hx : a.1 = 1 → ρ[a.2]? = some x) {r : Nat × Nat} (h1 : r.1 ≤ vb_b x) (h2 : vb_b x ≤ r.2) : vq_g L xs ρ (vi_ref sg a r) := by
  unfold vi_ref
  cases e : Nat.beq a.1 1 with
  | false => exact hg
  | true =>
    have e := hx (Nat.eq_of_beq_eq_true e)
    show vq_g L xs ρ (vi_set sg a.2 r)
    rw [vb_set]
    refine ⟨by rw [List.length_set]; exact hg.1, fun k q hk => ?_, hg.2.2⟩
    by_cases ek : k = a.2
    · subst ek
      by_cases hl : a.2 < sg.length
      · rw [List.getElem?_set_self hl] at hk
        cases hk
        exact ⟨x, e, h1, h2⟩
      · rw [List.getElem?_eq_none (by rw [List.length_set]; omega)] at hk; cases hk
    · rw [List.getElem?_set_ne (Ne.symm ek)] at hk
      exact hg.2.1 k q hk
/-- a new unknown -/
theorem vq_g.new (hg : vq_g L xs ρ sg) {x : Int32} {r : Nat × Nat} (h1 : r.1 ≤ vb_b x) (h2 : vb_b x ≤ r.2) : vq_g L xs (ρ ++ [x]) (sg ++ [r]) := by
  obtain ⟨g1, g2, g4, g5⟩ := hg
  refine ⟨by simp [g1], fun k q hk => ?_, fun j hj => vs_pre.at ⟨_, rfl⟩ (g4 j hj), vs_pre.at ⟨_, rfl⟩ g5⟩
  by_cases e : k < sg.length
  · rw [List.getElem?_append_left e] at hk
    obtain ⟨y, h3, h4⟩ := g2 k q hk
    exact ⟨y, vs_pre.at ⟨_, rfl⟩ h3, h4⟩
  · have ek : k = sg.length := by
      have := (List.getElem?_eq_some_iff.mp hk).1
      rw [List.length_append] at this
      simp at this; omega
    rw [ek, List.getElem?_append_right (Nat.le_refl _), Nat.sub_self] at hk
    cases hk
    exact ⟨x, by rw [ek, g1, List.getElem?_append_right (Nat.le_refl _), Nat.sub_self]; rfl, h1, h2⟩
theorem vq_new {x : Int32} (hg : vq_g L xs ρ sg) : vq_r L (ρ ++ [x]) (1, sg.length) (.int x) := ⟨x, by
  show (ρ ++ [x])[sg.length]? = some x
  rw [hg.1, List.getElem?_append_right (Nat.le_refl _), Nat.sub_self]; rfl, rfl⟩
theorem vi_bif {b : Bool} {x y : Bool} (h : (bif b then x else y) = true) : (b = true ∧ x = true) ∨ (b = false ∧ y = true) := by
  cases b with
  | true => exact Or.inl ⟨rfl, h⟩
  | false => exact Or.inr ⟨rfl, h⟩
theorem vi_nble {x y : Nat} (h : Nat.ble x y = false) : y < x := by
  rcases Nat.lt_or_ge y x with q | q
  · exact q
  · rw [Nat.ble_eq_true_of_le q] at h; cases h
theorem vi_mn (a b : Nat) : vi_min a b = min a b := by
  unfold vi_min
  cases h : Nat.ble a b with
  | true => have := Nat.le_of_ble_eq_true h; show a = _; omega
  | false => have := vi_nble h; show b = _; omega
theorem vi_mx (a b : Nat) : vi_max a b = max a b := by
  unfold vi_max
  cases h : Nat.ble a b with
  | true => have := Nat.le_of_ble_eq_true h; show b = _; omega
  | false => have := vi_nble h; show a = _; omega
/-- less -/
theorem vq_lt (hg : vq_g L xs ρ sg) {a c : vi_V} {v w : Value} (ha : vq_r L ρ a v) (hc : vq_r L ρ c w) {kt kf : vi_G → Bool} (h : vi_lt sg a c kt kf = true) : ∃ x y sg', v = .int x ∧ w = .int y ∧ vq_g L xs ρ sg' ∧ ((x < y ∧ kt sg' = true) ∨ (¬ x < y ∧ kf sg' = true)) := by
  unfold vi_lt at h
  cases hr : vi_rng sg a with
  | none => rw [hr] at h; cases h
  | some ra =>
    cases hs : vi_rng sg c with
    | none => rw [hr, hs] at h; cases h
    | some rc =>
      obtain ⟨la, ha'⟩ := ra
      obtain ⟨lb, hb'⟩ := rc
      rw [hr, hs] at h
      dsimp only at h
      obtain ⟨x, x1, x2, x3, x4, -⟩ := vq_rng hg ha hr
      obtain ⟨y, y1, y2, y3, y4, -⟩ := vq_rng hg hc hs
      dsimp only at x2 x3 y2 y3
      rcases vi_bif h with ⟨e1, h⟩ | ⟨e1, h⟩
      · have e1 := Nat.le_of_ble_eq_true e1
        exact ⟨x, y, sg, x1, y1, hg, Or.inl ⟨(vb_lt x y).mpr (by omega), h⟩⟩
      · rcases vi_bif h with ⟨e2, h⟩ | ⟨e2, h⟩
        · have e2 := Nat.le_of_ble_eq_true e2
          exact ⟨x, y, sg, x1, y1, hg, Or.inr ⟨fun q => by have := (vb_lt x y).mp q; omega, h⟩⟩
        · obtain ⟨k1, k2⟩ := vz_and h
          by_cases q : x < y
          · have q1 := (vb_lt x y).mp q
            refine ⟨x, y, _, x1, y1, ?_, Or.inl ⟨q, k1⟩⟩
            have g1 := hg.ref x4 (r := (la, vi_min ha' (hb' - 1))) x2 (by show _ ≤ vi_min _ _; rw [vi_mn]; omega)
            exact g1.ref y4 (by show vi_max _ _ ≤ _; rw [vi_mx]; omega) y3
          · have q1 : vb_b y ≤ vb_b x := by
              rcases Nat.lt_or_ge (vb_b x) (vb_b y) with z | z
              · exact absurd ((vb_lt x y).mpr z) q
              · exact z
            refine ⟨x, y, _, x1, y1, ?_, Or.inr ⟨q, k2⟩⟩
            have g1 := hg.ref x4 (r := (vi_max la lb, ha')) (by show vi_max _ _ ≤ _; rw [vi_mx]; omega) x3
            exact g1.ref y4 y2 (by show _ ≤ vi_min _ _; rw [vi_mn]; omega)
theorem vq_trim {sg : vi_G} (hg : vq_g L xs ρ sg) {a : vi_V} {x y : Int32} (hx : a.1 = 1 → ρ[a.2]? = some x) {rx ry : Nat × Nat} (h1 : rx.1 ≤ vb_b x) (h2 : vb_b x ≤ rx.2) (h3 : ry.1 ≤ vb_b y) (h4 : vb_b y ≤ ry.2) (hne : vb_b x ≠ vb_b y) : vq_g L xs ρ (vi_trim sg a rx ry) := by
  unfold vi_trim
  cases e : Nat.beq ry.1 ry.2 with
  | false => exact hg
  | true =>
    have e := Nat.eq_of_beq_eq_true e
    refine hg.ref hx ?_ ?_
    · show (bif Nat.beq rx.1 ry.1 then rx.1 + 1 else rx.1) ≤ _
      cases e2 : Nat.beq rx.1 ry.1 with
      | false => exact h1
      | true => have e2 := Nat.eq_of_beq_eq_true e2; show rx.1 + 1 ≤ _; omega
    · show _ ≤ (bif Nat.beq rx.2 ry.1 then rx.2 - 1 else rx.2)
      cases e2 : Nat.beq rx.2 ry.1 with
      | false => exact h2
      | true => have e2 := Nat.eq_of_beq_eq_true e2; show _ ≤ rx.2 - 1; omega
theorem vq_eq (hg : vq_g L xs ρ sg) {a c : vi_V} {v w : Value} (ha : vq_r L ρ a v) (hc : vq_r L ρ c w) {kt kf : vi_G → Bool} (h : vi_eq sg a c kt kf = true) : ∃ x y sg', v = .int x ∧ w = .int y ∧ vq_g L xs ρ sg' ∧ ((x = y ∧ kt sg' = true) ∨ (¬ x = y ∧ kf sg' = true)) := by
  unfold vi_eq at h
  cases hr : vi_rng sg a with
  | none => rw [hr] at h; cases h
  | some ra =>
    cases hs : vi_rng sg c with
    | none => rw [hr, hs] at h; cases h
    | some rc =>
      obtain ⟨la, ha'⟩ := ra
      obtain ⟨lb, hb'⟩ := rc
      rw [hr, hs] at h
      dsimp only at h
      obtain ⟨x, x1, x2, x3, x4, -⟩ := vq_rng hg ha hr
      obtain ⟨y, y1, y2, y3, y4, -⟩ := vq_rng hg hc hs
      dsimp only at x2 x3 y2 y3
      rcases vi_bif h with ⟨e1, h⟩ | ⟨e1, h⟩
      · refine ⟨x, y, sg, x1, y1, hg, Or.inr ⟨fun q => ?_, h⟩⟩
        rcases vz_or e1 with e1 | e1
        · have e1 := Nat.le_of_ble_eq_true e1
          rw [q] at x3; omega
        · have e1 := Nat.le_of_ble_eq_true e1
          rw [q] at x2; omega
      · rcases vi_bif h with ⟨e2, h⟩ | ⟨e2, h⟩
        · obtain ⟨e3, e4⟩ := vz_and e2
          have e3 := Nat.eq_of_beq_eq_true e3
          have e4 := Nat.eq_of_beq_eq_true e4
          have e5 : ¬ (ha' + 1 ≤ lb ∨ hb' + 1 ≤ la) := by
            intro q
            rcases q with q | q
            · rw [Nat.ble_eq_true_of_le q] at e1; cases e1
            · rw [Nat.ble_eq_true_of_le q] at e1
              rw [Bool.or_true] at e1; cases e1
          exact ⟨x, y, sg, x1, y1, hg, Or.inl ⟨vb_inj (by omega), h⟩⟩
        · obtain ⟨k1, k2⟩ := vz_and h
          by_cases q : x = y
          · have q1 := (vb_eq x y).mp q
            refine ⟨x, y, _, x1, y1, ?_, Or.inl ⟨q, k1⟩⟩
            have g1 := hg.ref x4 (r := (vi_max la lb, vi_min ha' hb')) (by show vi_max _ _ ≤ _; rw [vi_mx]; omega) (by show _ ≤ vi_min _ _; rw [vi_mn]; omega)
            exact g1.ref y4 (by show vi_max _ _ ≤ _; rw [vi_mx]; omega) (by show _ ≤ vi_min _ _; rw [vi_mn]; omega)
          · have q1 : vb_b x ≠ vb_b y := fun z => q (vb_inj z)
            refine ⟨x, y, _, x1, y1, ?_, Or.inr ⟨q, k2⟩⟩
            exact vq_trim (vq_trim hg x4 x2 x3 y2 y3 q1) y4 y2 y3 x2 x3 (Ne.symm q1)
/-- a comparison, by its number -/
theorem vq_cmp (hg : vq_g L xs ρ sg) {cn : Nat} {a c : vi_V} {v w : Value} (ha : vq_r L ρ a v) (hc : vq_r L ρ c w) {kt kf : vi_G → Bool} (h : vi_cmp sg cn a c kt kf = true) : ∃ x y sg', v = .int x ∧ w = .int y ∧ vq_g L xs ρ sg' ∧ ((vj_cond cn x y = true ∧ kt sg' = true) ∨ (¬ vj_cond cn x y = true ∧ kf sg' = true)) := by
  match cn, h with
  | 0, h =>
    obtain ⟨x, y, s, h1, h2, h3, h4⟩ := vq_eq hg ha hc h
    refine ⟨x, y, s, h1, h2, h3, h4.imp (fun q => ⟨decide_eq_true q.1, q.2⟩) (fun q => ⟨fun z => q.1 (of_decide_eq_true (p := x = y) z), q.2⟩)⟩
  | 1, h =>
    obtain ⟨x, y, s, h1, h2, h3, h4⟩ := vq_eq hg ha hc h
    refine ⟨x, y, s, h1, h2, h3, h4.symm.imp (fun q => ⟨decide_eq_true q.1, q.2⟩) (fun q => ⟨fun z => (of_decide_eq_true (p := ¬ x = y) z) q.1, q.2⟩)⟩
  | 2, h =>
    obtain ⟨x, y, s, h1, h2, h3, h4⟩ := vq_lt hg ha hc h
    refine ⟨x, y, s, h1, h2, h3, h4.imp (fun q => ⟨decide_eq_true q.1, q.2⟩) (fun q => ⟨fun z => q.1 (of_decide_eq_true (p := x < y) z), q.2⟩)⟩
  | 3, h =>
    obtain ⟨x, y, s, h1, h2, h3, h4⟩ := vq_lt hg ha hc h
    have e : ∀ x y : Int32, y ≤ x ↔ ¬ x < y := fun x y => by rw [vb_le, vb_lt]; omega
    refine ⟨x, y, s, h1, h2, h3, h4.symm.imp (fun q => ⟨decide_eq_true ((e x y).mpr q.1), q.2⟩) (fun q => ⟨fun z => (e x y).mp (of_decide_eq_true (p := y ≤ x) z) q.1, q.2⟩)⟩
  | 4, h =>
    obtain ⟨y, x, s, h1, h2, h3, h4⟩ := vq_lt hg hc ha h
    refine ⟨x, y, s, h2, h1, h3, h4.imp (fun q => ⟨decide_eq_true q.1, q.2⟩) (fun q => ⟨fun z => q.1 (of_decide_eq_true (p := y < x) z), q.2⟩)⟩
  | 5, h =>
    obtain ⟨y, x, s, h1, h2, h3, h4⟩ := vq_lt hg hc ha h
    have e : ∀ x y : Int32, x ≤ y ↔ ¬ y < x := fun x y => by rw [vb_le, vb_lt]; omega
    refine ⟨x, y, s, h2, h1, h3, h4.symm.imp (fun q => ⟨decide_eq_true ((e x y).mpr q.1), q.2⟩) (fun q => ⟨fun z => (e x y).mp (of_decide_eq_true (p := x ≤ y) z) q.1, q.2⟩)⟩
end
end VQ
