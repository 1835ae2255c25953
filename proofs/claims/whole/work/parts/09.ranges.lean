/-! ===== ranges, and the world under them ===== -/
section VY
variable {b L : Nat} {xs : Nat → Int32} {en : Nat → Nat} {ad : List Nat} {ρ : List Int32} {tys : List (ClassId × FieldType)} {ws : va_W} {h : vi_H} {cnt nty : Nat} {sg : vi_G}
theorem vy_rng (hw : vs_w b L xs en ad ρ tys ws h cnt nty sg) {v : vi_V} {r : Nat × Nat} (hr : vi_rng sg v = some r) {w : Value} (hv : vs_r b L en ad ρ v w) : ∃ x, w = .int x ∧ r.1 ≤ vb_b x ∧ vb_b x ≤ r.2 := by
  obtain ⟨t, u⟩ := v
  unfold vi_rng at hr
  unfold vs_r at hv
  match t, hr, hv with
  | 0, hr, hv =>
    have e := Option.some.inj hr
    subst e
    exact ⟨_, hv, by rw [vb_nI]; exact Nat.le_refl _, by rw [vb_nI]; exact Nat.le_refl _⟩
  | 1, hr, hv =>
    obtain ⟨x, h1, h2⟩ := hv
    have hr' : sg[u]? = some r := by rw [← vb_nth]; exact hr
    obtain ⟨y, g1, g2, g3⟩ := hw.2.2.2.2.2.2.1 u r hr'
    have e : x = y := Option.some.inj (h1.symm.trans g1)
    subst e
    exact ⟨x, h2, g2, g3⟩
theorem vy_one {x : Int32} {lo hi : Nat} (h : lo = hi) (h1 : lo ≤ vb_b x) (h2 : vb_b x ≤ hi) : x = nI ((lo + 2147483648) % 4294967296) := by
  have e : lo = vb_b x := by omega
  rw [e]; exact vb_of x
theorem vy_lit (hw : vs_w b L xs en ad ρ tys ws h cnt nty sg) {v : vi_V} {u : Nat} (hr : vi_lit sg v = some u) {w : Value} (hv : vs_r b L en ad ρ v w) : w = .int (nI u) ∧ u < 4294967296 := by
  unfold vi_lit at hr
  cases hq : vi_rng sg v with
  | none => rw [hq] at hr; cases hr
  | some r =>
    rw [hq] at hr
    obtain ⟨x, h1, h2, h3⟩ := vy_rng hw hq hv
    by_cases e : r.1 = r.2
    · have e' : Nat.beq r.1 r.2 = true := by rw [e]; exact Nat.beq_refl _
      have hr' : (bif Nat.beq r.1 r.2 then some (Nat.mod (r.1 + 2147483648) 4294967296) else none) = some u := hr
      rw [e'] at hr'
      have e2 := Option.some.inj hr'
      subst e2
      exact ⟨by rw [h1, vy_one e h2 h3]; rfl, Nat.mod_lt _ (by omega)⟩
    · have e' : Nat.beq r.1 r.2 = false := by
        cases hb : Nat.beq r.1 r.2 with
        | false => rfl
        | true => exact absurd (Nat.eq_of_beq_eq_true hb) e
      have hr' : (bif Nat.beq r.1 r.2 then some (Nat.mod (r.1 + 2147483648) 4294967296) else none) = some u := hr
      rw [e'] at hr'
      cases hr'
theorem vy_set (hw : vs_w b L xs en ad ρ tys ws h cnt nty sg) {k : Nat} {r : Nat × Nat} (hk : ∀ x, ρ[k]? = some x → r.1 ≤ vb_b x ∧ vb_b x ≤ r.2) : vs_w b L xs en ad ρ tys ws h cnt nty (vi_set sg k r) := by
  obtain ⟨h1, h2, h3, h4, h5, h6, h7, h8⟩ := hw
  rw [vb_set]
  refine ⟨h1, h2, h3, h4, h5, by rw [List.length_set]; exact h6, fun j q hj => ?_, h8⟩
  rw [List.getElem?_set] at hj
  by_cases e : k = j
  · subst e
    rw [if_pos rfl] at hj
    split at hj
    · next hlt =>
      cases hj
      have hlt' : k < ρ.length := by omega
      obtain ⟨x, hx⟩ : ∃ x, ρ[k]? = some x := ⟨_, List.getElem?_eq_getElem hlt'⟩
      exact ⟨x, hx, hk x hx⟩
    · cases hj
  · rw [if_neg e] at hj
    exact h7 j q hj
theorem vy_ref (hw : vs_w b L xs en ad ρ tys ws h cnt nty sg) {v : vi_V} {x : Int32} (hv : vs_r b L en ad ρ v (.int x)) {r : Nat × Nat} (h1 : r.1 ≤ vb_b x) (h2 : vb_b x ≤ r.2) : vs_w b L xs en ad ρ tys ws h cnt nty (vi_ref sg v r) := by
  unfold vi_ref
  obtain ⟨t, u⟩ := v
  by_cases e : t = 1
  · subst e
    have : vs_w b L xs en ad ρ tys ws h cnt nty (vi_set sg u r) := vy_set hw (fun y hy => by
      obtain ⟨z, g1, g2⟩ := hv
      cases g2
      have e : y = x := Option.some.inj (hy.symm.trans g1)
      rw [e]; exact ⟨h1, h2⟩)
    exact this
  · have e' : Nat.beq t 1 = false := by
      cases hb : Nat.beq t 1 with
      | false => rfl
      | true => exact absurd (Nat.eq_of_beq_eq_true hb) e
    show vs_w b L xs en ad ρ tys ws h cnt nty (bif Nat.beq t 1 then vi_set sg u r else sg)
    rw [e']; exact hw
/-- a new unknown -/
theorem vy_sym (hw : vs_w b L xs en ad ρ tys ws h cnt nty sg) {x : Int32} {r : Nat × Nat} (h1 : r.1 ≤ vb_b x) (h2 : vb_b x ≤ r.2) : vs_w b L xs en ad (ρ ++ [x]) tys ws h cnt nty (sg ++ [r]) ∧ vs_r b L en ad (ρ ++ [x]) (1, sg.length) (.int x) ∧ vs_pre ρ (ρ ++ [x]) := by
  obtain ⟨g1, g2, g3, g4, g5, g6, g7, g8, g9, g10⟩ := hw
  have hp : vs_pre ρ (ρ ++ [x]) := ⟨[x], rfl⟩
  refine ⟨⟨g1, g2, g3, g4, fun i e hi => (g5 i e hi).up vs_pre.rf hp vs_pre.rf, by simp [g6], fun k q hk => ?_, g8, fun j hj => hp.at (g9 j hj), hp.at g10⟩, ⟨x, ?_, rfl⟩, hp⟩
  · by_cases e : k < sg.length
    · rw [List.getElem?_append_left e] at hk
      obtain ⟨y, e1, e2⟩ := g7 k q hk
      exact ⟨y, hp.at e1, e2⟩
    · rw [List.getElem?_append_right (by omega)] at hk
      have e0 : k - sg.length = 0 := by
        have := (List.getElem?_eq_some_iff.mp hk).1
        simp at this; omega
      rw [e0] at hk
      simp at hk
      subst hk
      have ek : k = ρ.length := by omega
      exact ⟨x, by rw [ek]; simp, h1, h2⟩
  · show (ρ ++ [x])[sg.length]? = some x
    rw [g6]; simp
theorem vy_beqT {a c : Nat} (h : Nat.beq a c = true) : a = c := Nat.eq_of_beq_eq_true h
theorem vy_min (a c : Nat) : vi_min a c = min a c := by
  unfold vi_min
  by_cases h : a ≤ c
  · rw [Nat.ble_eq_true_of_le h]; show a = _; omega
  · have e : Nat.ble a c = false := by
      cases hb : Nat.ble a c with
      | false => rfl
      | true => exact absurd (Nat.le_of_ble_eq_true hb) h
    rw [e]; show c = _; omega
theorem vy_max (a c : Nat) : vi_max a c = max a c := by
  unfold vi_max
  by_cases h : a ≤ c
  · rw [Nat.ble_eq_true_of_le h]; show c = _; omega
  · have e : Nat.ble a c = false := by
      cases hb : Nat.ble a c with
      | false => rfl
      | true => exact absurd (Nat.le_of_ble_eq_true hb) h
    rw [e]; show a = _; omega
theorem vy_bleF {a c : Nat} (h : ¬ a ≤ c) : Nat.ble a c = false := by
  cases hb : Nat.ble a c with
  | false => rfl
  | true => exact absurd (Nat.le_of_ble_eq_true hb) h
theorem vy_beqF {a c : Nat} (h : ¬ a = c) : Nat.beq a c = false := by
  cases hb : Nat.beq a c with
  | false => rfl
  | true => exact absurd (Nat.eq_of_beq_eq_true hb) h
theorem vy_lt (hw : vs_w b L xs en ad ρ tys ws h cnt nty sg) {x y : vi_V} {kt kf : vi_G → Bool} (hr : vi_lt sg x y kt kf = true) {X Y : Int32} (hx : vs_r b L en ad ρ x (.int X)) (hy : vs_r b L en ad ρ y (.int Y)) :
    (X < Y → ∃ sg', vs_w b L xs en ad ρ tys ws h cnt nty sg' ∧ kt sg' = true) ∧ (¬ X < Y → ∃ sg', vs_w b L xs en ad ρ tys ws h cnt nty sg' ∧ kf sg' = true) := by
  unfold vi_lt at hr
  cases h1 : vi_rng sg x with
  | none => rw [h1] at hr; cases hr
  | some rx =>
    cases h2 : vi_rng sg y with
    | none => rw [h1, h2] at hr; cases hr
    | some ry =>
      rw [h1, h2] at hr
      obtain ⟨la, ha⟩ := rx
      obtain ⟨lb, hb⟩ := ry
      obtain ⟨X', e1, p1, p2⟩ := vy_rng hw h1 hx
      cases e1
      obtain ⟨Y', e2, q1, q2⟩ := vy_rng hw h2 hy
      cases e2
      dsimp only at hr p1 p2 q1 q2
      rw [vb_lt]
      by_cases c1 : ha + 1 ≤ lb
      · rw [Nat.ble_eq_true_of_le c1] at hr
        exact ⟨fun _ => ⟨sg, hw, hr⟩, fun z => absurd (by omega) z⟩
      · rw [vy_bleF c1] at hr
        by_cases c2 : hb ≤ la
        · rw [Nat.ble_eq_true_of_le c2] at hr
          exact ⟨fun z => absurd z (by omega), fun _ => ⟨sg, hw, hr⟩⟩
        · rw [vy_bleF c2] at hr
          have hr' := (Bool.and_eq_true _ _).mp hr
          rw [vy_min, vy_max, vy_max, vy_min] at hr'
          refine ⟨fun z => ⟨_, ?_, hr'.1⟩, fun z => ⟨_, ?_, hr'.2⟩⟩
          · exact vy_ref (vy_ref hw hx (by show la ≤ _; omega) (by show _ ≤ min ha (hb - 1); omega)) hy (by show max lb (la + 1) ≤ _; omega) (by show _ ≤ hb; omega)
          · exact vy_ref (vy_ref hw hx (by show max la lb ≤ _; omega) (by show _ ≤ ha; omega)) hy (by show lb ≤ _; omega) (by show _ ≤ min hb ha; omega)
theorem vy_trim (hw : vs_w b L xs en ad ρ tys ws h cnt nty sg) {x : vi_V} {X : Int32} {Y : Nat} (hx : vs_r b L en ad ρ x (.int X)) {rx ry : Nat × Nat} (h1 : rx.1 ≤ vb_b X) (h2 : vb_b X ≤ rx.2) (h3 : ry.1 ≤ Y) (h4 : Y ≤ ry.2) (hne : vb_b X ≠ Y) : vs_w b L xs en ad ρ tys ws h cnt nty (vi_trim sg x rx ry) := by
  unfold vi_trim
  by_cases e : ry.1 = ry.2
  · have e' : Nat.beq ry.1 ry.2 = true := by rw [e]; exact Nat.beq_refl _
    rw [e']
    refine vy_ref hw hx ?_ ?_
    · show (bif Nat.beq rx.1 ry.1 then rx.1 + 1 else rx.1) ≤ _
      by_cases c : rx.1 = ry.1
      · have c' : Nat.beq rx.1 ry.1 = true := by rw [c]; exact Nat.beq_refl _
        rw [c']; show rx.1 + 1 ≤ _; omega
      · rw [vy_beqF c]; exact h1
    · show _ ≤ (bif Nat.beq rx.2 ry.1 then rx.2 - 1 else rx.2)
      by_cases c : rx.2 = ry.1
      · have c' : Nat.beq rx.2 ry.1 = true := by rw [c]; exact Nat.beq_refl _
        rw [c']; show _ ≤ rx.2 - 1; omega
      · rw [vy_beqF c]; exact h2
  · rw [vy_beqF e]; exact hw
theorem vy_eq (hw : vs_w b L xs en ad ρ tys ws h cnt nty sg) {x y : vi_V} {kt kf : vi_G → Bool} (hr : vi_eq sg x y kt kf = true) {X Y : Int32} (hx : vs_r b L en ad ρ x (.int X)) (hy : vs_r b L en ad ρ y (.int Y)) :
    (X = Y → ∃ sg', vs_w b L xs en ad ρ tys ws h cnt nty sg' ∧ kt sg' = true) ∧ (¬ X = Y → ∃ sg', vs_w b L xs en ad ρ tys ws h cnt nty sg' ∧ kf sg' = true) := by
  unfold vi_eq at hr
  cases h1 : vi_rng sg x with
  | none => rw [h1] at hr; cases hr
  | some rx =>
    cases h2 : vi_rng sg y with
    | none => rw [h1, h2] at hr; cases hr
    | some ry =>
      rw [h1, h2] at hr
      obtain ⟨la, ha⟩ := rx
      obtain ⟨lb, hb⟩ := ry
      obtain ⟨X', e1, p1, p2⟩ := vy_rng hw h1 hx
      cases e1
      obtain ⟨Y', e2, q1, q2⟩ := vy_rng hw h2 hy
      cases e2
      dsimp only at hr p1 p2 q1 q2
      rw [vb_eq]
      by_cases c1 : ha + 1 ≤ lb ∨ hb + 1 ≤ la
      · have c' : or (Nat.ble (ha + 1) lb) (Nat.ble (hb + 1) la) = true := by
          rcases c1 with c1 | c1
          · rw [Nat.ble_eq_true_of_le c1]; rfl
          · rw [Nat.ble_eq_true_of_le c1, Bool.or_true]
        rw [c'] at hr
        exact ⟨fun z => by omega, fun _ => ⟨sg, hw, hr⟩⟩
      · have c' : or (Nat.ble (ha + 1) lb) (Nat.ble (hb + 1) la) = false := by
          rw [vy_bleF (fun z => c1 (Or.inl z)), vy_bleF (fun z => c1 (Or.inr z))]; rfl
        rw [c'] at hr
        by_cases c2 : la = ha ∧ lb = hb
        · have c3 : and (Nat.beq la ha) (Nat.beq lb hb) = true := by
            rw [c2.1, c2.2, Nat.beq_refl, Nat.beq_refl]; rfl
          rw [c3] at hr
          exact ⟨fun _ => ⟨sg, hw, hr⟩, fun z => absurd (by omega) z⟩
        · have c3 : and (Nat.beq la ha) (Nat.beq lb hb) = false := by
            by_cases c4 : la = ha
            · rw [vy_beqF (fun z => c2 ⟨c4, z⟩), Bool.and_false]
            · rw [vy_beqF c4]; rfl
          rw [c3] at hr
          have hr' := (Bool.and_eq_true _ _).mp hr
          rw [vy_min, vy_max] at hr'
          refine ⟨fun z => ⟨_, ?_, hr'.1⟩, fun z => ⟨_, ?_, hr'.2⟩⟩
          · exact vy_ref (vy_ref hw hx (by show max la lb ≤ _; omega) (by show _ ≤ min ha hb; omega)) hy (by show max la lb ≤ _; omega) (by show _ ≤ min ha hb; omega)
          · exact vy_trim (Y := vb_b X) (vy_trim (Y := vb_b Y) hw hx p1 p2 q1 q2 z) hy q1 q2 p1 p2 (fun e => z e.symm)
/-- what a comparison asks -/
def vy_hold (cond : Nat) (X Y : Int32) : Prop := match cond with
  | 0 => X = Y
  | 1 => ¬ X = Y
  | 2 => X < Y
  | 3 => Y ≤ X
  | 4 => Y < X
  | _ => X ≤ Y
theorem vy_cmp (hw : vs_w b L xs en ad ρ tys ws h cnt nty sg) {cond : Nat} {x y : vi_V} {kt kf : vi_G → Bool} (hr : vi_cmp sg cond x y kt kf = true) {X Y : Int32} (hx : vs_r b L en ad ρ x (.int X)) (hy : vs_r b L en ad ρ y (.int Y)) :
    (vy_hold cond X Y → ∃ sg', vs_w b L xs en ad ρ tys ws h cnt nty sg' ∧ kt sg' = true) ∧ (¬ vy_hold cond X Y → ∃ sg', vs_w b L xs en ad ρ tys ws h cnt nty sg' ∧ kf sg' = true) := by
  have nlt : ∀ {P Q : Int32}, (P ≤ Q) ↔ ¬ Q < P := fun {P Q} => by rw [vb_le, vb_lt]; omega
  match cond, hr with
  | 0, hr => exact vy_eq hw hr hx hy
  | 1, hr => exact ⟨(vy_eq hw (kt := kf) (kf := kt) hr hx hy).2, fun z => (vy_eq hw (kt := kf) (kf := kt) hr hx hy).1 (Classical.not_not.mp z)⟩
  | 2, hr => exact vy_lt hw hr hx hy
  | 3, hr => exact ⟨fun z => (vy_lt hw (kt := kf) (kf := kt) hr hx hy).2 (nlt.mp z), fun z => (vy_lt hw (kt := kf) (kf := kt) hr hx hy).1 (Classical.not_not.mp (fun q => z (nlt.mpr q)))⟩
  | 4, hr => exact vy_lt hw hr hy hx
  | 5, hr => exact ⟨fun z => (vy_lt hw (kt := kf) (kf := kt) hr hy hx).2 (nlt.mp z), fun z => (vy_lt hw (kt := kf) (kf := kt) hr hy hx).1 (Classical.not_not.mp (fun q => z (nlt.mpr q)))⟩
theorem vy_int {v : vi_V} {w : Value} (hv : vs_r b L en ad ρ v w) (ht : v.1 ≤ 1) : ∃ x, w = .int x := by
  obtain ⟨t, u⟩ := v
  unfold vs_r at hv
  match t, hv, ht with
  | 0, hv, _ => exact ⟨_, hv⟩
  | 1, hv, _ => obtain ⟨x, -, e⟩ := hv; exact ⟨x, e⟩
end VY
