/-! ===== who knows what ===== -/
section VW8
def vu {A : Type} (f : Nat → A) (i : Nat) (x : A) : Nat → A := fun j => if j = i then x else f j
theorem vu_eq {A : Type} (f : Nat → A) (i : Nat) (x : A) : vu f i x i = x := if_pos rfl
theorem vu_ne {A : Type} (f : Nat → A) {i j : Nat} (x : A) (h : ¬ j = i) : vu f i x j = f j := if_neg h
theorem vl_at_put {l : List Int} {z y w : Int} (h0 : 0 ≤ z) (h1 : z < l.length) : vl_at (vl_put l z y) w = if w = z then y else vl_at l w := by
  unfold vl_at vl_put
  rw [if_pos h0]
  by_cases hw : 0 ≤ w
  · rw [if_pos hw, if_pos hw]
    by_cases e : w = z
    · rw [if_pos e, e, List.getElem?_set_self (by omega)]; rfl
    · rw [if_neg e, List.getElem?_set_ne (by omega)]
  · rw [if_neg hw, if_neg hw, if_neg (by omega)]
theorem vk_sum_put {l : List Int} {z y : Int} (h0 : 0 ≤ z) (h1 : z < l.length) : ∀ n : Nat, vk_sum (vl_put l z y) n = if z < n then vk_sum l n - vl_at l z + y else vk_sum l n := by
  intro n
  induction n with
  | zero => rw [if_neg (by omega)]; rfl
  | succ n ih =>
    show vk_sum (vl_put l z y) n + vl_at (vl_put l z y) (n : Int) = if z < ((n + 1 : Nat) : Int) then vk_sum l n + vl_at l (n : Int) - vl_at l z + y else vk_sum l n + vl_at l (n : Int)
    rw [ih, vl_at_put h0 h1]
    by_cases e : (n : Int) = z
    · rw [if_neg (by omega), if_pos e, if_pos (by omega), e]; omega
    · rw [if_neg e]
      by_cases e2 : z < (n : Int)
      · rw [if_pos e2, if_pos (by omega)]; omega
      · rw [if_neg e2, if_neg (by omega)]
theorem vl_at_le_sum {l : List Int} (h : ∀ a : Nat, a < 6 → 0 ≤ vl_at l (a : Int)) : ∀ n, n ≤ 6 → 0 ≤ vk_sum l n ∧ ∀ a : Nat, a < n → vl_at l (a : Int) ≤ vk_sum l n := by
  intro n
  induction n with
  | zero => intro _; exact ⟨Int.le_refl _, fun a ha => absurd ha (Nat.not_lt_zero _)⟩
  | succ n ih =>
    intro hn
    obtain ⟨i1, i2⟩ := ih (by omega)
    have h2 := h n (by omega)
    have e : vk_sum l (n + 1) = vk_sum l n + vl_at l (n : Int) := rfl
    refine ⟨by omega, fun a ha => ?_⟩
    by_cases q : a = n
    · subst q; omega
    · have := i2 a (by omega); omega
/-- the deeds: their authors, numbers, what was known ahead of them -/
def vA (n cm : Int) (au nu : Nat → Int) (ah : Nat → List Int) (he : Nat → List Int) : Prop :=
  ∀ d : Nat, (d : Int) < n → (0 ≤ au d ∧ au d < cm) ∧ nu d = vl_at (ah d) (au d) + 1 ∧ ∀ a : Nat, a < 6 → 0 ≤ vl_at (ah d) (a : Int) ∧ vl_at (ah d) (a : Int) ≤ vl_at (he a) (a : Int)
def vB (n : Int) (au nu : Nat → Int) : Prop := ∀ d d' : Nat, (d : Int) < n → (d' : Int) < n → au d = au d' → nu d = nu d' → d = d'
def vHd (cm : Int) (he wa : Nat → List Int) : Prop := ∀ i : Nat, i < 6 → (he i).length = 6 ∧ (∀ a : Nat, a < 6 → 0 ≤ vl_at (he i) (a : Int) ∧ vl_at (he i) (a : Int) ≤ vl_at (he a) (a : Int)) ∧ (cm ≤ i → wa i = [] ∧ ∀ a : Nat, a < 6 → vl_at (he i) (a : Int) = 0)
def vO1 (n : Int) (au nu : Nat → Int) (ah : Nat → List Int) (o h : List Int) : Prop :=
  o.Nodup ∧ (∀ x ∈ o, 0 ≤ x ∧ x < n) ∧ (∀ d : Nat, (d : Int) < n → ((d : Int) ∈ o ↔ nu d ≤ vl_at h (au d))) ∧ (o.length : Int) = vk_sum h 6 ∧ (∀ j d : Nat, o[j]? = some (d : Int) → ∀ d' : Nat, (d' : Int) < n → nu d' ≤ vl_at (ah d) (au d') → (d' : Int) ∈ o.take j)
def vF (n : Int) (au nu : Nat → Int) (he : Nat → List Int) : Prop := (∀ d : Nat, (d : Int) < n → nu d ≤ vl_at (he (au d).toNat) (au d)) ∧ (∀ a : Nat, a < 6 → ∀ m : Int, 1 ≤ m → m ≤ vl_at (he a) (a : Int) → ∃ d : Nat, (d : Int) < n ∧ au d = a ∧ nu d = m)
def vWt (n : Int) (au nu : Nat → Int) (h w : List Int) : Prop := w.Nodup ∧ ∀ x ∈ w, (0 ≤ x ∧ x < n) ∧ ¬ nu x.toNat ≤ vl_at h (au x.toNat)
def vK (n cm : Int) (au nu : Nat → Int) (ah ord he wa : Nat → List Int) : Prop :=
  (0 ≤ n ∧ n ≤ 120) ∧ (1 ≤ cm ∧ cm ≤ 6) ∧ vA n cm au nu ah he ∧ vB n au nu ∧ vHd cm he wa ∧ (∀ i : Nat, i < 6 → vO1 n au nu ah (ord i) (he i)) ∧ vF n au nu he ∧ ∀ i : Nat, i < 6 → vWt n au nu (he i) (wa i)
/-- no waiting deed could be known now -/
def vRd (ah : Nat → List Int) (h w : List Int) : Prop := ∀ x ∈ w, ¬ ∀ a : Nat, a < 6 → vl_at (ah x.toNat) (a : Int) ≤ vl_at h (a : Int)
theorem vl_at_out {l : List Int} (hl : l.length = 6) {z : Int} (h : ¬ (0 ≤ z ∧ z < 6)) : vl_at l z = -1 := vl_at_no (by omega)
/-- a writer gets to know a deed, all ahead of it known -/
theorem vK_learn {n cm : Int} {au nu : Nat → Int} {ah ord he wa : Nat → List Int} (hK : vK n cm au nu ah ord he wa) {i d : Nat} (hi : (i : Int) < cm) (hd : (d : Int) < n)
    (hn : ¬ nu d ≤ vl_at (he i) (au d)) (ha : ∀ a : Nat, a < 6 → vl_at (ah d) (a : Int) ≤ vl_at (he i) (a : Int)) {wl : List Int} (hw : wl.Nodup) (hw2 : ∀ x ∈ wl, x ∈ wa i ∧ ¬ x = (d : Int)) :
    vK n cm au nu ah (vu ord i (ord i ++ [(d : Int)])) (vu he i (vl_put (he i) (au d) (nu d))) (vu wa i wl) := by
  obtain ⟨hn0, hc, hA, hB, hH, hO, hF, hW⟩ := hK
  have hi6 : i < 6 := by omega
  obtain ⟨hl, hH2, -⟩ := hH i hi6
  obtain ⟨⟨a0, a1⟩, a2, a3⟩ := hA d hd
  obtain ⟨A, eA⟩ : ∃ A : Nat, au d = (A : Int) := ⟨(au d).toNat, by omega⟩
  have hA6 : A < 6 := by omega
  have hprev : vl_at (he i) (A : Int) = nu d - 1 := by
    have := ha A hA6
    rw [eA] at a2 hn
    omega
  have hat : ∀ w : Int, vl_at (vl_put (he i) (au d) (nu d)) w = if w = (A : Int) then nu d else vl_at (he i) w := fun w => by
    rw [vl_at_put (by omega) (by omega), eA]
  have hmono : ∀ w : Int, vl_at (he i) w ≤ vl_at (vl_put (he i) (au d) (nu d)) w := fun w => by
    rw [hat]
    by_cases e : w = (A : Int)
    · rw [if_pos e, e]; omega
    · rw [if_neg e]; omega
  have hdm : ∀ a : Nat, vl_at (he a) (a : Int) ≤ vl_at (vu he i (vl_put (he i) (au d) (nu d)) a) (a : Int) := fun a => by
    by_cases e : a = i
    · rw [e, vu_eq]; exact hmono _
    · rw [vu_ne _ _ e]; omega
  have hF1 := hF.1 d hd
  rw [eA, Int.toNat_natCast] at hF1
  have hAi : ¬ A = i := fun e => by
    rw [eA] at hn
    rw [e] at hF1 hn
    omega
  have hkn : ∀ d' : Nat, (d' : Int) < n → (nu d' ≤ vl_at (vl_put (he i) (au d) (nu d)) (au d') ↔ (nu d' ≤ vl_at (he i) (au d') ∨ d' = d)) := fun d' hd' => by
    rw [hat]
    by_cases e : au d' = (A : Int)
    · rw [if_pos e, e]
      constructor
      · intro h
        by_cases e2 : nu d' = nu d
        · exact Or.inr (hB d' d hd' hd (by rw [e, eA]) e2)
        · exact Or.inl (by omega)
      · intro h
        rcases h with h | h
        · omega
        · rw [h]; exact Int.le_refl _
    · rw [if_neg e]
      constructor
      · exact Or.inl
      · intro h
        rcases h with h | h
        · exact h
        · rw [h] at e; exact absurd eA e
  refine ⟨hn0, hc, ?_, hB, ?_, ?_, ⟨?_, ?_⟩, ?_⟩
  · intro d' hd'
    obtain ⟨b1, b2, b3⟩ := hA d' hd'
    exact ⟨b1, b2, fun a h => ⟨(b3 a h).1, Int.le_trans (b3 a h).2 (hdm a)⟩⟩
  · intro j hj
    obtain ⟨b1, b2, b3⟩ := hH j hj
    by_cases e : j = i
    · subst e
      rw [vu_eq, vu_eq]
      refine ⟨by rw [vl_put_len]; exact b1, fun a h => ⟨Int.le_trans (b2 a h).1 (hmono _), ?_⟩, fun q => absurd q (by omega)⟩
      rw [hat]
      by_cases e2 : (a : Int) = (A : Int)
      · rw [if_pos e2]
        have : a = A := by omega
        subst this
        exact Int.le_trans hF1 (hdm _)
      · rw [if_neg e2]
        exact Int.le_trans (b2 a h).2 (hdm a)
    · rw [vu_ne _ _ e, vu_ne _ _ e]
      exact ⟨b1, fun a h => ⟨(b2 a h).1, Int.le_trans (b2 a h).2 (hdm a)⟩, b3⟩
  · intro j hj
    by_cases e : j = i
    · subst e
      rw [vu_eq, vu_eq]
      obtain ⟨c1, c2, c3, c4, c5⟩ := hO j hj
      have hdn : ¬ (d : Int) ∈ ord j := fun h => hn ((c3 d hd).mp h)
      refine ⟨?_, ?_, ?_, ?_, ?_⟩
      · rw [List.nodup_append]
        refine ⟨c1, List.nodup_cons.mpr ⟨List.not_mem_nil, List.nodup_nil⟩, fun x hx y hy => ?_⟩
        rw [List.mem_singleton] at hy
        rw [hy]
        intro h
        rw [h] at hx
        exact hdn hx
      · intro x hx
        rcases List.mem_append.mp hx with h | h
        · exact c2 x h
        · rw [List.mem_singleton] at h
          rw [h]; omega
      · intro d' hd'
        rw [hkn d' hd', List.mem_append, c3 d' hd', List.mem_singleton]
        constructor
        · intro h
          rcases h with h | h
          · exact Or.inl h
          · exact Or.inr (by omega)
        · intro h
          rcases h with h | h
          · exact Or.inl h
          · exact Or.inr (by omega)
      · rw [List.length_append, vk_sum_put (by omega) (by omega), if_pos (by omega), eA, hprev]
        show ((((ord j).length + 1 : Nat) : Nat) : Int) = _
        omega
      · intro m d2 hm d' hd' hq
        by_cases em : m < (ord j).length
        · rw [List.getElem?_append_left em] at hm
          rw [List.take_append_of_le_length (by omega)]
          exact c5 m d2 hm d' hd' hq
        · have hm2 : m = (ord j).length := by
            have := (List.getElem?_eq_some_iff.mp hm).1
            rw [List.length_append] at this
            have : ([(d : Int)] : List Int).length = 1 := rfl
            omega
          rw [hm2, List.getElem?_append_right (Nat.le_refl _), Nat.sub_self] at hm
          have hd2 : (d : Int) = (d2 : Int) := Option.some.inj hm
          have hd2' : d = d2 := by omega
          subst hd2'
          rw [hm2, List.take_append_of_le_length (Nat.le_refl _), List.take_length, c3 d' hd']
          obtain ⟨⟨q0, q1⟩, -, -⟩ := hA d' hd'
          have := ha (au d').toNat (by omega)
          rw [show (((au d').toNat : Nat) : Int) = au d' by omega] at this
          exact Int.le_trans hq this
    · rw [vu_ne _ _ e, vu_ne _ _ e]
      exact hO j hj
  · intro d' hd'
    obtain ⟨⟨q0, q1⟩, -, -⟩ := hA d' hd'
    have h1 := hF.1 d' hd'
    have h2 := hdm (au d').toNat
    rw [show (((au d').toNat : Nat) : Int) = au d' by omega] at h2
    exact Int.le_trans h1 h2
  · intro a h m m0 m1
    by_cases e : a = i
    · subst e
      rw [vu_eq, hat, if_neg (by omega)] at m1
      exact hF.2 a h m m0 m1
    · rw [vu_ne _ _ e] at m1
      exact hF.2 a h m m0 m1
  · intro j hj
    by_cases e : j = i
    · subst e
      rw [vu_eq, vu_eq]
      refine ⟨hw, fun x hx => ?_⟩
      obtain ⟨x1, x2⟩ := hw2 x hx
      obtain ⟨y1, y2⟩ := (hW j hj).2 x x1
      refine ⟨y1, fun h => ?_⟩
      rcases (hkn x.toNat (by omega)).mp h with h | h
      · exact y2 h
      · exact x2 (by omega)
    · rw [vu_ne _ _ e, vu_ne _ _ e]
      exact hW j hj
/-- a writer does a deed -/
theorem vK_do {n cm : Int} {au nu : Nat → Int} {ah ord he wa : Nat → List Int} (hK : vK n cm au nu ah ord he wa) {w d : Nat} (hw : (w : Int) < cm) (hd : (d : Int) = n) (hn : n < 120) :
    vK (n + 1) cm (vu au d (w : Int)) (vu nu d (vl_at (he w) (w : Int) + 1)) (vu ah d (he w)) (vu ord w (ord w ++ [(d : Int)])) (vu he w (vl_put (he w) (w : Int) (vl_at (he w) (w : Int) + 1))) wa := by
  obtain ⟨hn0, hc, hA, hB, hH, hO, hF, hW⟩ := hK
  have hw6 : w < 6 := by omega
  obtain ⟨hl, hH2, -⟩ := hH w hw6
  have hat : ∀ z : Int, vl_at (vl_put (he w) (w : Int) (vl_at (he w) (w : Int) + 1)) z = if z = (w : Int) then vl_at (he w) (w : Int) + 1 else vl_at (he w) z := fun z => vl_at_put (by omega) (by omega)
  have hmono : ∀ z : Int, vl_at (he w) z ≤ vl_at (vl_put (he w) (w : Int) (vl_at (he w) (w : Int) + 1)) z := fun z => by
    rw [hat]
    by_cases e : z = (w : Int)
    · rw [if_pos e, e]; omega
    · rw [if_neg e]; omega
  have hdm : ∀ a : Nat, vl_at (he a) (a : Int) ≤ vl_at (vu he w (vl_put (he w) (w : Int) (vl_at (he w) (w : Int) + 1)) a) (a : Int) := fun a => by
    by_cases e : a = w
    · rw [e, vu_eq]; exact hmono _
    · rw [vu_ne _ _ e]; omega
  have hd' : ∀ d' : Nat, (d' : Int) < n + 1 → ¬ d' = d → (d' : Int) < n := fun d' h e => by omega
  -- who knew what stays so
  have hknw : ∀ d' : Nat, (d' : Int) < n → (nu d' ≤ vl_at (vl_put (he w) (w : Int) (vl_at (he w) (w : Int) + 1)) (au d') ↔ nu d' ≤ vl_at (he w) (au d')) := fun d' h => by
    rw [hat]
    by_cases e : au d' = (w : Int)
    · rw [if_pos e, e]
      have := hF.1 d' h
      rw [e, Int.toNat_natCast] at this
      constructor
      · intro _; exact this
      · intro _; omega
    · rw [if_neg e]
  refine ⟨by omega, hc, ?_, ?_, ?_, ?_, ⟨?_, ?_⟩, ?_⟩
  · intro d2 h2
    by_cases e : d2 = d
    · subst e
      rw [vu_eq, vu_eq, vu_eq]
      exact ⟨⟨by omega, hw⟩, rfl, fun a h => ⟨(hH2 a h).1, Int.le_trans (hH2 a h).2 (hdm a)⟩⟩
    · rw [vu_ne _ _ e, vu_ne _ _ e, vu_ne _ _ e]
      obtain ⟨b1, b2, b3⟩ := hA d2 (hd' d2 h2 e)
      exact ⟨b1, b2, fun a h => ⟨(b3 a h).1, Int.le_trans (b3 a h).2 (hdm a)⟩⟩
  · intro d1 d2 h1 h2 e1 e2
    have key : ∀ d3 : Nat, (d3 : Int) < n → au d3 = (w : Int) → ¬ nu d3 = vl_at (he w) (w : Int) + 1 := fun d3 h e q => by
      have := hF.1 d3 h
      rw [e, Int.toNat_natCast] at this
      omega
    by_cases q1 : d1 = d
    · by_cases q2 : d2 = d
      · rw [q1, q2]
      · rw [q1, vu_eq, vu_ne _ _ q2] at e1 e2
        exact absurd e2.symm (key d2 (hd' d2 h2 q2) e1.symm)
    · by_cases q2 : d2 = d
      · rw [q2, vu_eq, vu_ne _ _ q1] at e1 e2
        exact absurd e2 (key d1 (hd' d1 h1 q1) e1)
      · rw [vu_ne _ _ q1, vu_ne _ _ q2] at e1 e2
        exact hB d1 d2 (hd' d1 h1 q1) (hd' d2 h2 q2) e1 e2
  · intro j hj
    obtain ⟨b1, b2, b3⟩ := hH j hj
    by_cases e : j = w
    · subst e
      rw [vu_eq]
      refine ⟨by rw [vl_put_len]; exact b1, fun a h => ⟨Int.le_trans (b2 a h).1 (hmono _), ?_⟩, fun q => absurd q (by omega)⟩
      by_cases e2 : a = j
      · subst e2; rw [vu_eq]; exact Int.le_refl _
      · rw [hat, if_neg (by omega), vu_ne _ _ e2]; exact (b2 a h).2
    · rw [vu_ne _ _ e]
      exact ⟨b1, fun a h => ⟨(b2 a h).1, Int.le_trans (b2 a h).2 (hdm a)⟩, b3⟩
  · intro j hj
    obtain ⟨c1, c2, c3, c4, c5⟩ := hO j hj
    have hdn : ¬ (d : Int) ∈ ord j := fun h => by have := c2 _ h; omega
    -- what was known ahead of an old deed doesn't name the new one
    have hold : ∀ d2 : Nat, (d2 : Int) < n → ∀ d3 : Nat, (d3 : Int) < n + 1 → vu nu d (vl_at (he w) (w : Int) + 1) d3 ≤ vl_at (ah d2) (vu au d (w : Int) d3) → (d3 : Int) < n ∧ nu d3 ≤ vl_at (ah d2) (au d3) := fun d2 h2 d3 h3 q => by
      by_cases e : d3 = d
      · rw [e, vu_eq, vu_eq] at q
        have := ((hA d2 h2).2.2 w hw6).2
        omega
      · rw [vu_ne _ _ e, vu_ne _ _ e] at q
        exact ⟨hd' d3 h3 e, q⟩
    by_cases e : j = w
    · subst e
      rw [vu_eq, vu_eq]
      refine ⟨?_, ?_, ?_, ?_, ?_⟩
      · rw [List.nodup_append]
        refine ⟨c1, List.nodup_cons.mpr ⟨List.not_mem_nil, List.nodup_nil⟩, fun x hx y hy => ?_⟩
        rw [List.mem_singleton] at hy
        rw [hy]
        intro h
        rw [h] at hx
        exact hdn hx
      · intro x hx
        rcases List.mem_append.mp hx with h | h
        · have := c2 x h; omega
        · rw [List.mem_singleton] at h
          rw [h]; omega
      · intro d2 h2
        rw [List.mem_append, List.mem_singleton]
        by_cases e : d2 = d
        · subst e
          rw [vu_eq, vu_eq, hat, if_pos rfl]
          exact ⟨fun _ => Int.le_refl _, fun _ => Or.inr rfl⟩
        · have h3 := hd' d2 h2 e
          rw [vu_ne _ _ e, vu_ne _ _ e, hknw d2 h3, c3 d2 h3]
          constructor
          · intro h
            rcases h with h | h
            · exact h
            · exact absurd h (by omega)
          · exact Or.inl
      · rw [List.length_append, vk_sum_put (by omega) (by omega), if_pos (by omega)]
        show ((((ord j).length + 1 : Nat) : Nat) : Int) = _
        omega
      · intro m d2 hm d3 h3 hq
        by_cases em : m < (ord j).length
        · rw [List.getElem?_append_left em] at hm
          rw [List.take_append_of_le_length (by omega)]
          have h2 := c2 _ (List.mem_of_getElem? hm)
          rw [vu_ne _ _ (show ¬ d2 = d by omega)] at hq
          obtain ⟨q1, q2⟩ := hold d2 h2.2 d3 h3 hq
          exact c5 m d2 hm d3 q1 q2
        · have hm2 : m = (ord j).length := by
            have := (List.getElem?_eq_some_iff.mp hm).1
            rw [List.length_append] at this
            have : ([(d : Int)] : List Int).length = 1 := rfl
            omega
          rw [hm2, List.getElem?_append_right (Nat.le_refl _), Nat.sub_self] at hm
          have hd2 : (d : Int) = (d2 : Int) := Option.some.inj hm
          have hd2' : d = d2 := by omega
          subst hd2'
          rw [vu_eq] at hq
          rw [hm2, List.take_append_of_le_length (Nat.le_refl _), List.take_length]
          by_cases e3 : d3 = d
          · rw [e3, vu_eq, vu_eq] at hq; omega
          · rw [vu_ne _ _ e3, vu_ne _ _ e3] at hq
            exact (c3 d3 (hd' d3 h3 e3)).mpr hq
    · rw [vu_ne _ _ e, vu_ne _ _ e]
      refine ⟨c1, fun x hx => by have := c2 x hx; omega, ?_, c4, ?_⟩
      · intro d2 h2
        by_cases e2 : d2 = d
        · subst e2
          rw [vu_eq, vu_eq]
          refine ⟨fun h => absurd h hdn, fun h => ?_⟩
          have := ((hH j hj).2.1 w hw6).2
          omega
        · rw [vu_ne _ _ e2, vu_ne _ _ e2]
          exact c3 d2 (hd' d2 h2 e2)
      · intro m d2 hm d3 h3 hq
        have h2 := c2 _ (List.mem_of_getElem? hm)
        rw [vu_ne _ _ (show ¬ d2 = d by omega)] at hq
        obtain ⟨q1, q2⟩ := hold d2 h2.2 d3 h3 hq
        exact c5 m d2 hm d3 q1 q2
  · intro d2 h2
    by_cases e : d2 = d
    · subst e
      rw [vu_eq, vu_eq, Int.toNat_natCast, vu_eq, hat, if_pos rfl]
      exact Int.le_refl _
    · rw [vu_ne _ _ e, vu_ne _ _ e]
      have h3 := hd' d2 h2 e
      obtain ⟨⟨q0, q1⟩, -, -⟩ := hA d2 h3
      have h4 := hdm (au d2).toNat
      rw [show (((au d2).toNat : Nat) : Int) = au d2 by omega] at h4
      exact Int.le_trans (hF.1 d2 h3) h4
  · intro a h m m0 m1
    by_cases e : a = w
    · subst e
      rw [vu_eq, hat, if_pos rfl] at m1
      by_cases e2 : m = vl_at (he a) (a : Int) + 1
      · exact ⟨d, by omega, vu_eq _ _ _, by rw [vu_eq, e2]⟩
      · obtain ⟨d2, q1, q2, q3⟩ := hF.2 a h m m0 (by omega)
        have : ¬ d2 = d := by omega
        exact ⟨d2, by omega, by rw [vu_ne _ _ this]; exact q2, by rw [vu_ne _ _ this]; exact q3⟩
    · rw [vu_ne _ _ e] at m1
      obtain ⟨d2, q1, q2, q3⟩ := hF.2 a h m m0 m1
      have : ¬ d2 = d := by omega
      exact ⟨d2, by omega, by rw [vu_ne _ _ this]; exact q2, by rw [vu_ne _ _ this]; exact q3⟩
  · intro j hj
    obtain ⟨w1, w2⟩ := hW j hj
    refine ⟨w1, fun x hx => ?_⟩
    obtain ⟨x1, x2⟩ := w2 x hx
    have e2 : ¬ x.toNat = d := by omega
    refine ⟨by omega, ?_⟩
    rw [vu_ne _ _ e2, vu_ne _ _ e2]
    by_cases e : j = w
    · subst e
      rw [vu_eq, hknw _ (by omega)]
      exact x2
    · rw [vu_ne _ _ e]; exact x2
theorem vRd_do {n cm : Int} {au nu : Nat → Int} {ah ord he wa : Nat → List Int} (hK : vK n cm au nu ah ord he wa) {w d j : Nat} (hw : (w : Int) < cm) (hd : (d : Int) = n) (hj : j < 6) (hR : vRd ah (he j) (wa j)) :
    vRd (vu ah d (he w)) (vu he w (vl_put (he w) (w : Int) (vl_at (he w) (w : Int) + 1)) j) (wa j) := by
  obtain ⟨hn0, hc, hA, hB, hH, hO, hF, hW⟩ := hK
  have hw6 : w < 6 := by omega
  obtain ⟨hl, hH2, -⟩ := hH w hw6
  intro x hx h
  obtain ⟨x1, x2⟩ := (hW j hj).2 x hx
  have e2 : ¬ x.toNat = d := by omega
  refine hR x hx (fun a ha => ?_)
  have h1 := h a ha
  rw [vu_ne _ _ e2] at h1
  by_cases e : j = w
  · subst e
    rw [vu_eq, vl_at_put (by omega) (by omega)] at h1
    by_cases e3 : (a : Int) = (j : Int)
    · have e4 : a = j := by omega
      subst e4
      exact ((hA x.toNat (by omega)).2.2 a ha).2
    · rw [if_neg e3] at h1
      exact h1
  · rw [vu_ne _ _ e] at h1
    exact h1
/-- a writer joins -/
theorem vK_join {n cm : Int} {au nu : Nat → Int} {ah ord he wa : Nat → List Int} (hK : vK n cm au nu ah ord he wa) {s i : Nat} (hs : (s : Int) < cm) (hi : (i : Int) = cm) (hc6 : cm < 6) :
    vK n (cm + 1) au nu ah (vu ord i (ord s)) (vu he i (he s)) wa := by
  obtain ⟨hn0, hc, hA, hB, hH, hO, hF, hW⟩ := hK
  have hi6 : i < 6 := by omega
  obtain ⟨hl, hH2, hH3⟩ := hH i hi6
  obtain ⟨hwi, hzi⟩ := hH3 (by omega)
  obtain ⟨sl, sH, -⟩ := hH s (by omega)
  have hdg : ∀ a : Nat, a < 6 → vl_at (vu he i (he s) a) (a : Int) = vl_at (he a) (a : Int) := fun a ha => by
    by_cases e : a = i
    · subst e
      rw [vu_eq]
      have h1 := sH a ha
      have h2 := hzi a ha
      omega
    · rw [vu_ne _ _ e]
  refine ⟨hn0, by omega, ?_, hB, ?_, ?_, ⟨?_, ?_⟩, ?_⟩
  · intro d h
    obtain ⟨b1, b2, b3⟩ := hA d h
    exact ⟨by omega, b2, fun a ha => by rw [hdg a ha]; exact b3 a ha⟩
  · intro j hj
    obtain ⟨b1, b2, b3⟩ := hH j hj
    by_cases e : j = i
    · subst e
      rw [vu_eq]
      exact ⟨sl, fun a ha => by rw [hdg a ha]; exact sH a ha, fun q => absurd q (by omega)⟩
    · rw [vu_ne _ _ e]
      exact ⟨b1, fun a ha => by rw [hdg a ha]; exact b2 a ha, fun q => b3 (by omega)⟩
  · intro j hj
    by_cases e : j = i
    · subst e
      rw [vu_eq, vu_eq]
      exact hO s (by omega)
    · rw [vu_ne _ _ e, vu_ne _ _ e]
      exact hO j hj
  · intro d h
    obtain ⟨⟨q0, q1⟩, -, -⟩ := hA d h
    have := hdg (au d).toNat (by omega)
    rw [show (((au d).toNat : Nat) : Int) = au d by omega] at this
    rw [this]
    exact hF.1 d h
  · intro a ha m m0 m1
    rw [hdg a ha] at m1
    exact hF.2 a ha m m0 m1
  · intro j hj
    by_cases e : j = i
    · subst e
      rw [hwi]
      exact ⟨List.nodup_nil, fun x hx => absurd hx List.not_mem_nil⟩
    · rw [vu_ne _ _ e]
      exact hW j hj
/-- a list of numbers below n, none twice, isn't longer than n -/
theorem vl_pigeon : ∀ (n : Nat) (l : List Int), l.Nodup → (∀ x ∈ l, 0 ≤ x ∧ x < (n : Int)) → l.length ≤ n := by
  intro n
  induction n with
  | zero =>
    intro l _ h
    match l with
    | [] => exact Nat.le_refl _
    | x :: l => have := h x List.mem_cons_self; omega
  | succ n ih =>
    intro l hl h
    by_cases e : (n : Int) ∈ l
    · have h1 := ih (l.erase (n : Int)) (hl.erase _) (fun x hx => by
        have h2 := hl.mem_erase_iff.mp hx
        have h3 := h x h2.2
        have h4 := h2.1
        omega)
      rw [List.length_erase_of_mem e] at h1
      omega
    · have h1 := ih l hl (fun x hx => by
        have h3 := h x hx
        have : ¬ x = (n : Int) := fun q => e (q ▸ hx)
        omega)
      omega
end VW8
