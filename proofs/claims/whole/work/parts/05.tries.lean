/-! ===== the walker's own rows: tries, lists, ranges ===== -/
section VB
theorem vb_tg_s {α : Type} {n : Nat} {t : vi_Tr α (n + 1)} {i : Nat} : vi_tg (n + 1) t i = if i % 2 = 0 then vi_tg n (@Prod.fst (vi_Tr α n) (vi_Tr α n) t) (i / 2) else vi_tg n (@Prod.snd (vi_Tr α n) (vi_Tr α n) t) (i / 2) := by
  show Bool.rec (motive := fun _ => α) (vi_tg n (@Prod.snd (vi_Tr α n) (vi_Tr α n) t) (i / 2)) (vi_tg n (@Prod.fst (vi_Tr α n) (vi_Tr α n) t) (i / 2)) (Nat.beq (i % 2) 0) = _
  by_cases h : i % 2 = 0
  · rw [if_pos h, h]; rfl
  · rw [if_neg h, show i % 2 = 1 by omega]; rfl
theorem vb_tp_s {α : Type} {n : Nat} {t : vi_Tr α (n + 1)} {i : Nat} {v : α} : vi_tp (n + 1) t i v = if i % 2 = 0 then @Prod.mk (vi_Tr α n) (vi_Tr α n) (vi_tp n (@Prod.fst (vi_Tr α n) (vi_Tr α n) t) (i / 2) v) (@Prod.snd (vi_Tr α n) (vi_Tr α n) t) else @Prod.mk (vi_Tr α n) (vi_Tr α n) (@Prod.fst (vi_Tr α n) (vi_Tr α n) t) (vi_tp n (@Prod.snd (vi_Tr α n) (vi_Tr α n) t) (i / 2) v) := by
  show Bool.rec (motive := fun _ => vi_Tr α (n + 1)) (@Prod.mk (vi_Tr α n) (vi_Tr α n) (@Prod.fst (vi_Tr α n) (vi_Tr α n) t) (vi_tp n (@Prod.snd (vi_Tr α n) (vi_Tr α n) t) (i / 2) v)) (@Prod.mk (vi_Tr α n) (vi_Tr α n) (vi_tp n (@Prod.fst (vi_Tr α n) (vi_Tr α n) t) (i / 2) v) (@Prod.snd (vi_Tr α n) (vi_Tr α n) t)) (Nat.beq (i % 2) 0) = _
  by_cases h : i % 2 = 0
  · rw [if_pos h, h]; rfl
  · rw [if_neg h, show i % 2 = 1 by omega]; rfl
theorem vb_self {α : Type} (n : Nat) : ∀ (t : vi_Tr α n) (i : Nat) (v : α), vi_tg n (vi_tp n t i v) i = v := by
  induction n with
  | zero => intro t i v; rfl
  | succ n ih =>
    intro t i v
    rw [vb_tg_s, vb_tp_s]
    by_cases h : i % 2 = 0
    · rw [if_pos h, if_pos h]; exact ih _ _ _
    · rw [if_neg h, if_neg h]; exact ih _ _ _
theorem vb_ne {α : Type} (n : Nat) : ∀ (t : vi_Tr α n) (i j : Nat) (v : α), i ≠ j → i < 2 ^ n → j < 2 ^ n → vi_tg n (vi_tp n t i v) j = vi_tg n t j := by
  induction n with
  | zero => intro t i j v h hi hj; exact absurd (show i = j by simp at hi hj; omega) h
  | succ n ih =>
    intro t i j v h hi hj
    have e : 2 ^ (n + 1) = 2 * 2 ^ n := by rw [Nat.pow_succ]; omega
    rw [vb_tg_s, vb_tp_s, vb_tg_s (t := t)]
    by_cases h1 : i % 2 = 0 <;> by_cases h2 : j % 2 = 0
    · rw [if_pos h1, if_pos h2, if_pos h2]; exact ih _ _ _ _ (by omega) (by omega) (by omega)
    · rw [if_pos h1, if_neg h2, if_neg h2]
    · rw [if_neg h1, if_pos h2, if_pos h2]
    · rw [if_neg h1, if_neg h2, if_neg h2]; exact ih _ _ _ _ (by omega) (by omega) (by omega)
theorem vb_tf {α : Type} (n : Nat) (v : α) : ∀ i, vi_tg n (vi_tf n v) i = v := by
  induction n with
  | zero => intro i; rfl
  | succ n ih =>
    intro i
    rw [vb_tg_s]
    split <;> exact ih _
theorem vb_nth {α : Type} (l : List α) : ∀ i, vi_nth l i = l[i]? := by
  induction l with
  | nil => intro i; simp [vi_nth]
  | cons x l ih =>
    intro i
    cases i with
    | zero => rfl
    | succ i => exact (ih i).trans (by simp)
theorem vb_set {α : Type} (l : List α) : ∀ i v, vi_set l i v = l.set i v := by
  induction l with
  | nil => intro i v; simp [vi_set]
  | cons x l ih =>
    intro i v
    cases i with
    | zero => rfl
    | succ i => exact (congrArg (x :: ·) (ih i v)).trans (by simp)
theorem vb_all {lo n : Nat} {f : Nat → Bool} (h : vi_all lo n f = true) : ∀ j, lo ≤ j → j < lo + n → f j = true := by
  induction n generalizing lo with
  | zero => intro j h1 h2; omega
  | succ n ih =>
    intro j h1 h2
    have h' : (f lo && vi_all (lo + 1) n f) = true := h
    rw [Bool.and_eq_true] at h'
    by_cases e : j = lo
    · rw [e]; exact h'.1
    · exact ih h'.2 j (by omega) (by omega)
theorem vb_take {n : Nat} {st acc vs rest : List vi_V} (h : vi_take n st acc = some (vs, rest)) : ∃ z, z.length = n ∧ st = z ++ rest ∧ vs = z.reverse ++ acc := by
  induction n generalizing st acc with
  | zero =>
    have h' : some (acc, st) = some (vs, rest) := h
    cases h'
    exact ⟨[], rfl, rfl, rfl⟩
  | succ n ih =>
    cases st with
    | nil => exact absurd h (by intro q; cases q)
    | cons v st =>
      obtain ⟨z, h1, h2, h3⟩ := ih (st := st) (acc := v :: acc) h
      exact ⟨v :: z, by simp [h1], by simp [h2], by simp [h3]⟩
/-- an int, as a number from 0 on -/
def vb_b (x : Int32) : Nat := (x.toInt + 2147483648).toNat
theorem vb_b_lt (x : Int32) : vb_b x < 4294967296 := by
  have h1 := Int32.le_toInt x; have h2 := Int32.toInt_lt x
  unfold vb_b; omega
theorem vb_toInt (x : Int32) : x.toInt = (vb_b x : Int) - 2147483648 := by
  have h1 := Int32.le_toInt x; have h2 := Int32.toInt_lt x
  unfold vb_b; omega
theorem vb_inj {x y : Int32} (h : vb_b x = vb_b y) : x = y := Int32.toInt_inj.mp (by rw [vb_toInt, vb_toInt, h])
theorem vb_nI (u : Nat) : vb_b (nI u) = (u + 2147483648) % 4294967296 := by
  have h : (nI u).toInt = (u : Int).bmod 4294967296 := by
    show (Int32.ofNat u).toInt = _
    rw [Int32.toInt_ofNat']
  unfold vb_b
  rw [h]
  have := Int.bmod_def (u : Int) 4294967296
  rw [this]
  split <;> omega
theorem vb_of (x : Int32) : x = nI ((vb_b x + 2147483648) % 4294967296) := by
  apply vb_inj
  rw [vb_nI]
  have := vb_b_lt x
  omega
theorem vb_lt (x y : Int32) : x < y ↔ vb_b x < vb_b y := by
  rw [Int32.lt_iff_toInt_lt, vb_toInt, vb_toInt]; omega
theorem vb_le (x y : Int32) : x ≤ y ↔ vb_b x ≤ vb_b y := by
  rw [Int32.le_iff_toInt_le, vb_toInt, vb_toInt]; omega
theorem vb_eq (x y : Int32) : x = y ↔ vb_b x = vb_b y := ⟨fun h => by rw [h], vb_inj⟩
end VB
