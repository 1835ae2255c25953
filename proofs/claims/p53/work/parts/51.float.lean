/-! ===== shares ===== -/
section VW23
theorem vz_tails : FP.Core.b64.tails = 4503599627370496 := by decide
theorem vz_exps : FP.Core.b64.exps = 2048 := by decide
theorem vz_qmin : FP.Core.b64.qmin = -1074 := by decide
theorem vz_qmax : FP.Core.b64.qmax = 971 := by decide
theorem vz_p : 2 ^ FP.Core.b64.p = 9007199254740992 := by decide
/-- a datum as it is written -/
def vz_ok (c : Nat) (q : Int) : Prop := c < 9007199254740992 ∧ -1074 ≤ q ∧ q ≤ 971 ∧ (q = -1074 ∨ 4503599627370496 ≤ c)
theorem vz_enc {c : Nat} {q : Int} (h : vz_ok c q) : FP.Core.encode FP.Core.b64 (.fin false c q) < 9218868437227405312 ∧ FP.Core.decode FP.Core.b64 (FP.Core.encode FP.Core.b64 (.fin false c q)) = .fin false c q := by
  obtain ⟨h1, h2, h3, h4⟩ := h
  unfold FP.Core.encode
  dsimp only
  rw [vz_tails, vz_qmin]
  by_cases g : c < 4503599627370496
  · rw [if_pos g]
    have hq : q = -1074 := by omega
    have e : FP.Core.assemble FP.Core.b64 false 0 c = c := by
      unfold FP.Core.assemble
      rw [vz_tails, vz_exps]
      show (0 * 2048 + 0) * 4503599627370496 + c = c
      omega
    rw [e]
    refine ⟨by omega, ?_⟩
    unfold FP.Core.decode FP.Core.fieldE FP.Core.fieldT FP.Core.fieldS
    rw [vz_tails, vz_exps, vz_qmin]
    rw [if_neg (by omega), if_pos (by omega)]
    have e1 : c % 4503599627370496 = c := by omega
    have e2 : c / 4503599627370496 / 2048 % 2 = 0 := by omega
    rw [e1, e2, hq]
    rfl
  · rw [if_neg g]
    obtain ⟨E, hE⟩ : ∃ E : Nat, (q - -1074).toNat + 1 = E := ⟨_, rfl⟩
    obtain ⟨T, hT⟩ : ∃ T : Nat, c - 4503599627370496 = T := ⟨_, rfl⟩
    have e : FP.Core.assemble FP.Core.b64 false ((q - -1074).toNat + 1) (c - 4503599627370496) = E * 4503599627370496 + T := by
      unfold FP.Core.assemble
      rw [vz_tails, vz_exps, hE, hT]
      show (0 * 2048 + E) * 4503599627370496 + T = _
      omega
    rw [e]
    refine ⟨by omega, ?_⟩
    unfold FP.Core.decode FP.Core.fieldE FP.Core.fieldT FP.Core.fieldS
    rw [vz_tails, vz_exps, vz_qmin]
    have e1 : (E * 4503599627370496 + T) / 4503599627370496 = E := by omega
    have e2 : (E * 4503599627370496 + T) % 4503599627370496 = T := by omega
    rw [e1, e2]
    have e3 : E % 2048 = E := by omega
    have e4 : E / 2048 % 2 = 0 := by omega
    rw [e3, e4, if_neg (by omega), if_neg (by omega)]
    have e5 : 4503599627370496 + T = c := by omega
    have e6 : (-1074 : Int) + ((E : Int) - 1) = q := by omega
    rw [e5, e6]
    rfl
theorem vz_of {c : Nat} {q : Int} (h : vz_ok c q) {r : UInt64} (hr : r = UInt64.ofNat (FP.Core.encode FP.Core.b64 (.fin false c q))) : FP.Core.decode FP.Core.b64 r.toNat = .fin false c q ∧ vj_n64 r = true := by
  obtain ⟨h1, h2⟩ := vz_enc h
  have e : r.toNat = FP.Core.encode FP.Core.b64 (.fin false c q) := by
    rw [hr, UInt64.toNat_ofNat_of_lt' (by show _ < 18446744073709551616; omega)]
  refine ⟨by rw [e]; exact h2, ?_⟩
  unfold vj_n64
  refine decide_eq_true ?_
  rw [UInt64.le_iff_toNat_le, UInt64.toNat_and]
  have e2 : (0x7fffffffffffffff : UInt64).toNat = 2 ^ 63 - 1 := by decide
  rw [e2, Nat.and_two_pow_sub_one_eq_mod, e]
  show _ % 2 ^ 63 ≤ 9218868437227405312
  have := Nat.mod_le (FP.Core.encode FP.Core.b64 (.fin false c q)) (2 ^ 63)
  omega
theorem vz_near_ge {A B m : Nat} (hB : 0 < B) (h : m * B ≤ A) : m ≤ FP.Core.nearest A B := by
  have h1 : m ≤ A / B := (Nat.le_div_iff_mul_le hB).mpr h
  unfold FP.Core.nearest
  split
  · exact h1
  · split <;> omega
theorem vz_near_le {A B m : Nat} (hB : 0 < B) (h : A ≤ m * B) : FP.Core.nearest A B ≤ m := by
  have h1 : A / B ≤ m := by
    have := Nat.div_le_div_right (c := B) h
    rw [Nat.mul_div_cancel _ hB] at this
    exact this
  unfold FP.Core.nearest
  by_cases e : A / B = m
  · have h2 : A % B = 0 := by
      have h3 := Nat.div_add_mod A B
      rw [e, Nat.mul_comm] at h3
      omega
    rw [h2, if_pos (by omega)]
    exact h1
  · split
    · exact h1
    · split <;> omega
theorem vz_lead {A B : Nat} (hA : 0 < A) (hB : 0 < B) : ∃ u v : Nat, FP.Core.leading A B = (u : Int) - v ∧ B * 2 ^ u ≤ A * 2 ^ v ∧ A * 2 ^ v < B * 2 ^ (u + 1) := by
  have a1 : 2 ^ A.log2 ≤ A := Nat.log2_self_le (by omega)
  have a2 : A < 2 ^ (A.log2 + 1) := Nat.lt_log2_self
  have b1 : 2 ^ B.log2 ≤ B := Nat.log2_self_le (by omega)
  have b2 : B < 2 ^ (B.log2 + 1) := Nat.lt_log2_self
  unfold FP.Core.leading
  obtain ⟨a, ha⟩ : ∃ a, A.log2 = a := ⟨_, rfl⟩
  obtain ⟨b, hb⟩ : ∃ b, B.log2 = b := ⟨_, rfl⟩
  rw [ha] at a1 a2 ⊢
  rw [hb] at b1 b2 ⊢
  dsimp only
  have key : (B * 2 ^ ((a : Int) - b).toNat ≤ A * 2 ^ (-((a : Int) - b)).toNat) ↔ (B * 2 ^ a ≤ A * 2 ^ b) := by
    have hx : a = ((a : Int) - b).toNat + min a b := by omega
    have hy : b = (-((a : Int) - b)).toNat + min a b := by omega
    have e1 : B * 2 ^ a = B * 2 ^ ((a : Int) - b).toNat * 2 ^ (min a b) := by rw [Nat.mul_assoc, ← Nat.pow_add, ← hx]
    have e2 : A * 2 ^ b = A * 2 ^ (-((a : Int) - b)).toNat * 2 ^ (min a b) := by rw [Nat.mul_assoc, ← Nat.pow_add, ← hy]
    rw [e1, e2]
    exact (Nat.mul_le_mul_right_iff (Nat.two_pow_pos _)).symm
  by_cases g : B * 2 ^ ((a : Int) - b).toNat ≤ A * 2 ^ (-((a : Int) - b)).toNat
  · rw [if_pos g]
    refine ⟨a, b, rfl, key.mp g, ?_⟩
    calc A * 2 ^ b < 2 ^ (a + 1) * 2 ^ b := (Nat.mul_lt_mul_right (Nat.two_pow_pos _)).mpr a2
      _ ≤ 2 ^ (a + 1) * B := Nat.mul_le_mul_left _ b1
      _ = B * 2 ^ (a + 1) := Nat.mul_comm _ _
  · rw [if_neg g]
    refine ⟨a, b + 1, by omega, ?_, ?_⟩
    · calc B * 2 ^ a ≤ 2 ^ (b + 1) * 2 ^ a := Nat.mul_le_mul_right _ (Nat.le_of_lt b2)
        _ ≤ 2 ^ (b + 1) * A := Nat.mul_le_mul_left _ a1
        _ = A * 2 ^ (b + 1) := Nat.mul_comm _ _
    · have g2 : A * 2 ^ b < B * 2 ^ a := Nat.lt_of_not_le (fun q => g (key.mpr q))
      rw [Nat.pow_succ, Nat.pow_succ, ← Nat.mul_assoc, ← Nat.mul_assoc]
      exact (Nat.mul_lt_mul_right (by decide)).mpr g2
/-- between g and h times 2^-14 -/
def vz_b (c : Nat) (q : Int) (g h : Nat) : Prop := q ≤ -14 ∧ g * 2 ^ (-14 - q).toNat ≤ c ∧ c ≤ h * 2 ^ (-14 - q).toNat
theorem vz_le_scale {X Y m n k : Nat} (hm : m + k = n) (h : X * 2 ^ n ≤ Y * 2 ^ k) : X * 2 ^ m ≤ Y := by
  rw [← hm, Nat.pow_add, ← Nat.mul_assoc] at h
  exact (Nat.mul_le_mul_right_iff (Nat.two_pow_pos k)).mp h
theorem vz_round {A B E F g h : Nat} (hB : 0 < B) (hE : E ≤ 2000) (hF : F ≤ 900) (hg : g * 2 ^ E * B ≤ A * 2 ^ F) (hh : A * 2 ^ F ≤ h * 2 ^ E * B) (h15 : h ≤ 2 ^ 15) :
    ∃ c q, FP.Core.roundRatio FP.Core.b64 false A B ((F : Int) - 14 - (E : Int)) = .fin false c q ∧ vz_ok c q ∧ vz_b c q g h := by
  unfold FP.Core.roundRatio
  by_cases hA : A = 0
  · rw [if_pos hA, vz_qmin]
    refine ⟨0, -1074, rfl, ⟨by decide, by decide, by decide, Or.inl rfl⟩, by decide, ?_, Nat.zero_le _⟩
    have hg0 : g = 0 := by
      rcases Nat.eq_zero_or_pos g with q | q
      · exact q
      · exfalso
        have : 0 < g * 2 ^ E * B := Nat.mul_pos (Nat.mul_pos q (Nat.two_pow_pos _)) hB
        rw [hA, Nat.zero_mul] at hg
        omega
    rw [hg0, Nat.zero_mul]
    exact Nat.le_refl _
  · rw [if_neg hA]
    have hA' : 0 < A := by omega
    obtain ⟨u, v, hl, l1, l2⟩ := vz_lead hA' hB
    have hu : u + F ≤ v + 15 + E := by
      refine Nat.le_of_not_lt (fun hlt => ?_)
      have c1 : B * 2 ^ (u + F) ≤ B * 2 ^ (15 + E + v) := by
        calc B * 2 ^ (u + F) = B * 2 ^ u * 2 ^ F := by rw [Nat.pow_add, Nat.mul_assoc]
          _ ≤ A * 2 ^ v * 2 ^ F := Nat.mul_le_mul_right _ l1
          _ = A * 2 ^ F * 2 ^ v := by ac_rfl
          _ ≤ h * 2 ^ E * B * 2 ^ v := Nat.mul_le_mul_right _ hh
          _ ≤ 2 ^ 15 * 2 ^ E * B * 2 ^ v := Nat.mul_le_mul_right _ (Nat.mul_le_mul_right _ (Nat.mul_le_mul_right _ h15))
          _ = B * 2 ^ (15 + E + v) := by rw [Nat.pow_add 2 (15 + E) v, Nat.pow_add 2 15 E]; ac_rfl
      have c2 : 2 ^ (u + F) ≤ 2 ^ (15 + E + v) := Nat.le_of_mul_le_mul_left c1 hB
      have c3 := (Nat.pow_le_pow_iff_right (by decide : 1 < 2)).mp c2
      omega
    unfold FP.Core.roundAt FP.Core.quantum
    rw [hl, vz_qmin]
    have hp53 : ((FP.Core.b64.p : Nat) : Int) = 53 := rfl
    rw [hp53]
    obtain ⟨b, hb⟩ : ∃ b : Nat, max (-1074) ((u : Int) - v + ((F : Int) - 14 - (E : Int)) - (53 - 1)) = -14 - (b : Int) := ⟨(-14 - max (-1074) ((u : Int) - v + ((F : Int) - 14 - (E : Int)) - (53 - 1))).toNat, by omega⟩
    have hb37 : 37 ≤ b ∧ b ≤ 1060 := by omega
    rw [hb]
    unfold FP.Core.unitsNum FP.Core.unitsDen
    have x1 : ((F : Int) - 14 - (E : Int) - (-14 - (b : Int))).toNat = b + F - E := by omega
    have x2 : (-14 - (b : Int) - ((F : Int) - 14 - (E : Int))).toNat = E - (b + F) := by omega
    rw [x1, x2]
    have hD : 0 < B * 2 ^ (E - (b + F)) := Nat.mul_pos hB (Nat.two_pow_pos _)
    obtain ⟨t, ht⟩ : ∃ t, min (b + F) E = t := ⟨_, rfl⟩
    have p1 : 2 ^ (b + F - E) * 2 ^ t = 2 ^ b * 2 ^ F := by rw [← Nat.pow_add, ← Nat.pow_add]; congr 1; omega
    have p2 : 2 ^ (E - (b + F)) * 2 ^ t = 2 ^ E := by rw [← Nat.pow_add]; congr 1; omega
    have yA : A * 2 ^ (b + F - E) * 2 ^ t = A * 2 ^ F * 2 ^ b := by
      rw [Nat.mul_assoc, p1]; ac_rfl
    have xB : ∀ m : Nat, m * (B * 2 ^ (E - (b + F))) * 2 ^ t = m * B * 2 ^ E := fun m => by
      calc m * (B * 2 ^ (E - (b + F))) * 2 ^ t = m * B * (2 ^ (E - (b + F)) * 2 ^ t) := by ac_rfl
        _ = m * B * 2 ^ E := by rw [p2]
    have sh : ∀ X : Nat, X * 2 ^ (t + v) = X * 2 ^ t * 2 ^ v := fun X => by rw [Nat.pow_add, Nat.mul_assoc]
    have n1 : g * 2 ^ b ≤ FP.Core.nearest (A * 2 ^ (b + F - E)) (B * 2 ^ (E - (b + F))) := by
      refine vz_near_ge hD ((Nat.mul_le_mul_right_iff (Nat.two_pow_pos t)).mp ?_)
      rw [yA, xB]
      calc g * 2 ^ b * B * 2 ^ E = g * 2 ^ E * B * 2 ^ b := by ac_rfl
        _ ≤ A * 2 ^ F * 2 ^ b := Nat.mul_le_mul_right _ hg
    have n2 : FP.Core.nearest (A * 2 ^ (b + F - E)) (B * 2 ^ (E - (b + F))) ≤ h * 2 ^ b := by
      refine vz_near_le hD ((Nat.mul_le_mul_right_iff (Nat.two_pow_pos t)).mp ?_)
      rw [yA, xB]
      calc A * 2 ^ F * 2 ^ b ≤ h * 2 ^ E * B * 2 ^ b := Nat.mul_le_mul_right _ hh
        _ = h * 2 ^ b * B * 2 ^ E := by ac_rfl
    have n3 : FP.Core.nearest (A * 2 ^ (b + F - E)) (B * 2 ^ (E - (b + F))) ≤ 9007199254740992 := by
      refine vz_near_le hD ((Nat.mul_le_mul_right_iff (Nat.two_pow_pos (t + v))).mp ?_)
      rw [sh, sh, yA, xB]
      have e53 : (9007199254740992 : Nat) = 2 ^ 53 := by decide
      calc A * 2 ^ F * 2 ^ b * 2 ^ v = A * 2 ^ v * (2 ^ F * 2 ^ b) := by ac_rfl
        _ ≤ B * 2 ^ (u + 1) * (2 ^ F * 2 ^ b) := Nat.mul_le_mul_right _ (Nat.le_of_lt l2)
        _ = B * 2 ^ (u + 1 + (F + b)) := by rw [Nat.mul_assoc, ← Nat.pow_add 2 F b, ← Nat.pow_add]
        _ ≤ B * 2 ^ (53 + (E + v)) := Nat.mul_le_mul_left _ (Nat.pow_le_pow_right (by decide) (by omega))
        _ = 9007199254740992 * B * 2 ^ E * 2 ^ v := by rw [Nat.pow_add 2 53 (E + v), Nat.pow_add 2 E v, e53]; ac_rfl
    have n4 : -14 - (b : Int) = -1074 ∨ 4503599627370496 ≤ FP.Core.nearest (A * 2 ^ (b + F - E)) (B * 2 ^ (E - (b + F))) := by
      by_cases q : -14 - (b : Int) = -1074
      · exact Or.inl q
      · have hub : u + (F + b) = 52 + (E + v) := by omega
        refine Or.inr (vz_near_ge hD ((Nat.mul_le_mul_right_iff (Nat.two_pow_pos (t + v))).mp ?_))
        rw [sh, sh, yA, xB]
        have e52 : (4503599627370496 : Nat) = 2 ^ 52 := by decide
        calc 4503599627370496 * B * 2 ^ E * 2 ^ v = B * 2 ^ (52 + (E + v)) := by rw [Nat.pow_add 2 52 (E + v), Nat.pow_add 2 E v, e52]; ac_rfl
          _ = B * 2 ^ u * (2 ^ F * 2 ^ b) := by rw [← hub, Nat.pow_add 2 u (F + b), Nat.pow_add 2 F b]; ac_rfl
          _ ≤ A * 2 ^ v * (2 ^ F * 2 ^ b) := Nat.mul_le_mul_right _ l1
          _ = A * 2 ^ F * 2 ^ b * 2 ^ v := by ac_rfl
    obtain ⟨c, hc⟩ : ∃ c, FP.Core.nearest (A * 2 ^ (b + F - E)) (B * 2 ^ (E - (b + F))) = c := ⟨_, rfl⟩
    rw [hc] at n1 n2 n3 n4 ⊢
    unfold FP.Core.settle FP.Core.bound
    rw [vz_p, vz_qmax, vz_tails]
    by_cases hc53 : c < 9007199254740992
    · rw [if_pos hc53, if_pos (by omega)]
      refine ⟨c, _, rfl, ⟨hc53, by omega, by omega, n4⟩, by omega, ?_, ?_⟩
      · rw [show (-14 - (-14 - (b : Int))).toNat = b by omega]; exact n1
      · rw [show (-14 - (-14 - (b : Int))).toNat = b by omega]; exact n2
    · rw [if_neg hc53, if_pos (by omega)]
      have hce : c = 9007199254740992 := by omega
      refine ⟨4503599627370496, _, rfl, ⟨by decide, by omega, by omega, Or.inr (Nat.le_refl _)⟩, by omega, ?_, ?_⟩
      · rw [show (-14 - (-14 - (b : Int) + 1)).toNat = b - 1 by omega]
        rw [show b = (b - 1) + 1 by omega, Nat.pow_succ, ← Nat.mul_assoc] at n1
        omega
      · rw [show (-14 - (-14 - (b : Int) + 1)).toNat = b - 1 by omega]
        rw [show b = (b - 1) + 1 by omega, Nat.pow_succ, ← Nat.mul_assoc] at n2
        omega
/-- a double between g and h times 2^-14 -/
def vz_d (x : UInt64) (g h : Nat) : Prop := ∃ c q, FP.Core.decode FP.Core.b64 x.toNat = .fin false c q ∧ vz_ok c q ∧ vz_b c q g h
theorem vz_zero : vz_d FP.dconst0 0 0 := ⟨0, -1074, by decide, ⟨by decide, by decide, by decide, Or.inl rfl⟩, by decide, by rw [Nat.zero_mul]; exact Nat.le_refl _, Nat.zero_le _⟩
theorem vz_add {x y : UInt64} {g h g' h' : Nat} (hx : vz_d x g h) (hy : vz_d y g' h') (h15 : h + h' ≤ 2 ^ 15) : vz_d (FP.dadd x y) (g + g') (h + h') ∧ vj_n64 (FP.dadd x y) = true := by
  obtain ⟨c, q, d1, ⟨o1, o2, o3, o4⟩, b1, b2, b3⟩ := hx
  obtain ⟨c', q', d1', ⟨o1', o2', o3', o4'⟩, b1', b2', b3'⟩ := hy
  obtain ⟨E, hE⟩ : ∃ E : Nat, min q q' = -14 - (E : Int) := ⟨(-14 - min q q').toNat, by omega⟩
  have hs : FP.Core.exactSum (.fin false c q) (.fin false c' q') = .fin false (c * 2 ^ (q - min q q').toNat + c' * 2 ^ (q' - min q q').toNat) (min q q') := by
    unfold FP.Core.exactSum FP.Core.sumUnits FP.Core.signed FP.Core.inUnits
    dsimp only
    rw [if_neg (by decide), if_neg (by decide)]
    have e : FP.Core.sumSign false false (((c * 2 ^ (q - min q q').toNat : Nat) : Int) + ((c' * 2 ^ (q' - min q q').toNat : Nat) : Int)) = false := by
      unfold FP.Core.sumSign
      split
      · rfl
      · exact decide_eq_false (by omega)
    rw [e]
    congr 1
  have hq1 : (q - min q q').toNat + (-14 - q).toNat = E := by omega
  have hq2 : (q' - min q q').toNat + (-14 - q').toNat = E := by omega
  have m1 : ∀ m n k : Nat, m * 2 ^ n * 2 ^ k = m * 2 ^ (k + n) := fun m n k => by rw [Nat.mul_assoc, ← Nat.pow_add, Nat.add_comm]
  have r1 := Nat.mul_le_mul_right (2 ^ (q - min q q').toNat) b2
  have r2 := Nat.mul_le_mul_right (2 ^ (q - min q q').toNat) b3
  have r3 := Nat.mul_le_mul_right (2 ^ (q' - min q q').toNat) b2'
  have r4 := Nat.mul_le_mul_right (2 ^ (q' - min q q').toNat) b3'
  rw [m1, hq1] at r1 r2
  rw [m1, hq2] at r3 r4
  obtain ⟨c2, q2, f1, f2, f3⟩ := vz_round (A := c * 2 ^ (q - min q q').toNat + c' * 2 ^ (q' - min q q').toNat) (B := 1) (E := E) (F := 0) (g := g + g') (h := h + h') (by decide) (by omega) (by decide) (by simp only [Nat.pow_zero, Nat.mul_one, Nat.add_mul]; omega) (by simp only [Nat.pow_zero, Nat.mul_one, Nat.add_mul]; omega) h15
  have hr : FP.dadd x y = UInt64.ofNat (FP.Core.encode FP.Core.b64 (.fin false c2 q2)) := by
    show UInt64.ofNat (FP.Core.encode FP.Core.b64 (FP.Core.round FP.Core.b64 (FP.Core.exactSum (FP.Core.decode FP.Core.b64 x.toNat) (FP.Core.decode FP.Core.b64 y.toNat)))) = _
    rw [d1, d1', hs]
    show UInt64.ofNat (FP.Core.encode FP.Core.b64 (FP.Core.roundRatio FP.Core.b64 false _ 1 (min q q'))) = _
    rw [hE]
    rw [show ((0 : Nat) : Int) - 14 - (E : Int) = -14 - (E : Int) by omega, hE] at f1
    rw [f1]
  obtain ⟨v1, v2⟩ := vz_of f2 hr
  exact ⟨⟨c2, q2, v1, f2, f3⟩, v2⟩
set_option maxRecDepth 100000 in
theorem vz_tab : vi_all 1 720 (fun n => decide (FP.Core.roundRatio FP.Core.b64 false n 1 0 = .fin false (n * 2 ^ (52 - n.log2)) (-((52 - n.log2 : Nat) : Int)))) = true := by decide +kernel
theorem vz_i2d {n : Nat} (h0 : 1 ≤ n) (h1 : n ≤ 720) : ∃ k : Nat, k ≤ 52 ∧ FP.Core.decode FP.Core.b64 (FP.i2d (jI (n : Int))).toNat = .fin false (n * 2 ^ k) (-(k : Int)) := by
  have hv := vz_dec (vb_all vz_tab n h0 (by omega))
  have hn : n.log2 ≤ 52 := by
    refine Nat.le_of_not_lt (fun g => ?_)
    have h2 : 2 ^ n.log2 ≤ n := Nat.log2_self_le (by omega)
    have h3 : 2 ^ 52 ≤ 2 ^ n.log2 := Nat.pow_le_pow_right (by decide) (by omega)
    have h4 : (2 : Nat) ^ 52 = 4503599627370496 := by decide
    omega
  refine ⟨52 - n.log2, by omega, ?_⟩
  refine (vz_of ?_ ?_).1
  · have a1 : 2 ^ n.log2 ≤ n := Nat.log2_self_le (by omega)
    have a2 : n < 2 ^ (n.log2 + 1) := Nat.lt_log2_self
    have p : 2 ^ n.log2 * 2 ^ (52 - n.log2) = 4503599627370496 := by rw [← Nat.pow_add, show n.log2 + (52 - n.log2) = 52 by omega]
    have b1 := Nat.mul_le_mul_right (2 ^ (52 - n.log2)) a1
    have b2 := (Nat.mul_lt_mul_right (Nat.two_pow_pos (52 - n.log2))).mpr a2
    rw [Nat.pow_succ, Nat.mul_assoc, Nat.mul_comm 2, ← Nat.mul_assoc, p] at b2
    rw [p] at b1
    exact ⟨by omega, by omega, by omega, Or.inr b1⟩
  · show UInt64.ofNat (FP.Core.encode FP.Core.b64 (FP.Core.round FP.Core.b64 (FP.Core.ofInt (jI (n : Int)).toInt))) = _
    rw [jI_int ⟨by omega, by omega⟩]
    have e : FP.Core.ofInt (n : Int) = .fin false n 0 := by
      unfold FP.Core.ofInt
      rw [decide_eq_false (by omega)]
      rfl
    rw [e]
    show UInt64.ofNat (FP.Core.encode FP.Core.b64 (FP.Core.roundRatio FP.Core.b64 false n 1 0)) = _
    rw [hv]
theorem vz_i2d0 : FP.Core.decode FP.Core.b64 (FP.i2d (jI 0)).toNat = .fin false 0 (-1074) := by decide +kernel
/-- a share of a text -/
theorem vz_div {a n g : Nat} (ha : a ≤ n) (n0 : 1 ≤ n) (n1 : n ≤ 720) (hg : g * n ≤ a * 2 ^ 14) (hh : a * 2 ^ 14 ≤ (g + 1) * n) : vz_d (FP.ddiv (FP.i2d (jI (a : Int))) (FP.i2d (jI (n : Int)))) g (g + 1) ∧ vj_n64 (FP.ddiv (FP.i2d (jI (a : Int))) (FP.i2d (jI (n : Int)))) = true := by
  obtain ⟨k, hk, hd⟩ := vz_i2d n0 n1
  have hg15 : g + 1 ≤ 2 ^ 15 := by
    have h1 : g * n ≤ 2 ^ 14 * n := by
      calc g * n ≤ a * 2 ^ 14 := hg
        _ ≤ n * 2 ^ 14 := Nat.mul_le_mul_right _ ha
        _ = 2 ^ 14 * n := Nat.mul_comm _ _
    have h2 := (Nat.mul_le_mul_right_iff (show 0 < n by omega)).mp h1
    have h3 : (2 : Nat) ^ 14 = 16384 := by decide
    have h4 : (2 : Nat) ^ 15 = 32768 := by decide
    omega
  have hn2 : ¬ n * 2 ^ k = 0 := by
    have := Nat.mul_pos (show 0 < n by omega) (Nat.two_pow_pos k)
    omega
  have key : ∃ c q, FP.Core.quotient FP.Core.b64 (FP.Core.decode FP.Core.b64 (FP.i2d (jI (a : Int))).toNat) (FP.Core.decode FP.Core.b64 (FP.i2d (jI (n : Int))).toNat) = .fin false c q ∧ vz_ok c q ∧ vz_b c q g (g + 1) := by
    rw [hd]
    by_cases a0 : a = 0
    · subst a0
      rw [show ((0 : Nat) : Int) = 0 from rfl, vz_i2d0]
      refine ⟨0, -1074, ?_, ⟨by decide, by decide, by decide, Or.inl rfl⟩, by decide, ?_, Nat.zero_le _⟩
      · unfold FP.Core.quotient
        dsimp only
        rw [if_neg hn2]
        rfl
      · have : g = 0 := by
          rw [Nat.zero_mul] at hg
          rcases Nat.eq_zero_or_pos g with q | q
          · exact q
          · have := Nat.mul_pos q (show 0 < n by omega)
            omega
        rw [this, Nat.zero_mul]
        exact Nat.le_refl _
    · obtain ⟨k2, hk2, hd2⟩ := vz_i2d (n := a) (by omega) (by omega)
      rw [hd2]
      obtain ⟨c, q, f1, f2, f3⟩ := vz_round (A := a * 2 ^ k2) (B := n * 2 ^ k) (E := k2) (F := 14 + k) (g := g) (h := g + 1) (Nat.mul_pos (by omega) (Nat.two_pow_pos _)) (by omega) (by omega)
        (by
          calc g * 2 ^ k2 * (n * 2 ^ k) = g * n * (2 ^ k2 * 2 ^ k) := by ac_rfl
            _ ≤ a * 2 ^ 14 * (2 ^ k2 * 2 ^ k) := Nat.mul_le_mul_right _ hg
            _ = a * 2 ^ k2 * 2 ^ (14 + k) := by rw [Nat.pow_add 2 14 k]; ac_rfl)
        (by
          calc a * 2 ^ k2 * 2 ^ (14 + k) = a * 2 ^ 14 * (2 ^ k2 * 2 ^ k) := by rw [Nat.pow_add 2 14 k]; ac_rfl
            _ ≤ (g + 1) * n * (2 ^ k2 * 2 ^ k) := Nat.mul_le_mul_right _ hh
            _ = (g + 1) * 2 ^ k2 * (n * 2 ^ k) := by ac_rfl) hg15
      refine ⟨c, q, ?_, f2, f3⟩
      unfold FP.Core.quotient
      dsimp only
      rw [if_neg hn2, show -(k2 : Int) - -(k : Int) = ((14 + k : Nat) : Int) - 14 - (k2 : Int) by omega]
      exact f1
  obtain ⟨c, q, f1, f2, f3⟩ := key
  have hr : FP.ddiv (FP.i2d (jI (a : Int))) (FP.i2d (jI (n : Int))) = UInt64.ofNat (FP.Core.encode FP.Core.b64 (.fin false c q)) := by
    show UInt64.ofNat (FP.Core.encode FP.Core.b64 (FP.Core.quotient FP.Core.b64 _ _)) = _
    rw [f1]
  obtain ⟨v1, v2⟩ := vz_of f2 hr
  exact ⟨⟨c, q, v1, f2, f3⟩, v2⟩
end VW23
