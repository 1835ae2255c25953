/-! ===== a rule for each operation ===== -/
section VW2
variable {S : Type} {D : S → vj_M → Prop} {L : Nat} {xs : Nat → Int32} {σ : S} {Q : List Value → S → Prop} {k pc a b c : Nat} {lc lc' : List (Option Value)} {sc : List Value}
theorem vw_cat_le {l : List Value} (h : Nat.ble (vj_cat l) 8 = true) : vj_cat l ≤ 8 := Nat.le_of_ble_eq_true h
/-! the comparisons -/
theorem vwc_0 {x y : Int} (hx : vw_in x) (hy : vw_in y) : vj_cond 0 (jI x) (jI y) = true ↔ x = y := (decide_eq_true_iff (p := jI x = jI y)).trans (jI_eq hx hy)
theorem vwc_1 {x y : Int} (hx : vw_in x) (hy : vw_in y) : vj_cond 1 (jI x) (jI y) = true ↔ ¬ x = y := (decide_eq_true_iff (p := ¬ jI x = jI y)).trans (not_congr (jI_eq hx hy))
theorem vwc_2 {x y : Int} (hx : vw_in x) (hy : vw_in y) : vj_cond 2 (jI x) (jI y) = true ↔ x < y := (decide_eq_true_iff (p := jI x < jI y)).trans (jI_lt hx hy)
theorem vwc_3 {x y : Int} (hx : vw_in x) (hy : vw_in y) : vj_cond 3 (jI x) (jI y) = true ↔ y ≤ x := (decide_eq_true_iff (p := jI y ≤ jI x)).trans (jI_le hy hx)
theorem vwc_4 {x y : Int} (hx : vw_in x) (hy : vw_in y) : vj_cond 4 (jI x) (jI y) = true ↔ y < x := (decide_eq_true_iff (p := jI y < jI x)).trans (jI_lt hy hx)
theorem vwc_5 {x y : Int} (hx : vw_in x) (hy : vw_in y) : vj_cond 5 (jI x) (jI y) = true ↔ x ≤ y := (decide_eq_true_iff (p := jI x ≤ jI y)).trans (jI_le hx hy)
theorem vwz_0 {x : Int} (hx : vw_in x) : vj_cond 0 (jI x) 0 = true ↔ x = 0 := vwc_0 hx (y := 0) ⟨by omega, by omega⟩
theorem vwz_1 {x : Int} (hx : vw_in x) : vj_cond 1 (jI x) 0 = true ↔ ¬ x = 0 := vwc_1 hx (y := 0) ⟨by omega, by omega⟩
theorem vwz_2 {x : Int} (hx : vw_in x) : vj_cond 2 (jI x) 0 = true ↔ x < 0 := vwc_2 hx (y := 0) ⟨by omega, by omega⟩
theorem vwz_3 {x : Int} (hx : vw_in x) : vj_cond 3 (jI x) 0 = true ↔ 0 ≤ x := vwc_3 hx (y := 0) ⟨by omega, by omega⟩
theorem vwz_4 {x : Int} (hx : vw_in x) : vj_cond 4 (jI x) 0 = true ↔ 0 < x := vwc_4 hx (y := 0) ⟨by omega, by omega⟩
theorem vwz_5 {x : Int} (hx : vw_in x) : vj_cond 5 (jI x) 0 = true ↔ x ≤ 0 := vwc_5 hx (y := 0) ⟨by omega, by omega⟩
theorem w0 {v : Value} (hc : vt_code k pc = (0, a, b, c)) (hv : vj_lget lc a = some v) (hi : vj_isI v = true) (t : vW D L xs (k, pc + b, lc, v :: sc) σ Q) : vW D L xs (k, pc, lc, sc) σ Q :=
  vW.step (fun M _ => vk_st hc (by
    show vj_oload vj_isI a b c k pc lc sc M = _
    unfold vj_oload
    rw [hv]
    dsimp only
    rw [if_pos hi]
    rfl)) t
theorem w1 {v : Value} (hc : vt_code k pc = (1, a, b, c)) (hv : vj_lget lc a = some v) (hi : vj_isA v = true) (t : vW D L xs (k, pc + b, lc, v :: sc) σ Q) : vW D L xs (k, pc, lc, sc) σ Q :=
  vW.step (fun M _ => vk_st hc (by
    show vj_oload vj_isA a b c k pc lc sc M = _
    unfold vj_oload
    rw [hv]
    dsimp only
    rw [if_pos hi]
    rfl)) t
theorem w52 {v : Value} (hc : vt_code k pc = (52, a, b, c)) (hv : vj_lget lc a = some v) (hi : vj_isJ v = true) (t : vW D L xs (k, pc + b, lc, v :: sc) σ Q) : vW D L xs (k, pc, lc, sc) σ Q :=
  vW.step (fun M _ => vk_st hc (by
    show vj_oload vj_isJ a b c k pc lc sc M = _
    unfold vj_oload
    rw [hv]
    dsimp only
    rw [if_pos hi]
    rfl)) t
theorem w55 {v : Value} (hc : vt_code k pc = (55, a, b, c)) (hv : vj_lget lc a = some v) (hi : vj_isD v = true) (t : vW D L xs (k, pc + b, lc, v :: sc) σ Q) : vW D L xs (k, pc, lc, sc) σ Q :=
  vW.step (fun M _ => vk_st hc (by
    show vj_oload vj_isD a b c k pc lc sc M = _
    unfold vj_oload
    rw [hv]
    dsimp only
    rw [if_pos hi]
    rfl)) t
theorem w3 {v : Value} (hc : vt_code k pc = (3, a, b, c)) (hi : vj_isI v = true) (hl : vj_lset lc a v = lc') (t : vW D L xs (k, pc + b, lc', sc) σ Q) : vW D L xs (k, pc, lc, v :: sc) σ Q :=
  vW.step (fun M _ => vk_st hc (by
    show (if vj_isI v = true then vj_next k (pc + b) (vj_lset lc a v) sc M else none) = _
    rw [if_pos hi, hl]
    rfl)) t
theorem w4 {v : Value} (hc : vt_code k pc = (4, a, b, c)) (hi : vj_isA v = true) (hl : vj_lset lc a v = lc') (t : vW D L xs (k, pc + b, lc', sc) σ Q) : vW D L xs (k, pc, lc, v :: sc) σ Q :=
  vW.step (fun M _ => vk_st hc (by
    show (if vj_isA v = true then vj_next k (pc + b) (vj_lset lc a v) sc M else none) = _
    rw [if_pos hi, hl]
    rfl)) t
theorem w53 {v : Value} (hc : vt_code k pc = (53, a, b, c)) (hi : vj_isJ v = true) (hl : vj_lset lc a v = lc') (t : vW D L xs (k, pc + b, lc', sc) σ Q) : vW D L xs (k, pc, lc, v :: sc) σ Q :=
  vW.step (fun M _ => vk_st hc (by
    show (if vj_isJ v = true then vj_next k (pc + b) (vj_lset lc a v) sc M else none) = _
    rw [if_pos hi, hl]
    rfl)) t
theorem w56 {v : Value} (hc : vt_code k pc = (56, a, b, c)) (hi : vj_isD v = true) (hl : vj_lset lc a v = lc') (t : vW D L xs (k, pc + b, lc', sc) σ Q) : vW D L xs (k, pc, lc, v :: sc) σ Q :=
  vW.step (fun M _ => vk_st hc (by
    show (if vj_isD v = true then vj_next k (pc + b) (vj_lset lc a v) sc M else none) = _
    rw [if_pos hi, hl]
    rfl)) t
theorem w2 (z : Int) (hc : vt_code k pc = (2, a, b, c)) (hz : nI a = jI z) (t : vW D L xs (k, pc + b, lc, .int (jI z) :: sc) σ Q) : vW D L xs (k, pc, lc, sc) σ Q :=
  vW.step (fun M _ => vk_st hc (by
    show vj_next k (pc + b) lc (.int (nI a) :: sc) M = _
    rw [hz]
    rfl)) t
theorem w71 (z : Int) (hc : vt_code k pc = (71, a, b, c)) (hz : nI a = jI z) (t : vW D L xs (k, pc + 2, lc, .int (jI z) :: sc) σ Q) : vW D L xs (k, pc, lc, sc) σ Q :=
  vW.step (fun M _ => vk_st hc (by
    show vj_next k (pc + 2) lc (.int (nI a) :: sc) M = _
    rw [hz]
    rfl)) t
theorem w5 (hc : vt_code k pc = (5, a, b, c)) (t : vW D L xs (k, a, lc, sc) σ Q) : vW D L xs (k, pc, lc, sc) σ Q := vW.step (fun M _ => vk_st hc rfl) t
theorem w6 {x : Int} (z : Int) (hc : vt_code k pc = (6, a, b, c)) (hv : vj_lget lc a = some (.int (jI x))) (hz : nI b = jI z) (hl : vj_lset lc a (.int (jI (x + z))) = lc') (t : vW D L xs (k, pc + 3, lc', sc) σ Q) : vW D L xs (k, pc, lc, sc) σ Q :=
  vW.step (fun M _ => vk_st hc (by
    show vj_oinc a b c k pc lc sc M = _
    unfold vj_oinc
    rw [hv]
    dsimp only
    rw [hz, jI_add, hl]
    rfl)) t
theorem w7 {x : Int32} {p : Prop} (hc : vt_code k pc = (7, a, b, c)) (hp : vj_cond b x 0 = true ↔ p) (t1 : p → vW D L xs (k, a, lc, sc) σ Q) (t2 : ¬ p → vW D L xs (k, pc + 3, lc, sc) σ Q) : vW D L xs (k, pc, lc, .int x :: sc) σ Q := by
  by_cases h : vj_cond b x 0 = true
  · exact vW.step (fun M _ => vk_st hc (by
      show vj_next k (if vj_cond b x 0 = true then a else pc + 3) lc sc M = _
      rw [if_pos h]
      rfl)) (t1 (hp.mp h))
  · exact vW.step (fun M _ => vk_st hc (by
      show vj_next k (if vj_cond b x 0 = true then a else pc + 3) lc sc M = _
      rw [if_neg h]
      rfl)) (t2 (fun q => h (hp.mpr q)))
theorem w8 {x y : Int32} {p : Prop} (hc : vt_code k pc = (8, a, b, c)) (hp : vj_cond b x y = true ↔ p) (t1 : p → vW D L xs (k, a, lc, sc) σ Q) (t2 : ¬ p → vW D L xs (k, pc + 3, lc, sc) σ Q) : vW D L xs (k, pc, lc, .int y :: .int x :: sc) σ Q := by
  by_cases h : vj_cond b x y = true
  · exact vW.step (fun M _ => vk_st hc (by
      show vj_next k (if vj_cond b x y = true then a else pc + 3) lc sc M = _
      rw [if_pos h]
      rfl)) (t1 (hp.mp h))
  · exact vW.step (fun M _ => vk_st hc (by
      show vj_next k (if vj_cond b x y = true then a else pc + 3) lc sc M = _
      rw [if_neg h]
      rfl)) (t2 (fun q => h (hp.mpr q)))
theorem w9 {x y : Int} (hc : vt_code k pc = (9, a, b, c)) (t : vW D L xs (k, pc + 1, lc, .int (jI (x + y)) :: sc) σ Q) : vW D L xs (k, pc, lc, .int (jI y) :: .int (jI x) :: sc) σ Q :=
  vW.step (fun M _ => vk_st hc (by
    show vj_next k (pc + 1) lc (.int (jI x + jI y) :: sc) M = _
    rw [jI_add]
    rfl)) t
theorem w10 {x y : Int} (hc : vt_code k pc = (10, a, b, c)) (t : vW D L xs (k, pc + 1, lc, .int (jI (x - y)) :: sc) σ Q) : vW D L xs (k, pc, lc, .int (jI y) :: .int (jI x) :: sc) σ Q :=
  vW.step (fun M _ => vk_st hc (by
    show vj_next k (pc + 1) lc (.int (jI x - jI y) :: sc) M = _
    rw [jI_sub]
    rfl)) t
theorem w11 {x y : Int} (hc : vt_code k pc = (11, a, b, c)) (t : vW D L xs (k, pc + 1, lc, .int (jI (x * y)) :: sc) σ Q) : vW D L xs (k, pc, lc, .int (jI y) :: .int (jI x) :: sc) σ Q :=
  vW.step (fun M _ => vk_st hc (by
    show vj_next k (pc + 1) lc (.int (jI x * jI y) :: sc) M = _
    rw [jI_mul]
    rfl)) t
theorem w12 {x y : Int32} (z : Int) (hc : vt_code k pc = (12, a, b, c)) (hz : x &&& y = jI z) (t : vW D L xs (k, pc + 1, lc, .int (jI z) :: sc) σ Q) : vW D L xs (k, pc, lc, .int y :: .int x :: sc) σ Q :=
  vW.step (fun M _ => vk_st hc (by
    show vj_next k (pc + 1) lc (.int (x &&& y) :: sc) M = _
    rw [hz]
    rfl)) t
theorem w65 {x y : Int32} (z : Int) (hc : vt_code k pc = (65, a, b, c)) (hz : x <<< (y &&& 31) = jI z) (t : vW D L xs (k, pc + 1, lc, .int (jI z) :: sc) σ Q) : vW D L xs (k, pc, lc, .int y :: .int x :: sc) σ Q :=
  vW.step (fun M _ => vk_st hc (by
    show vj_next k (pc + 1) lc (.int (x <<< (y &&& 31)) :: sc) M = _
    rw [hz]
    rfl)) t
theorem w66 {x y : Int32} (z : Int) (hc : vt_code k pc = (66, a, b, c)) (hz : x >>> (y &&& 31) = jI z) (t : vW D L xs (k, pc + 1, lc, .int (jI z) :: sc) σ Q) : vW D L xs (k, pc, lc, .int y :: .int x :: sc) σ Q :=
  vW.step (fun M _ => vk_st hc (by
    show vj_next k (pc + 1) lc (.int (x >>> (y &&& 31)) :: sc) M = _
    rw [hz]
    rfl)) t
theorem jI_div {x y : Int} (hx : 0 ≤ x) (hx' : vw_in x) (hy : 0 < y) (hy' : vw_in y) : jI x / jI y = jI (x / y) := by
  have h : vw_in (x / y) := by
    have h1 := Int.ediv_nonneg hx (Int.le_of_lt hy)
    have h2 : x / y ≤ x := Int.ediv_le_self _ hx
    exact ⟨by omega, by have := hx'.2; omega⟩
  apply Int32.toInt_inj.mp
  rw [Int32.toInt_div, jI_int hx', jI_int hy', jI_int h, Int.tdiv_eq_ediv_of_nonneg hx]
  have h1 := h.1
  have h2 := h.2
  rw [Int.bmod_def]
  split <;> omega
theorem jI_rem {x y : Int} (hx : 0 ≤ x) (hx' : vw_in x) (hy : 0 < y) (hy' : vw_in y) : jI x - jI x / jI y * jI y = jI (x % y) := by
  rw [jI_div hx hx' hy hy', jI_mul, jI_sub]
  congr 1
  have := Int.emod_add_mul_ediv x y
  have e : x / y * y = y * (x / y) := Int.mul_comm _ _
  omega
theorem jI_ne0 {y : Int} (hy : 0 < y) (hy' : vw_in y) : ¬ jI y = 0 := fun h => by
  have := (jI_eq hy' (y := 0) ⟨by omega, by omega⟩).mp h
  omega
theorem w13 {x y : Int} (hc : vt_code k pc = (13, a, b, c)) (hx : 0 ≤ x) (hx' : vw_in x) (hy : 0 < y) (hy' : vw_in y) (t : vW D L xs (k, pc + 1, lc, .int (jI (x % y)) :: sc) σ Q) : vW D L xs (k, pc, lc, .int (jI y) :: .int (jI x) :: sc) σ Q :=
  vW.step (fun M _ => vk_st hc (by
    show (if jI y = 0 then none else vj_next k (pc + 1) lc (.int (jI x - jI x / jI y * jI y) :: sc) M) = _
    rw [if_neg (jI_ne0 hy hy'), jI_rem hx hx' hy hy']
    rfl)) t
theorem w64 {x y : Int} (hc : vt_code k pc = (64, a, b, c)) (hx : 0 ≤ x) (hx' : vw_in x) (hy : 0 < y) (hy' : vw_in y) (t : vW D L xs (k, pc + 1, lc, .int (jI (x / y)) :: sc) σ Q) : vW D L xs (k, pc, lc, .int (jI y) :: .int (jI x) :: sc) σ Q :=
  vW.step (fun M _ => vk_st hc (by
    show (if jI y = 0 then none else vj_next k (pc + 1) lc (.int (jI x / jI y) :: sc) M) = _
    rw [if_neg (jI_ne0 hy hy'), jI_div hx hx' hy hy']
    rfl)) t
theorem w31 {x y : Int} (hc : vt_code k pc = (31, a, b, c)) (hx : vw_in x) (hy : vw_in y) (hs : Nat.ble (vj_cat sc) 8 = true) (t : vW D L xs (k, pc + 3, lc, .int (jI (max x y)) :: sc) σ Q) : vW D L xs (k, pc, lc, .int (jI y) :: .int (jI x) :: sc) σ Q :=
  vW.step (fun M _ => vk_st hc (by
    show (if vj_cat sc ≤ 8 then vj_next k (pc + 3) lc (.int (if jI x < jI y then jI y else jI x) :: sc) M else none) = _
    rw [if_pos (vw_cat_le hs)]
    have e : (if jI x < jI y then jI y else jI x) = jI (max x y) := by
      by_cases h : x < y
      · rw [if_pos ((jI_lt hx hy).mpr h), Int.max_eq_right (Int.le_of_lt h)]
      · rw [if_neg (fun q => h ((jI_lt hx hy).mp q)), Int.max_eq_left (Int.not_lt.mp h)]
    rw [e]
    rfl)) t
theorem w32 {x y : Int} (hc : vt_code k pc = (32, a, b, c)) (hx : vw_in x) (hy : vw_in y) (hs : Nat.ble (vj_cat sc) 8 = true) (t : vW D L xs (k, pc + 3, lc, .int (jI (min x y)) :: sc) σ Q) : vW D L xs (k, pc, lc, .int (jI y) :: .int (jI x) :: sc) σ Q :=
  vW.step (fun M _ => vk_st hc (by
    show (if vj_cat sc ≤ 8 then vj_next k (pc + 3) lc (.int (if jI y < jI x then jI y else jI x) :: sc) M else none) = _
    rw [if_pos (vw_cat_le hs)]
    have e : (if jI y < jI x then jI y else jI x) = jI (min x y) := by
      by_cases h : y < x
      · rw [if_pos ((jI_lt hy hx).mpr h), Int.min_eq_right (Int.le_of_lt h)]
      · rw [if_neg (fun q => h ((jI_lt hy hx).mp q)), Int.min_eq_left (Int.not_lt.mp h)]
    rw [e]
    rfl)) t
/-! the stack -/
theorem w38 {v : Value} (hc : vt_code k pc = (38, a, b, c)) (hv : vj_two v = false) (t : vW D L xs (k, pc + 1, lc, v :: v :: sc) σ Q) : vW D L xs (k, pc, lc, v :: sc) σ Q :=
  vW.step (fun M _ => vk_st hc (show (if vj_two v = true then none else vj_next k (pc + 1) lc (v :: v :: sc) M) = _ by rw [hv]; rfl)) t
theorem w39 {v : Value} (hc : vt_code k pc = (39, a, b, c)) (hv : vj_two v = false) (t : vW D L xs (k, pc + 1, lc, sc) σ Q) : vW D L xs (k, pc, lc, v :: sc) σ Q :=
  vW.step (fun M _ => vk_st hc (show (if vj_two v = true then none else vj_next k (pc + 1) lc sc M) = _ by rw [hv]; rfl)) t
theorem w40 {v u : Value} (hc : vt_code k pc = (40, a, b, c)) (hv : vj_two v = false) (hu : vj_two u = false) (t : vW D L xs (k, pc + 1, lc, v :: u :: v :: sc) σ Q) : vW D L xs (k, pc, lc, v :: u :: sc) σ Q :=
  vW.step (fun M _ => vk_st hc (show (if vj_two v = true ∨ vj_two u = true then none else vj_next k (pc + 1) lc (v :: u :: v :: sc) M) = _ by rw [hv, hu]; rfl)) t
/-! ends -/
theorem w42 {x : Int32} (hc : vt_code k pc = (42, a, b, c)) (hr : (vt_mi k).2.2.2.1 = 1) (q : Q [.int x] σ) : vW D L xs (k, pc, lc, [.int x]) σ Q :=
  vW.ret (v := [.int x]) (fun M _ => vk_st hc (by
    show vj_oret vt_mi a b c k pc lc [.int x] M = _
    unfold vj_oret
    dsimp only
    rw [hr]
    exact if_pos rfl)) q
theorem w42b {z : Int} (hc : vt_code k pc = (42, a, b, c)) (hr : (vt_mi k).2.2.2.1 = 2) (h01 : z = 0 ∨ z = 1) (q : Q [.int (jI z)] σ) : vW D L xs (k, pc, lc, [.int (jI z)]) σ Q :=
  vW.ret (v := [.int (jI z)]) (fun M _ => vk_st hc (by
    show vj_oret vt_mi a b c k pc lc [.int (jI z)] M = _
    unfold vj_oret
    dsimp only
    rw [hr]
    exact if_pos (show vj_is01 (.int (jI z)) = true by rcases h01 with rfl | rfl <;> decide))) q
theorem w43 (hc : vt_code k pc = (43, a, b, c)) (hr : (vt_mi k).2.2.2.1 = 0) (q : Q [] σ) : vW D L xs (k, pc, lc, []) σ Q :=
  vW.ret (v := []) (fun M _ => vk_st hc (by
    show vj_ovret vt_mi a b c k pc lc [] M = _
    unfold vj_ovret
    dsimp only
    exact if_pos hr)) q
theorem w45 {x : Int64} (hc : vt_code k pc = (45, a, b, c)) (hr : (vt_mi k).2.2.2.1 = 3) (q : Q [.long x] σ) : vW D L xs (k, pc, lc, [.long x]) σ Q :=
  vW.ret (v := [.long x]) (fun M _ => vk_st hc (by
    show vj_oret vt_mi a b c k pc lc [.long x] M = _
    unfold vj_oret
    dsimp only
    rw [hr]
    exact if_pos rfl)) q
theorem w46 {x : UInt64} (hc : vt_code k pc = (46, a, b, c)) (hr : (vt_mi k).2.2.2.1 = 4) (q : Q [.double x] σ) : vW D L xs (k, pc, lc, [.double x]) σ Q :=
  vW.ret (v := [.double x]) (fun M _ => vk_st hc (by
    show vj_oret vt_mi a b c k pc lc [.double x] M = _
    unfold vj_oret
    dsimp only
    rw [hr]
    exact if_pos rfl)) q
/-! longs, doubles, constants -/
theorem w47 {x : Int32} (hc : vt_code k pc = (47, a, b, c)) (t : vW D L xs (k, pc + 1, lc, .long x.toInt64 :: sc) σ Q) : vW D L xs (k, pc, lc, .int x :: sc) σ Q := vW.step (fun M _ => vk_st hc rfl) t
theorem w48 {x y : Int64} (hc : vt_code k pc = (48, a, b, c)) (t : vW D L xs (k, pc + 1, lc, .long (x + y) :: sc) σ Q) : vW D L xs (k, pc, lc, .long y :: .long x :: sc) σ Q := vW.step (fun M _ => vk_st hc rfl) t
theorem w49 {x y : Int64} (hc : vt_code k pc = (49, a, b, c)) (t : vW D L xs (k, pc + 1, lc, .long (x * y) :: sc) σ Q) : vW D L xs (k, pc, lc, .long y :: .long x :: sc) σ Q := vW.step (fun M _ => vk_st hc rfl) t
theorem w50 {x y : Int64} (hc : vt_code k pc = (50, a, b, c)) (t : vW D L xs (k, pc + 1, lc, .int (lg_cmp x y) :: sc) σ Q) : vW D L xs (k, pc, lc, .long y :: .long x :: sc) σ Q := vW.step (fun M _ => vk_st hc rfl) t
theorem w51 (hc : vt_code k pc = (51, a, b, c)) (t : vW D L xs (k, pc + (if b = 0 then 1 else 3), lc, .long (lN a) :: sc) σ Q) : vW D L xs (k, pc, lc, sc) σ Q := vW.step (fun M _ => vk_st hc rfl) t
theorem w54 (hc : vt_code k pc = (54, a, b, c)) (t : vW D L xs (k, pc + 1, lc, .double FP.dconst0 :: sc) σ Q) : vW D L xs (k, pc, lc, sc) σ Q := vW.step (fun M _ => vk_st hc rfl) t
theorem w72 (hc : vt_code k pc = (72, a, b, c)) (t : vW D L xs (k, pc + 3, lc, .double (UInt64.ofNat a) :: sc) σ Q) : vW D L xs (k, pc, lc, sc) σ Q := vW.step (fun M _ => vk_st hc rfl) t
theorem w57 {x y : UInt64} (hc : vt_code k pc = (57, a, b, c)) (t : vW D L xs (k, pc + 1, lc, .int (Op.cmpValue (FP.dcmp x y) .l) :: sc) σ Q) : vW D L xs (k, pc, lc, .double y :: .double x :: sc) σ Q := vW.step (fun M _ => vk_st hc rfl) t
theorem w70 {x y : UInt64} (hc : vt_code k pc = (70, a, b, c)) (t : vW D L xs (k, pc + 1, lc, .int (Op.cmpValue (FP.dcmp x y) .g) :: sc) σ Q) : vW D L xs (k, pc, lc, .double y :: .double x :: sc) σ Q := vW.step (fun M _ => vk_st hc rfl) t
theorem w67 {x : Int32} (hc : vt_code k pc = (67, a, b, c)) (t : vW D L xs (k, pc + 1, lc, .double (FP.i2d x) :: sc) σ Q) : vW D L xs (k, pc, lc, .int x :: sc) σ Q := vW.step (fun M _ => vk_st hc rfl) t
theorem w68 {x y : UInt64} (hc : vt_code k pc = (68, a, b, c)) (hn : vj_n64 (FP.ddiv x y) = true) (t : vW D L xs (k, pc + 1, lc, .double (FP.ddiv x y) :: sc) σ Q) : vW D L xs (k, pc, lc, .double y :: .double x :: sc) σ Q := vW.step (fun M _ => vk_st hc (if_pos hn)) t
theorem w69 {x y : UInt64} (hc : vt_code k pc = (69, a, b, c)) (hn : vj_n64 (FP.dadd x y) = true) (t : vW D L xs (k, pc + 1, lc, .double (FP.dadd x y) :: sc) σ Q) : vW D L xs (k, pc, lc, .double y :: .double x :: sc) σ Q := vW.step (fun M _ => vk_st hc (if_pos hn)) t
theorem w58 (hc : vt_code k pc = (58, a, b, c)) (t : vW D L xs (k, pc + 3, lc, .ref (a + 1) :: sc) σ Q) : vW D L xs (k, pc, lc, sc) σ Q := vW.step (fun M _ => vk_st hc rfl) t
theorem w59 {x y : Nat} (hc : vt_code k pc = (59, a, b, c)) (hx : x < 5) (hy : y < 5) (t1 : x = y → vW D L xs (k, pc + 3, lc, sc) σ Q) (t2 : ¬ x = y → vW D L xs (k, a, lc, sc) σ Q) : vW D L xs (k, pc, lc, .ref (y + 1) :: .ref (x + 1) :: sc) σ Q := by
  have hj : ∀ M, vj_op vt_mi vt_nf vt_ts vt_td L xs 59 a b c k pc lc (.ref (y + 1) :: .ref (x + 1) :: sc) M = vj_next k (if Nat.beq (x + 1) (y + 1) = true then pc + 3 else a) lc sc M := fun M => by
    show (if vj_enq (x + 1) (y + 1) = true then _ else none) = _
    rw [if_pos (show vj_enq (x + 1) (y + 1) = true from decide_eq_true ⟨by omega, by omega, by omega, by omega⟩)]
  by_cases h : x = y
  · exact vW.step (fun M _ => vk_st hc (by rw [hj, if_pos (show Nat.beq (x + 1) (y + 1) = true by rw [h, Nat.beq_refl])]; rfl)) (t1 h)
  · exact vW.step (fun M _ => vk_st hc (by rw [hj, if_neg (fun q => h (by have := Nat.eq_of_beq_eq_true q; omega))]; rfl)) (t2 h)
theorem w60 {q : Nat} (hc : vt_code k pc = (60, a, b, c)) (t : vW D L xs (k, pc + 3, lc, sc) σ Q) : vW D L xs (k, pc, lc, .ref q :: sc) σ Q := vW.step (fun M _ => vk_st hc rfl) t
theorem w60n (hc : vt_code k pc = (60, a, b, c)) (t : vW D L xs (k, a, lc, sc) σ Q) : vW D L xs (k, pc, lc, .null :: sc) σ Q := vW.step (fun M _ => vk_st hc rfl) t
theorem w61 {q : Nat} (hc : vt_code k pc = (61, a, b, c)) (t : vW D L xs (k, a, lc, sc) σ Q) : vW D L xs (k, pc, lc, .ref q :: sc) σ Q := vW.step (fun M _ => vk_st hc rfl) t
theorem w61n (hc : vt_code k pc = (61, a, b, c)) (t : vW D L xs (k, pc + 3, lc, sc) σ Q) : vW D L xs (k, pc, lc, .null :: sc) σ Q := vW.step (fun M _ => vk_st hc rfl) t
theorem w62 (hc : vt_code k pc = (62, a, b, c)) (t : vW D L xs (k, pc + 1, lc, .null :: sc) σ Q) : vW D L xs (k, pc, lc, sc) σ Q := vW.step (fun M _ => vk_st hc rfl) t
theorem w63 {x : Int32} (hc : vt_code k pc = (63, a, b, c)) (t : vW D L xs (k, vj_tsw vt_ts vt_td x, lc, sc) σ Q) : vW D L xs (k, pc, lc, .int x :: sc) σ Q := vW.step (fun M _ => vk_st hc rfl) t
/-! the script -/
theorem w26s (hc : vt_code k pc = (26, a, b, c)) (t : vW D L xs (k, pc + 1, lc, .int (nI L) :: sc) σ Q) : vW D L xs (k, pc, lc, .ref 0 :: sc) σ Q := vW.step (fun M _ => vk_st hc (by
    show vj_olen L a b c k pc lc (.ref 0 :: sc) M = _
    unfold vj_olen
    dsimp only
    rw [if_pos rfl]
    rfl)) t
theorem w16s {i : Int32} (hc : vt_code k pc = (16, a, b, c)) (hi : vj_in i L = true) (t : vW D L xs (k, pc + 1, lc, .int (xs i.toNatClampNeg) :: sc) σ Q) : vW D L xs (k, pc, lc, .int i :: .ref 0 :: sc) σ Q := vW.step (fun M _ => vk_st hc (by
    show vj_oiald L xs a b c k pc lc (.int i :: .ref 0 :: sc) M = _
    unfold vj_oiald
    dsimp only
    rw [if_pos rfl, if_pos hi]
    rfl)) t
/-! calls -/
theorem w29 {vs : List Value} {n : Nat} (hc : vt_code k pc = (29, a, b, c)) (hn : (vt_mi a).2.1 = n) (hv : sc.take n = vs) (hm : Nat.ble (vj_cat vs) (vt_mi a).2.2.1 = true) (hs : Nat.ble (vj_cat (sc.drop n)) 8 = true) (hl : n ≤ sc.length)
    (t : vW D L xs (a, 0, vj_args (vt_mi a).2.2.1 vs.reverse, []) σ (fun v σ1 => vW D L xs (k, pc + 3, lc, v ++ sc.drop n) σ1 Q)) : vW D L xs (k, pc, lc, sc) σ Q :=
  vW.call (g := (k, pc, lc, sc.drop n)) (vs := vs.reverse) (a := a) (fun M hM => vk_st hc (by
    show vj_ocall vt_mi 2 a b c k pc lc sc M = _
    unfold vj_ocall
    rw [hn, hv, if_pos ⟨hl, Nat.le_of_ble_eq_true hm, vw_cat_le hs, rfl⟩])) t

end VW2
section VW3
variable {L : Nat} {xs : Nat → Int32} {σ : vw_S} {Q : List Value → vw_S → Prop} {k pc a b c : Nat} {lc lc' : List (Option Value)} {sc : List Value}
/-! fields -/
theorem w14 {v : Value} {q ci : Nat} {fs : List Value} (hc : vt_code k pc = (14, ci, b, c)) (hq : ∀ M, vw_rep σ M → M.1 q = .inr (ci, fs)) (h8 : 8 ≤ q ∧ q < 811) (hf : fs[b / 4]? = some v) (t : vW vw_rep L xs (k, pc + 3, lc, v :: sc) σ Q) : vW vw_rep L xs (k, pc, lc, .ref q :: sc) σ Q :=
  vW.step (fun M hM => vk_st hc (by
    show vj_oget ci b c k pc lc (.ref q :: sc) M = _
    unfold vj_oget
    dsimp only
    rw [vw_obM hM h8.1 h8.2]
    dsimp only [vj_at]
    rw [hq M hM]
    dsimp only
    rw [if_pos rfl, hf]
    rfl)) t
theorem w14m {v : Value} (hc : vt_code k pc = (14, 5, b, c)) (hf : (vw_fm σ.2)[b / 4]? = some v) (t : vW vw_rep L xs (k, pc + 3, lc, v :: sc) σ Q) : vW vw_rep L xs (k, pc, lc, .ref 8 :: sc) σ Q := w14 hc (fun M hM => hM.2.2.2.2.2.1) ⟨by omega, by omega⟩ hf t
theorem w14h {v : Value} (hc : vt_code k pc = (14, 0, b, c)) (hf : (vw_fh σ.2)[b / 4]? = some v) (t : vW vw_rep L xs (k, pc + 3, lc, v :: sc) σ Q) : vW vw_rep L xs (k, pc, lc, .ref 9 :: sc) σ Q := w14 hc (fun M hM => hM.2.2.2.2.2.2.1) ⟨by omega, by omega⟩ hf t
theorem w14c {v : Value} {i : Nat} (hc : vt_code k pc = (14, 1, b, c)) (hi : i < 6) (hf : (vw_fc σ.2 i)[b / 4]? = some v) (t : vW vw_rep L xs (k, pc + 3, lc, v :: sc) σ Q) : vW vw_rep L xs (k, pc, lc, .ref (vw_cr i) :: sc) σ Q := w14 hc (fun M hM => hM.2.2.2.1 i hi) (vw_tb_lt (vw_copy hi) (by omega)) hf t
theorem w14d {v : Value} {d : Nat} (hc : vt_code k pc = (14, 2, b, c)) (hd : d ≤ 120) (hf : (vw_fd σ.2 d)[b / 4]? = some v) (t : vW vw_rep L xs (k, pc + 3, lc, v :: sc) σ Q) : vW vw_rep L xs (k, pc, lc, .ref (vw_dr d) :: sc) σ Q := w14 hc (fun M hM => hM.2.2.1 d hd) (vw_tb_lt (vw_deed hd) (by omega)) hf t
theorem w14v {v : Value} {i : Nat} (hc : vt_code k pc = (14, 4, b, c)) (hi : i < 2) (hf : (vw_fv i)[b / 4]? = some v) (t : vW vw_rep L xs (k, pc + 3, lc, v :: sc) σ Q) : vW vw_rep L xs (k, pc, lc, .ref (vw_vr i) :: sc) σ Q := w14 hc (fun M hM => hM.2.2.2.2.1 i hi) (vw_tb_lt (vw_view hi) (by omega)) hf t
/-- a thing other than rows changes: what the rest of the heap says stays -/
theorem vw_rep_put {V : Nat → Nat → Int} {M : vj_M} {q ci : Nat} {fs : List Value} {x1 x2 : Nat} (hM : vw_rep σ M) (hx : vw_tb q = (3, x1, x2))
    (h0 : ∀ d, d ≤ 120 → vw_dr d = q → (ci, fs) = (2, vw_fd V d)) (h0' : ∀ d, d ≤ 120 → vw_dr d ≠ q → vw_fd V d = vw_fd σ.2 d)
    (h1 : ∀ i, i < 6 → vw_cr i = q → (ci, fs) = (1, vw_fc V i)) (h1' : ∀ i, i < 6 → vw_cr i ≠ q → vw_fc V i = vw_fc σ.2 i)
    (h2 : x1 ≠ 2 ∧ x1 < 5) (h3 : 8 = q → (ci, fs) = (5, vw_fm V)) (h3' : 8 ≠ q → vw_fm V = vw_fm σ.2) (h4 : 9 = q → (ci, fs) = (0, vw_fh V)) (h4' : 9 ≠ q → vw_fh V = vw_fh σ.2) (h5 : vw_nm σ.2 → vw_nm V) : vw_rep (σ.1, V) (vj_put M q (.inr (ci, fs))) := by
  obtain ⟨m0, m1, m2, m3, m4, m5, m6, ⟨t7, g7, m7, m7'⟩, ⟨t8, g8, m8, m8'⟩, ⟨t9, g9, m9, m9'⟩, m10⟩ := hM
  obtain ⟨a0, a1, a2, a3, a4, -⟩ := vw_tabo
  have ne : ∀ {q' y}, vw_tb q' = y → y ≠ (3, x1, x2) → (vj_put M q (.inr (ci, fs))).1 q' = M.1 q' := fun {q' y} e n => vw_put_ne M _ (by rw [hx, e]; exact Ne.symm n)
  refine ⟨m0, fun k i hk => ?_, fun d hd => ?_, fun i hi => ?_, fun i hi => ?_, ?_, ?_, ⟨t7, g7, ?_, m7'⟩, ⟨t8, g8, ?_, m8'⟩, ⟨t9, g9, ?_, m9'⟩, h5 m10⟩
  · obtain ⟨b1, b2, -, -⟩ := vw_row hk
    rw [ne b1 (by intro e; cases e), ne b2 (by intro e; cases e)]
    exact m1 k i hk
  · by_cases e : vw_dr d = q
    · rw [e, vw_put_eq, h0 d hd e]
    · show (if vw_dr d = q then _ else M.1 (vw_dr d)) = _
      rw [if_neg e, h0' d hd e]
      exact m2 d hd
  · by_cases e : vw_cr i = q
    · rw [e, vw_put_eq, h1 i hi e]
    · show (if vw_cr i = q then _ else M.1 (vw_cr i)) = _
      rw [if_neg e, h1' i hi e]
      exact m3 i hi
  · rw [ne (vw_view hi) (by intro e; cases e; exact h2.1 rfl)]
    exact m4 i hi
  · by_cases e : 8 = q
    · rw [e, vw_put_eq, h3 e]
    · show (if 8 = q then _ else M.1 8) = _
      rw [if_neg e, h3' e]
      exact m5
  · by_cases e : 9 = q
    · rw [e, vw_put_eq, h4 e]
    · show (if 9 = q then _ else M.1 9) = _
      rw [if_neg e, h4' e]
      exact m6
  · rw [ne a2 (by intro e; cases e; exact absurd h2.2 (by decide))]; exact m7
  · rw [ne a3 (by intro e; cases e; exact absurd h2.2 (by decide))]; exact m8
  · rw [ne a4 (by intro e; cases e; exact absurd h2.2 (by decide))]; exact m9
theorem w15 {v : Value} {q ci : Nat} {fs : List Value} {V : Nat → Nat → Int} (hc : vt_code k pc = (15, ci, b, c)) (hq : ∀ M, vw_rep σ M → M.1 q = .inr (ci, fs)) (h8 : 8 ≤ q ∧ q < 811) (hv : vj_fit (b % 4) v = true) (hb : b / 4 < fs.length) (hr : ∀ M, vw_rep σ M → vw_rep (σ.1, V) (vj_put M q (.inr (ci, fs.set (b / 4) v)))) (t : vW vw_rep L xs (k, pc + 3, lc, sc) (σ.1, V) Q) : vW vw_rep L xs (k, pc, lc, v :: .ref q :: sc) σ Q :=
  vW.next (fun M hM => ⟨vj_put M q (.inr (ci, fs.set (b / 4) v)), vk_st hc (by
    show vj_oput ci b c k pc lc (v :: .ref q :: sc) M = _
    unfold vj_oput
    dsimp only
    rw [vw_obM hM h8.1 h8.2]
    dsimp only [vj_at]
    rw [hq M hM]
    dsimp only
    rw [if_pos ⟨rfl, hv, hb⟩]
    rfl), hr M hM, rfl⟩) t
theorem vw_sv_eq (V : Nat → Nat → Int) (k i : Nat) (z : Int) : vw_sv V k i z k i = z := if_pos ⟨rfl, rfl⟩
theorem vw_sv_ne (V : Nat → Nat → Int) {k i k' i' : Nat} (z : Int) (h : ¬ (k' = k ∧ i' = i)) : vw_sv V k i z k' i' = V k' i' := if_neg h
theorem vw_sr_eq (R : Nat → Nat → List Int) (k i : Nat) (l : List Int) : vw_sr R k i l k i = l := if_pos ⟨rfl, rfl⟩
theorem vw_sr_ne (R : Nat → Nat → List Int) {k i k' i' : Nat} (l : List Int) (h : ¬ (k' = k ∧ i' = i)) : vw_sr R k i l k' i' = R k' i' := if_neg h
theorem vw_dr_ne {d : Nat} (h : d ≤ 120) : vw_dr d ≠ 8 ∧ vw_dr d ≠ 9 := by
  obtain ⟨a0, a1, -⟩ := vw_tabo
  have := vw_deed h
  exact ⟨fun e => (by rw [e, a0] at this; cases this), fun e => (by rw [e, a1] at this; cases this)⟩
theorem vw_cr_ne (i : Nat) : vw_cr i ≠ 8 ∧ vw_cr i ≠ 9 := by unfold vw_cr; omega
theorem vw_dr_cr {d i : Nat} (hd : d ≤ 120) (hi : i < 6) : vw_dr d ≠ vw_cr i := fun e => by
  have h1 := vw_deed hd
  rw [e, vw_copy hi] at h1
  cases h1
theorem vw_dr_inj {d d' : Nat} (h : d ≤ 120) (h' : d' ≤ 120) (e : vw_dr d = vw_dr d') : d = d' := by
  have h1 := vw_deed h
  rw [e, vw_deed h'] at h1
  cases h1; rfl
theorem vw_cr_inj {i i' : Nat} (e : vw_cr i = vw_cr i') : i = i' := by unfold vw_cr at e; omega
theorem w15came {z : Int} (hc : vt_code k pc = (15, 5, 40, c)) (hz : vw_in z) (t : vW vw_rep L xs (k, pc + 3, lc, sc) (σ.1, vw_sv σ.2 0 0 z) Q) : vW vw_rep L xs (k, pc, lc, .int (jI z) :: .ref 8 :: sc) σ Q :=
  w15 (V := vw_sv σ.2 0 0 z) hc (fun M hM => hM.2.2.2.2.2.1) ⟨by omega, by omega⟩ rfl (Nat.le_of_ble_eq_true rfl) (fun M hM => vw_rep_put (x1 := 3) (x2 := 0) hM vw_tabo.1
    (fun d hd e => absurd e (vw_dr_ne hd).1) (fun d hd e => rfl) (fun i hi e => absurd e (vw_cr_ne i).1) (fun i hi e => rfl) ⟨by decide, by decide⟩ (fun _ => rfl) (fun e => absurd rfl e) (fun e => absurd e (by decide)) (fun _ => rfl) (fun h => vw_nm_sv h hz (fun e => absurd e (by decide)) (fun e => absurd e (by decide)) (fun e => absurd e (by decide)))) t
theorem w15count {z : Int} (hc : vt_code k pc = (15, 0, 8, c)) (hz : vw_in z) (t : vW vw_rep L xs (k, pc + 3, lc, sc) (σ.1, vw_sv σ.2 1 0 z) Q) : vW vw_rep L xs (k, pc, lc, .int (jI z) :: .ref 9 :: sc) σ Q :=
  w15 (V := vw_sv σ.2 1 0 z) hc (fun M hM => hM.2.2.2.2.2.2.1) ⟨by omega, by omega⟩ rfl (Nat.le_of_ble_eq_true rfl) (fun M hM => vw_rep_put (x1 := 4) (x2 := 0) hM vw_tabo.2.1
    (fun d hd e => absurd e (vw_dr_ne hd).2) (fun d hd e => rfl) (fun i hi e => absurd e (vw_cr_ne i).2) (fun i hi e => rfl) ⟨by decide, by decide⟩ (fun e => absurd e (by decide)) (fun _ => rfl) (fun _ => rfl) (fun e => absurd rfl e) (fun h => vw_nm_sv h hz (fun e => absurd e (by decide)) (fun e => absurd e (by decide)) (fun e => absurd e (by decide)))) t
theorem w15there {z : Int} {i : Nat} (hc : vt_code k pc = (15, 1, 1, c)) (hi : i < 6) (hz : vw_in z) (h01 : z = 0 ∨ z = 1) (t : vW vw_rep L xs (k, pc + 3, lc, sc) (σ.1, vw_sv σ.2 2 i z) Q) : vW vw_rep L xs (k, pc, lc, .int (jI z) :: .ref (vw_cr i) :: sc) σ Q :=
  w15 (V := vw_sv σ.2 2 i z) hc (fun M hM => hM.2.2.2.1 i hi) (vw_tb_lt (vw_copy hi) (by omega)) (by show vj_is01 (.int (jI z)) = true; rcases h01 with rfl | rfl <;> decide) (Nat.le_of_ble_eq_true rfl) (fun M hM => vw_rep_put (x1 := 1) (x2 := i) hM (vw_copy hi)
    (fun d hd e => absurd e (vw_dr_cr hd hi)) (fun d hd e => rfl) (fun j hj e => by
      have := vw_cr_inj e
      subst this
      unfold vw_fc
      rw [vw_sv_eq, vw_sv_ne _ _ (by omega)]
      rfl) (fun j hj e => by
      have : j ≠ i := fun q => e (by rw [q])
      unfold vw_fc
      rw [vw_sv_ne _ _ (by omega), vw_sv_ne _ _ (by omega)]) ⟨by decide, by decide⟩ (fun e => absurd e.symm (vw_cr_ne i).1) (fun _ => rfl) (fun e => absurd e.symm (vw_cr_ne i).2) (fun _ => rfl) (fun h => vw_nm_sv h hz (fun e => absurd e (by decide)) (fun e => h01) (fun e => absurd e (by decide)))) t
theorem w15caretc {z : Int} {i : Nat} (hc : vt_code k pc = (15, 1, 4, c)) (hi : i < 6) (hz : vw_in z) (t : vW vw_rep L xs (k, pc + 3, lc, sc) (σ.1, vw_sv σ.2 3 i z) Q) : vW vw_rep L xs (k, pc, lc, .int (jI z) :: .ref (vw_cr i) :: sc) σ Q :=
  w15 (V := vw_sv σ.2 3 i z) hc (fun M hM => hM.2.2.2.1 i hi) (vw_tb_lt (vw_copy hi) (by omega)) rfl (Nat.le_of_ble_eq_true rfl) (fun M hM => vw_rep_put (x1 := 1) (x2 := i) hM (vw_copy hi)
    (fun d hd e => absurd e (vw_dr_cr hd hi)) (fun d hd e => rfl) (fun j hj e => by
      have := vw_cr_inj e
      subst this
      unfold vw_fc
      rw [vw_sv_eq, vw_sv_ne _ _ (by omega)]
      rfl) (fun j hj e => by
      have : j ≠ i := fun q => e (by rw [q])
      unfold vw_fc
      rw [vw_sv_ne _ _ (by omega), vw_sv_ne _ _ (by omega)]) ⟨by decide, by decide⟩ (fun e => absurd e.symm (vw_cr_ne i).1) (fun _ => rfl) (fun e => absurd e.symm (vw_cr_ne i).2) (fun _ => rfl) (fun h => vw_nm_sv h hz (fun e => absurd e (by decide)) (fun e => absurd e (by decide)) (fun e => absurd e (by decide)))) t
theorem w15author {z : Int} {d : Nat} (hc : vt_code k pc = (15, 2, 8, c)) (hd : d ≤ 120) (hz : vw_in z) (t : vW vw_rep L xs (k, pc + 3, lc, sc) (σ.1, vw_sv σ.2 5 d z) Q) : vW vw_rep L xs (k, pc, lc, .int (jI z) :: .ref (vw_dr d) :: sc) σ Q :=
  w15 (V := vw_sv σ.2 5 d z) hc (fun M hM => hM.2.2.1 d hd) (vw_tb_lt (vw_deed hd) (by omega)) rfl (Nat.le_of_ble_eq_true rfl) (fun M hM => vw_rep_put (x1 := 0) (x2 := d) hM (vw_deed hd)
    (fun e he q => by
      have := vw_dr_inj he hd q
      subst this
      unfold vw_fd
      simp only [vw_sv_eq, vw_sv, Nat.reduceEqDiff, false_and, if_false, true_and, if_true]
      rfl) (fun e he q => by
      have : ¬ e = d := fun z => q (by rw [z])
      unfold vw_fd
      simp only [vw_sv, Nat.reduceEqDiff, false_and, if_false, true_and, this, and_false]) (fun i hi e => absurd e.symm (vw_dr_cr hd hi)) (fun i hi e => rfl) ⟨by decide, by decide⟩ (fun e => absurd e.symm (vw_dr_ne hd).1) (fun _ => rfl) (fun e => absurd e.symm (vw_dr_ne hd).2) (fun _ => rfl) (fun h => vw_nm_sv h hz (fun e => absurd e (by decide)) (fun e => absurd e (by decide)) (fun e => absurd e (by decide)))) t
theorem w15number {z : Int} {d : Nat} (hc : vt_code k pc = (15, 2, 12, c)) (hd : d ≤ 120) (hz : vw_in z) (t : vW vw_rep L xs (k, pc + 3, lc, sc) (σ.1, vw_sv σ.2 6 d z) Q) : vW vw_rep L xs (k, pc, lc, .int (jI z) :: .ref (vw_dr d) :: sc) σ Q :=
  w15 (V := vw_sv σ.2 6 d z) hc (fun M hM => hM.2.2.1 d hd) (vw_tb_lt (vw_deed hd) (by omega)) rfl (Nat.le_of_ble_eq_true rfl) (fun M hM => vw_rep_put (x1 := 0) (x2 := d) hM (vw_deed hd)
    (fun e he q => by
      have := vw_dr_inj he hd q
      subst this
      unfold vw_fd
      simp only [vw_sv_eq, vw_sv, Nat.reduceEqDiff, false_and, if_false, true_and, if_true]
      rfl) (fun e he q => by
      have : ¬ e = d := fun z => q (by rw [z])
      unfold vw_fd
      simp only [vw_sv, Nat.reduceEqDiff, false_and, if_false, true_and, this, and_false]) (fun i hi e => absurd e.symm (vw_dr_cr hd hi)) (fun i hi e => rfl) ⟨by decide, by decide⟩ (fun e => absurd e.symm (vw_dr_ne hd).1) (fun _ => rfl) (fun e => absurd e.symm (vw_dr_ne hd).2) (fun _ => rfl) (fun h => vw_nm_sv h hz (fun e => absurd e (by decide)) (fun e => absurd e (by decide)) (fun e => absurd e (by decide)))) t
theorem w15stamp {z : Int} {d : Nat} (hc : vt_code k pc = (15, 2, 16, c)) (hd : d ≤ 120) (hz : vw_in z) (t : vW vw_rep L xs (k, pc + 3, lc, sc) (σ.1, vw_sv σ.2 7 d z) Q) : vW vw_rep L xs (k, pc, lc, .int (jI z) :: .ref (vw_dr d) :: sc) σ Q :=
  w15 (V := vw_sv σ.2 7 d z) hc (fun M hM => hM.2.2.1 d hd) (vw_tb_lt (vw_deed hd) (by omega)) rfl (Nat.le_of_ble_eq_true rfl) (fun M hM => vw_rep_put (x1 := 0) (x2 := d) hM (vw_deed hd)
    (fun e he q => by
      have := vw_dr_inj he hd q
      subst this
      unfold vw_fd
      simp only [vw_sv_eq, vw_sv, Nat.reduceEqDiff, false_and, if_false, true_and, if_true]
      rfl) (fun e he q => by
      have : ¬ e = d := fun z => q (by rw [z])
      unfold vw_fd
      simp only [vw_sv, Nat.reduceEqDiff, false_and, if_false, true_and, this, and_false]) (fun i hi e => absurd e.symm (vw_dr_cr hd hi)) (fun i hi e => rfl) ⟨by decide, by decide⟩ (fun e => absurd e.symm (vw_dr_ne hd).1) (fun _ => rfl) (fun e => absurd e.symm (vw_dr_ne hd).2) (fun _ => rfl) (fun h => vw_nm_sv h hz (fun e => absurd e (by decide)) (fun e => absurd e (by decide)) (fun e => absurd e (by decide)))) t
theorem w15caretd {z : Int} {d : Nat} (hc : vt_code k pc = (15, 2, 20, c)) (hd : d ≤ 120) (hz : vw_in z) (t : vW vw_rep L xs (k, pc + 3, lc, sc) (σ.1, vw_sv σ.2 8 d z) Q) : vW vw_rep L xs (k, pc, lc, .int (jI z) :: .ref (vw_dr d) :: sc) σ Q :=
  w15 (V := vw_sv σ.2 8 d z) hc (fun M hM => hM.2.2.1 d hd) (vw_tb_lt (vw_deed hd) (by omega)) rfl (Nat.le_of_ble_eq_true rfl) (fun M hM => vw_rep_put (x1 := 0) (x2 := d) hM (vw_deed hd)
    (fun e he q => by
      have := vw_dr_inj he hd q
      subst this
      unfold vw_fd
      simp only [vw_sv_eq, vw_sv, Nat.reduceEqDiff, false_and, if_false, true_and, if_true]
      rfl) (fun e he q => by
      have : ¬ e = d := fun z => q (by rw [z])
      unfold vw_fd
      simp only [vw_sv, Nat.reduceEqDiff, false_and, if_false, true_and, this, and_false]) (fun i hi e => absurd e.symm (vw_dr_cr hd hi)) (fun i hi e => rfl) ⟨by decide, by decide⟩ (fun e => absurd e.symm (vw_dr_ne hd).1) (fun _ => rfl) (fun e => absurd e.symm (vw_dr_ne hd).2) (fun _ => rfl) (fun h => vw_nm_sv h hz (fun e => absurd e (by decide)) (fun e => absurd e (by decide)) (fun e => absurd e (by decide)))) t
theorem w15target {z : Int} {d : Nat} (hc : vt_code k pc = (15, 2, 24, c)) (hd : d ≤ 120) (hz : vw_in z) (t : vW vw_rep L xs (k, pc + 3, lc, sc) (σ.1, vw_sv σ.2 9 d z) Q) : vW vw_rep L xs (k, pc, lc, .int (jI z) :: .ref (vw_dr d) :: sc) σ Q :=
  w15 (V := vw_sv σ.2 9 d z) hc (fun M hM => hM.2.2.1 d hd) (vw_tb_lt (vw_deed hd) (by omega)) rfl (Nat.le_of_ble_eq_true rfl) (fun M hM => vw_rep_put (x1 := 0) (x2 := d) hM (vw_deed hd)
    (fun e he q => by
      have := vw_dr_inj he hd q
      subst this
      unfold vw_fd
      simp only [vw_sv_eq, vw_sv, Nat.reduceEqDiff, false_and, if_false, true_and, if_true]
      rfl) (fun e he q => by
      have : ¬ e = d := fun z => q (by rw [z])
      unfold vw_fd
      simp only [vw_sv, Nat.reduceEqDiff, false_and, if_false, true_and, this, and_false]) (fun i hi e => absurd e.symm (vw_dr_cr hd hi)) (fun i hi e => rfl) ⟨by decide, by decide⟩ (fun e => absurd e.symm (vw_dr_ne hd).1) (fun _ => rfl) (fun e => absurd e.symm (vw_dr_ne hd).2) (fun _ => rfl) (fun h => vw_nm_sv h hz (fun e => absurd e (by decide)) (fun e => absurd e (by decide)) (fun e => absurd e (by decide)))) t
theorem w15kind {z : Int} {d : Nat} (hc : vt_code k pc = (15, 2, 28, c)) (hd : d ≤ 120) (hz : vw_in z) (t : vW vw_rep L xs (k, pc + 3, lc, sc) (σ.1, vw_sv σ.2 10 d z) Q) : vW vw_rep L xs (k, pc, lc, .int (jI z) :: .ref (vw_dr d) :: sc) σ Q :=
  w15 (V := vw_sv σ.2 10 d z) hc (fun M hM => hM.2.2.1 d hd) (vw_tb_lt (vw_deed hd) (by omega)) rfl (Nat.le_of_ble_eq_true rfl) (fun M hM => vw_rep_put (x1 := 0) (x2 := d) hM (vw_deed hd)
    (fun e he q => by
      have := vw_dr_inj he hd q
      subst this
      unfold vw_fd
      simp only [vw_sv_eq, vw_sv, Nat.reduceEqDiff, false_and, if_false, true_and, if_true]
      rfl) (fun e he q => by
      have : ¬ e = d := fun z => q (by rw [z])
      unfold vw_fd
      simp only [vw_sv, Nat.reduceEqDiff, false_and, if_false, true_and, this, and_false]) (fun i hi e => absurd e.symm (vw_dr_cr hd hi)) (fun i hi e => rfl) ⟨by decide, by decide⟩ (fun e => absurd e.symm (vw_dr_ne hd).1) (fun _ => rfl) (fun e => absurd e.symm (vw_dr_ne hd).2) (fun _ => rfl) (fun h => vw_nm_sv h hz (fun e => absurd e (by decide)) (fun e => absurd e (by decide)) (fun e => absurd e (by decide)))) t
theorem w15ison {z : Int} {d : Nat} (hc : vt_code k pc = (15, 2, 33, c)) (hd : d ≤ 120) (hz : vw_in z) (h01 : z = 0 ∨ z = 1) (t : vW vw_rep L xs (k, pc + 3, lc, sc) (σ.1, vw_sv σ.2 11 d z) Q) : vW vw_rep L xs (k, pc, lc, .int (jI z) :: .ref (vw_dr d) :: sc) σ Q :=
  w15 (V := vw_sv σ.2 11 d z) hc (fun M hM => hM.2.2.1 d hd) (vw_tb_lt (vw_deed hd) (by omega)) (by show vj_is01 (.int (jI z)) = true; rcases h01 with rfl | rfl <;> decide) (Nat.le_of_ble_eq_true rfl) (fun M hM => vw_rep_put (x1 := 0) (x2 := d) hM (vw_deed hd)
    (fun e he q => by
      have := vw_dr_inj he hd q
      subst this
      unfold vw_fd
      simp only [vw_sv_eq, vw_sv, Nat.reduceEqDiff, false_and, if_false, true_and, if_true]
      rfl) (fun e he q => by
      have : ¬ e = d := fun z => q (by rw [z])
      unfold vw_fd
      simp only [vw_sv, Nat.reduceEqDiff, false_and, if_false, true_and, this, and_false]) (fun i hi e => absurd e.symm (vw_dr_cr hd hi)) (fun i hi e => rfl) ⟨by decide, by decide⟩ (fun e => absurd e.symm (vw_dr_ne hd).1) (fun _ => rfl) (fun e => absurd e.symm (vw_dr_ne hd).2) (fun _ => rfl) (fun h => vw_nm_sv h hz (fun e => absurd e (by decide)) (fun e => absurd e (by decide)) (fun e => h01))) t
theorem w15what {z : Nat} {d : Nat} (hc : vt_code k pc = (15, 2, 7, c)) (hd : d ≤ 120) (hz : z < 5) (t : vW vw_rep L xs (k, pc + 3, lc, sc) (σ.1, vw_sv σ.2 4 d (z : Int)) Q) : vW vw_rep L xs (k, pc, lc, .ref (z + 1) :: .ref (vw_dr d) :: sc) σ Q :=
  w15 (V := vw_sv σ.2 4 d (z : Int)) hc (fun M hM => hM.2.2.1 d hd) (vw_tb_lt (vw_deed hd) (by omega)) rfl (Nat.le_of_ble_eq_true rfl) (fun M hM => vw_rep_put (x1 := 0) (x2 := d) hM (vw_deed hd)
    (fun e he q => by
      have := vw_dr_inj he hd q
      subst this
      unfold vw_fd
      simp only [vw_sv_eq, vw_sv, Nat.reduceEqDiff, false_and, if_false, true_and, if_true, Int.toNat_natCast]
      rfl) (fun e he q => by
      have : ¬ e = d := fun z => q (by rw [z])
      unfold vw_fd
      simp only [vw_sv, Nat.reduceEqDiff, false_and, if_false, true_and, this, and_false]) (fun i hi e => absurd e.symm (vw_dr_cr hd hi)) (fun i hi e => rfl) ⟨by decide, by decide⟩ (fun e => absurd e.symm (vw_dr_ne hd).1) (fun _ => rfl) (fun e => absurd e.symm (vw_dr_ne hd).2) (fun _ => rfl) (fun h => vw_nm_sv h ⟨by omega, by omega⟩ (fun _ => ⟨by omega, by omega⟩) (fun e => absurd e (by decide)) (fun e => absurd e (by decide)))) t
theorem vW_num {fr : vj_F} (g : vw_nm σ.2 → vW vw_rep L xs fr σ Q) : vW vw_rep L xs fr σ Q := fun M hM => g hM.2.2.2.2.2.2.2.2.2.2 M hM
/-! arrays that never change -/
theorem vw_ix {z : Int} {n : Nat} (h0 : 0 ≤ z) (h1 : z < n) (hn : n ≤ 1000) : vj_in (jI z) n = true ∧ (jI z).toNatClampNeg = z.toNat := by
  have h2 := jI_clamp h0 (by omega)
  refine ⟨decide_eq_true ?_, h2⟩
  rw [h2, jI_pos ⟨by omega, by omega⟩]
  omega
theorem w20 {q t' ty n : Nat} {z : Int} {v : Nat} (hc : vt_code k pc = (20, a, b, c)) (hq : ∀ M, vw_rep σ M → ∃ t g, M.1 q = .inl (t, ty, n, .inr (.inr (.inr (.inr g)))) ∧ g z.toNat = some v) (h8 : 8 ≤ q ∧ q < 811) (ht : 4 ≤ ty) (hn : n ≤ 1000) (h0 : 0 ≤ z) (h1 : z < n) (t : vW vw_rep L xs (k, pc + 1, lc, .ref v :: sc) σ Q) : vW vw_rep L xs (k, pc, lc, .int (jI z) :: .ref q :: sc) σ Q :=
  vW.step (fun M hM => vk_st hc (by
    obtain ⟨t, g, g1, g2⟩ := hq M hM
    obtain ⟨i1, i2⟩ := vw_ix h0 h1 hn
    show vj_oaald a b c k pc lc (.int (jI z) :: .ref q :: sc) M = _
    unfold vj_oaald
    dsimp only
    rw [vw_obM hM h8.1 h8.2]
    dsimp only [vj_at]
    rw [g1]
    dsimp only
    rw [if_pos ⟨ht, i1⟩, i2, g2]
    rfl)) t
theorem w20all {z : Int} (hc : vt_code k pc = (20, a, b, c)) (h0 : 0 ≤ z) (h1 : z < 120) (t : vW vw_rep L xs (k, pc + 1, lc, .ref (vw_dr z.toNat) :: sc) σ Q) : vW vw_rep L xs (k, pc, lc, .int (jI z) :: .ref 10 :: sc) σ Q :=
  w20 (t' := 0) (ty := 6) (n := 120) hc (fun M hM => by
    obtain ⟨-, -, -, -, -, -, -, ⟨t, g, g1, g2⟩, -⟩ := hM
    exact ⟨t, g, g1, g2 _ (by omega)⟩) ⟨by omega, by omega⟩ (by omega) (by omega) h0 h1 t
theorem w20cop {z : Int} (hc : vt_code k pc = (20, a, b, c)) (h0 : 0 ≤ z) (h1 : z < 6) (t : vW vw_rep L xs (k, pc + 1, lc, .ref (vw_cr z.toNat) :: sc) σ Q) : vW vw_rep L xs (k, pc, lc, .int (jI z) :: .ref 622 :: sc) σ Q :=
  w20 (t' := 0) (ty := 5) (n := 6) hc (fun M hM => by
    obtain ⟨-, -, -, -, -, -, -, -, ⟨t, g, g1, g2⟩, -⟩ := hM
    exact ⟨t, g, g1, g2 _ (by omega)⟩) ⟨by omega, by omega⟩ (by omega) (by omega) h0 h1 t
theorem w20ch {z : Int} (hc : vt_code k pc = (20, a, b, c)) (h0 : 0 ≤ z) (h1 : z < 36) (t : vW vw_rep L xs (k, pc + 1, lc, .ref (vw_rr 7 z.toNat) :: sc) σ Q) : vW vw_rep L xs (k, pc, lc, .int (jI z) :: .ref 623 :: sc) σ Q :=
  w20 (t' := 0) (ty := 7) (n := 36) hc (fun M hM => by
    obtain ⟨-, -, -, -, -, -, -, -, -, ⟨t, g, g1, g2⟩, -⟩ := hM
    exact ⟨t, g, g1, g2 _ (by omega)⟩) ⟨by omega, by omega⟩ (by omega) (by omega) h0 h1 t
theorem w26 {q n : Nat} {z : Int} (hc : vt_code k pc = (26, a, b, c)) (hq : ∀ M, vw_rep σ M → ∃ t ty g, M.1 q = .inl (t, ty, n, g)) (h8 : 8 ≤ q ∧ q < 811) (hz : z = (n : Int)) (t : vW vw_rep L xs (k, pc + 1, lc, .int (jI z) :: sc) σ Q) : vW vw_rep L xs (k, pc, lc, .ref q :: sc) σ Q :=
  vW.step (fun M hM => vk_st hc (by
    obtain ⟨t, ty, g, g1⟩ := hq M hM
    show vj_olen L a b c k pc lc (.ref q :: sc) M = _
    unfold vj_olen
    dsimp only
    rw [if_neg (show ¬ q = 0 by omega), vw_obM hM h8.1 h8.2]
    dsimp only [vj_at]
    rw [g1, hz, ← jI_nat]
    rfl)) t
theorem w26all (hc : vt_code k pc = (26, a, b, c)) (t : vW vw_rep L xs (k, pc + 1, lc, .int (jI 120) :: sc) σ Q) : vW vw_rep L xs (k, pc, lc, .ref 10 :: sc) σ Q :=
  w26 (n := 120) hc (fun M hM => by
    obtain ⟨-, -, -, -, -, -, -, ⟨t, g, g1, g2⟩, -⟩ := hM
    exact ⟨t, _, _, g1⟩) ⟨by omega, by omega⟩ rfl t
theorem w26cop (hc : vt_code k pc = (26, a, b, c)) (t : vW vw_rep L xs (k, pc + 1, lc, .int (jI 6) :: sc) σ Q) : vW vw_rep L xs (k, pc, lc, .ref 622 :: sc) σ Q :=
  w26 (n := 6) hc (fun M hM => by
    obtain ⟨-, -, -, -, -, -, -, -, ⟨t, g, g1, g2⟩, -⟩ := hM
    exact ⟨t, _, _, g1⟩) ⟨by omega, by omega⟩ rfl t
theorem w26ch (hc : vt_code k pc = (26, a, b, c)) (t : vW vw_rep L xs (k, pc + 1, lc, .int (jI 36) :: sc) σ Q) : vW vw_rep L xs (k, pc, lc, .ref 623 :: sc) σ Q :=
  w26 (n := 36) hc (fun M hM => by
    obtain ⟨-, -, -, -, -, -, -, -, -, ⟨t, g, g1, g2⟩, -⟩ := hM
    exact ⟨t, _, _, g1⟩) ⟨by omega, by omega⟩ rfl t
theorem w44 {r : Nat} (hc : vt_code k pc = (44, a, b, c)) (hr : (vt_mi k).2.2.2.1 = 5) (h8 : 8 ≤ r ∧ r < 811) (q : Q [.ref r] σ) : vW vw_rep L xs (k, pc, lc, [.ref r]) σ Q :=
  vW.ret (v := [.ref r]) (fun M hM => vk_st hc (by
    show vj_oret vt_mi a b c k pc lc [.ref r] M = _
    unfold vj_oret
    dsimp only
    rw [hr]
    exact if_pos (show (vj_obj M (.ref r)).isSome = true by rw [vw_obM hM h8.1 h8.2]; rfl))) q
theorem w27 {vs : List Value} {n q ci : Nat} {fs : List Value} (hc : vt_code k pc = (27, a, b, c)) (hn : (vt_mi a).2.1 = n) (hv : sc.take n = vs) (hm : Nat.ble (vj_cat vs) (vt_mi a).2.2.1 = true) (hs : Nat.ble (vj_cat (sc.drop n)) 8 = true) (hl : n ≤ sc.length)
    (hr : ∃ r, vs.reverse = .ref q :: r) (hq : ∀ M, vw_rep σ M → M.1 q = .inr (ci, fs)) (h8 : 8 ≤ q ∧ q < 811) (hci : (vt_mi a).1 = ci)
    (t : vW vw_rep L xs (a, 0, vj_args (vt_mi a).2.2.1 vs.reverse, []) σ (fun v σ1 => vW vw_rep L xs (k, pc + 3, lc, v ++ sc.drop n) σ1 Q)) : vW vw_rep L xs (k, pc, lc, sc) σ Q :=
  vW.call (g := (k, pc, lc, sc.drop n)) (vs := vs.reverse) (a := a) (fun M hM => vk_st hc (by
    have hR : vj_recv 0 M (vt_mi a).1 vs.reverse = true := by
      obtain ⟨r, hr⟩ := hr
      rw [hr]
      unfold vj_recv
      rw [if_neg (by omega)]
      dsimp only
      rw [vw_obM hM h8.1 h8.2]
      dsimp only [vj_at]
      rw [hq M hM, hci]
      exact decide_eq_true rfl
    show vj_ocall vt_mi 0 a b c k pc lc sc M = _
    unfold vj_ocall
    rw [hn, hv, if_pos ⟨hl, Nat.le_of_ble_eq_true hm, vw_cat_le hs, hR⟩])) t
end VW3
