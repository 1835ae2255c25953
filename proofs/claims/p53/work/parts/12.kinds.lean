/-! ===== one step of the small machine, by kinds; nothing that was made goes away ===== -/
section VK
def vm_le (M M' : vj_M) : Prop := M.2.2.2.1 ≤ M'.2.2.2.1 ∧ M.2.2.2.2 ≤ M'.2.2.2.2
theorem vm_le.rf {M : vj_M} : vm_le M M := ⟨Nat.le_refl _, Nat.le_refl _⟩
theorem vm_le.tr {A B C : vj_M} (h : vm_le A B) (g : vm_le B C) : vm_le A C := ⟨Nat.le_trans h.1 g.1, Nat.le_trans h.2 g.2⟩
theorem vm_put {M : vj_M} {q : Nat} {c : vj_C} : vm_le M (vj_put M q c) := ⟨Nat.le_refl _, Nat.le_refl _⟩
theorem vm_new {M : vj_M} {c : vj_C} {a n : Nat} : vm_le M (vj_new M c a n) := ⟨Nat.le_add_right _ _, Nat.le_add_right _ _⟩
def vc_P (op : Nat) : Prop := ∀ (L : Nat) (xs : Nat → Int32) (i j t k pc : Nat) (lv : List (Option Value)) (st : List Value) (M : vj_M) (r : (vj_F × vj_M) ⊕ ((vj_F × List Value × Nat × vj_M) ⊕ ((List Value × vj_M) ⊕ (Nat × vj_M)))), vj_op vt_mi vt_nf vt_ts vt_td L xs op i j t k pc lv st M = some r → ∃ z, r = .inl z ∧ vm_le M z.2
theorem vc_0 : vc_P 0 := by
  intro L xs i j t k pc lv st M r h
  have h : (vj_oload vj_isI) i j t k pc lv st M = some r := h
  unfold vj_oload at h
  unfold vj_next at h
  repeat' split at h
  all_goals first
    | (cases h; done)
    | (cases h; exact ⟨_, rfl, vm_le.rf⟩)
    | (cases h; exact ⟨_, rfl, vm_put⟩)
    | (cases h; exact ⟨_, rfl, vm_new⟩)
theorem vc_1 : vc_P 1 := by
  intro L xs i j t k pc lv st M r h
  have h : (vj_oload vj_isA) i j t k pc lv st M = some r := h
  unfold vj_oload at h
  unfold vj_next at h
  repeat' split at h
  all_goals first
    | (cases h; done)
    | (cases h; exact ⟨_, rfl, vm_le.rf⟩)
    | (cases h; exact ⟨_, rfl, vm_put⟩)
    | (cases h; exact ⟨_, rfl, vm_new⟩)
theorem vc_2 : vc_P 2 := by
  intro L xs i j t k pc lv st M r h
  have h : (vj_oconst) i j t k pc lv st M = some r := h
  unfold vj_oconst at h
  unfold vj_next at h
  repeat' split at h
  all_goals first
    | (cases h; done)
    | (cases h; exact ⟨_, rfl, vm_le.rf⟩)
    | (cases h; exact ⟨_, rfl, vm_put⟩)
    | (cases h; exact ⟨_, rfl, vm_new⟩)
theorem vc_3 : vc_P 3 := by
  intro L xs i j t k pc lv st M r h
  have h : (vj_ostore vj_isI) i j t k pc lv st M = some r := h
  unfold vj_ostore at h
  unfold vj_next at h
  repeat' split at h
  all_goals first
    | (cases h; done)
    | (cases h; exact ⟨_, rfl, vm_le.rf⟩)
    | (cases h; exact ⟨_, rfl, vm_put⟩)
    | (cases h; exact ⟨_, rfl, vm_new⟩)
theorem vc_4 : vc_P 4 := by
  intro L xs i j t k pc lv st M r h
  have h : (vj_ostore vj_isA) i j t k pc lv st M = some r := h
  unfold vj_ostore at h
  unfold vj_next at h
  repeat' split at h
  all_goals first
    | (cases h; done)
    | (cases h; exact ⟨_, rfl, vm_le.rf⟩)
    | (cases h; exact ⟨_, rfl, vm_put⟩)
    | (cases h; exact ⟨_, rfl, vm_new⟩)
theorem vc_5 : vc_P 5 := by
  intro L xs i j t k pc lv st M r h
  have h : (vj_ogoto) i j t k pc lv st M = some r := h
  unfold vj_ogoto at h
  unfold vj_next at h
  repeat' split at h
  all_goals first
    | (cases h; done)
    | (cases h; exact ⟨_, rfl, vm_le.rf⟩)
    | (cases h; exact ⟨_, rfl, vm_put⟩)
    | (cases h; exact ⟨_, rfl, vm_new⟩)
theorem vc_6 : vc_P 6 := by
  intro L xs i j t k pc lv st M r h
  have h : (vj_oinc) i j t k pc lv st M = some r := h
  unfold vj_oinc at h
  unfold vj_next at h
  repeat' split at h
  all_goals first
    | (cases h; done)
    | (cases h; exact ⟨_, rfl, vm_le.rf⟩)
    | (cases h; exact ⟨_, rfl, vm_put⟩)
    | (cases h; exact ⟨_, rfl, vm_new⟩)
theorem vc_7 : vc_P 7 := by
  intro L xs i j t k pc lv st M r h
  have h : (vj_oif) i j t k pc lv st M = some r := h
  unfold vj_oif at h
  unfold vj_next at h
  repeat' split at h
  all_goals first
    | (cases h; done)
    | (cases h; exact ⟨_, rfl, vm_le.rf⟩)
    | (cases h; exact ⟨_, rfl, vm_put⟩)
    | (cases h; exact ⟨_, rfl, vm_new⟩)
theorem vc_8 : vc_P 8 := by
  intro L xs i j t k pc lv st M r h
  have h : (vj_oicmp) i j t k pc lv st M = some r := h
  unfold vj_oicmp at h
  unfold vj_next at h
  repeat' split at h
  all_goals first
    | (cases h; done)
    | (cases h; exact ⟨_, rfl, vm_le.rf⟩)
    | (cases h; exact ⟨_, rfl, vm_put⟩)
    | (cases h; exact ⟨_, rfl, vm_new⟩)
theorem vc_9 : vc_P 9 := by
  intro L xs i j t k pc lv st M r h
  have h : (vj_oint (fun x y => x + y)) i j t k pc lv st M = some r := h
  unfold vj_oint at h
  unfold vj_next at h
  repeat' split at h
  all_goals first
    | (cases h; done)
    | (cases h; exact ⟨_, rfl, vm_le.rf⟩)
    | (cases h; exact ⟨_, rfl, vm_put⟩)
    | (cases h; exact ⟨_, rfl, vm_new⟩)
theorem vc_10 : vc_P 10 := by
  intro L xs i j t k pc lv st M r h
  have h : (vj_oint (fun x y => x - y)) i j t k pc lv st M = some r := h
  unfold vj_oint at h
  unfold vj_next at h
  repeat' split at h
  all_goals first
    | (cases h; done)
    | (cases h; exact ⟨_, rfl, vm_le.rf⟩)
    | (cases h; exact ⟨_, rfl, vm_put⟩)
    | (cases h; exact ⟨_, rfl, vm_new⟩)
theorem vc_11 : vc_P 11 := by
  intro L xs i j t k pc lv st M r h
  have h : (vj_oint (fun x y => x * y)) i j t k pc lv st M = some r := h
  unfold vj_oint at h
  unfold vj_next at h
  repeat' split at h
  all_goals first
    | (cases h; done)
    | (cases h; exact ⟨_, rfl, vm_le.rf⟩)
    | (cases h; exact ⟨_, rfl, vm_put⟩)
    | (cases h; exact ⟨_, rfl, vm_new⟩)
theorem vc_12 : vc_P 12 := by
  intro L xs i j t k pc lv st M r h
  have h : (vj_oint (fun x y => x &&& y)) i j t k pc lv st M = some r := h
  unfold vj_oint at h
  unfold vj_next at h
  repeat' split at h
  all_goals first
    | (cases h; done)
    | (cases h; exact ⟨_, rfl, vm_le.rf⟩)
    | (cases h; exact ⟨_, rfl, vm_put⟩)
    | (cases h; exact ⟨_, rfl, vm_new⟩)
theorem vc_13 : vc_P 13 := by
  intro L xs i j t k pc lv st M r h
  have h : (vj_odiv (fun x y => x - x / y * y)) i j t k pc lv st M = some r := h
  unfold vj_odiv at h
  unfold vj_next at h
  repeat' split at h
  all_goals first
    | (cases h; done)
    | (cases h; exact ⟨_, rfl, vm_le.rf⟩)
    | (cases h; exact ⟨_, rfl, vm_put⟩)
    | (cases h; exact ⟨_, rfl, vm_new⟩)
theorem vc_14 : vc_P 14 := by
  intro L xs i j t k pc lv st M r h
  have h : (vj_oget) i j t k pc lv st M = some r := h
  unfold vj_oget at h
  unfold vj_next at h
  repeat' split at h
  all_goals first
    | (cases h; done)
    | (cases h; exact ⟨_, rfl, vm_le.rf⟩)
    | (cases h; exact ⟨_, rfl, vm_put⟩)
    | (cases h; exact ⟨_, rfl, vm_new⟩)
theorem vc_15 : vc_P 15 := by
  intro L xs i j t k pc lv st M r h
  have h : (vj_oput) i j t k pc lv st M = some r := h
  unfold vj_oput at h
  unfold vj_next at h
  repeat' split at h
  all_goals first
    | (cases h; done)
    | (cases h; exact ⟨_, rfl, vm_le.rf⟩)
    | (cases h; exact ⟨_, rfl, vm_put⟩)
    | (cases h; exact ⟨_, rfl, vm_new⟩)
theorem vc_16 : vc_P 16 := by
  intro L xs i j t k pc lv st M r h
  have h : (vj_oiald L xs) i j t k pc lv st M = some r := h
  unfold vj_oiald at h
  unfold vj_next at h
  repeat' split at h
  all_goals first
    | (cases h; done)
    | (cases h; exact ⟨_, rfl, vm_le.rf⟩)
    | (cases h; exact ⟨_, rfl, vm_put⟩)
    | (cases h; exact ⟨_, rfl, vm_new⟩)
theorem vc_17 : vc_P 17 := by
  intro L xs i j t k pc lv st M r h
  have h : (vj_oiast) i j t k pc lv st M = some r := h
  unfold vj_oiast at h
  unfold vj_next at h
  repeat' split at h
  all_goals first
    | (cases h; done)
    | (cases h; exact ⟨_, rfl, vm_le.rf⟩)
    | (cases h; exact ⟨_, rfl, vm_put⟩)
    | (cases h; exact ⟨_, rfl, vm_new⟩)
theorem vc_18 : vc_P 18 := by
  intro L xs i j t k pc lv st M r h
  have h : (vj_obald) i j t k pc lv st M = some r := h
  unfold vj_obald at h
  unfold vj_next at h
  repeat' split at h
  all_goals first
    | (cases h; done)
    | (cases h; exact ⟨_, rfl, vm_le.rf⟩)
    | (cases h; exact ⟨_, rfl, vm_put⟩)
    | (cases h; exact ⟨_, rfl, vm_new⟩)
theorem vc_19 : vc_P 19 := by
  intro L xs i j t k pc lv st M r h
  have h : (vj_obast) i j t k pc lv st M = some r := h
  unfold vj_obast at h
  unfold vj_next at h
  repeat' split at h
  all_goals first
    | (cases h; done)
    | (cases h; exact ⟨_, rfl, vm_le.rf⟩)
    | (cases h; exact ⟨_, rfl, vm_put⟩)
    | (cases h; exact ⟨_, rfl, vm_new⟩)
theorem vc_20 : vc_P 20 := by
  intro L xs i j t k pc lv st M r h
  have h : (vj_oaald) i j t k pc lv st M = some r := h
  unfold vj_oaald at h
  unfold vj_next at h
  repeat' split at h
  all_goals first
    | (cases h; done)
    | (cases h; exact ⟨_, rfl, vm_le.rf⟩)
    | (cases h; exact ⟨_, rfl, vm_put⟩)
    | (cases h; exact ⟨_, rfl, vm_new⟩)
theorem vc_21 : vc_P 21 := by
  intro L xs i j t k pc lv st M r h
  have h : (vj_oaast) i j t k pc lv st M = some r := h
  unfold vj_oaast at h
  unfold vj_next at h
  repeat' split at h
  all_goals first
    | (cases h; done)
    | (cases h; exact ⟨_, rfl, vm_le.rf⟩)
    | (cases h; exact ⟨_, rfl, vm_put⟩)
    | (cases h; exact ⟨_, rfl, vm_new⟩)
theorem vc_22 : vc_P 22 := by
  intro L xs i j t k pc lv st M r h
  have h : (vj_olald) i j t k pc lv st M = some r := h
  unfold vj_olald at h
  unfold vj_next at h
  repeat' split at h
  all_goals first
    | (cases h; done)
    | (cases h; exact ⟨_, rfl, vm_le.rf⟩)
    | (cases h; exact ⟨_, rfl, vm_put⟩)
    | (cases h; exact ⟨_, rfl, vm_new⟩)
theorem vc_23 : vc_P 23 := by
  intro L xs i j t k pc lv st M r h
  have h : (vj_olast) i j t k pc lv st M = some r := h
  unfold vj_olast at h
  unfold vj_next at h
  repeat' split at h
  all_goals first
    | (cases h; done)
    | (cases h; exact ⟨_, rfl, vm_le.rf⟩)
    | (cases h; exact ⟨_, rfl, vm_put⟩)
    | (cases h; exact ⟨_, rfl, vm_new⟩)
theorem vc_24 : vc_P 24 := by
  intro L xs i j t k pc lv st M r h
  have h : (vj_odald) i j t k pc lv st M = some r := h
  unfold vj_odald at h
  unfold vj_next at h
  repeat' split at h
  all_goals first
    | (cases h; done)
    | (cases h; exact ⟨_, rfl, vm_le.rf⟩)
    | (cases h; exact ⟨_, rfl, vm_put⟩)
    | (cases h; exact ⟨_, rfl, vm_new⟩)
theorem vc_25 : vc_P 25 := by
  intro L xs i j t k pc lv st M r h
  have h : (vj_odast) i j t k pc lv st M = some r := h
  unfold vj_odast at h
  unfold vj_next at h
  repeat' split at h
  all_goals first
    | (cases h; done)
    | (cases h; exact ⟨_, rfl, vm_le.rf⟩)
    | (cases h; exact ⟨_, rfl, vm_put⟩)
    | (cases h; exact ⟨_, rfl, vm_new⟩)
theorem vc_26 : vc_P 26 := by
  intro L xs i j t k pc lv st M r h
  have h : (vj_olen L) i j t k pc lv st M = some r := h
  unfold vj_olen at h
  unfold vj_next at h
  repeat' split at h
  all_goals first
    | (cases h; done)
    | (cases h; exact ⟨_, rfl, vm_le.rf⟩)
    | (cases h; exact ⟨_, rfl, vm_put⟩)
    | (cases h; exact ⟨_, rfl, vm_new⟩)
theorem vc_30 : vc_P 30 := by
  intro L xs i j t k pc lv st M r h
  have h : (vj_oobj) i j t k pc lv st M = some r := h
  unfold vj_oobj at h
  unfold vj_next at h
  repeat' split at h
  all_goals first
    | (cases h; done)
    | (cases h; exact ⟨_, rfl, vm_le.rf⟩)
    | (cases h; exact ⟨_, rfl, vm_put⟩)
    | (cases h; exact ⟨_, rfl, vm_new⟩)
theorem vc_31 : vc_P 31 := by
  intro L xs i j t k pc lv st M r h
  have h : (vj_omath (fun x y => if x < y then y else x)) i j t k pc lv st M = some r := h
  unfold vj_omath at h
  unfold vj_next at h
  repeat' split at h
  all_goals first
    | (cases h; done)
    | (cases h; exact ⟨_, rfl, vm_le.rf⟩)
    | (cases h; exact ⟨_, rfl, vm_put⟩)
    | (cases h; exact ⟨_, rfl, vm_new⟩)
theorem vc_32 : vc_P 32 := by
  intro L xs i j t k pc lv st M r h
  have h : (vj_omath (fun x y => if y < x then y else x)) i j t k pc lv st M = some r := h
  unfold vj_omath at h
  unfold vj_next at h
  repeat' split at h
  all_goals first
    | (cases h; done)
    | (cases h; exact ⟨_, rfl, vm_le.rf⟩)
    | (cases h; exact ⟨_, rfl, vm_put⟩)
    | (cases h; exact ⟨_, rfl, vm_new⟩)
theorem vc_33 : vc_P 33 := by
  intro L xs i j t k pc lv st M r h
  have h : (vj_ocopy) i j t k pc lv st M = some r := h
  unfold vj_ocopy at h
  unfold vj_next at h
  repeat' split at h
  all_goals first
    | (cases h; done)
    | (cases h; exact ⟨_, rfl, vm_le.rf⟩)
    | (cases h; exact ⟨_, rfl, vm_put⟩)
    | (cases h; exact ⟨_, rfl, vm_new⟩)
theorem vc_34 : vc_P 34 := by
  intro L xs i j t k pc lv st M r h
  have h : (vj_onew vt_nf) i j t k pc lv st M = some r := h
  unfold vj_onew at h
  unfold vj_next at h
  repeat' split at h
  all_goals first
    | (cases h; done)
    | (cases h; exact ⟨_, rfl, vm_le.rf⟩)
    | (cases h; exact ⟨_, rfl, vm_put⟩)
    | (cases h; exact ⟨_, rfl, vm_new⟩)
theorem vc_36 : vc_P 36 := by
  intro L xs i j t k pc lv st M r h
  have h : (vj_onewa) i j t k pc lv st M = some r := h
  unfold vj_onewa at h
  unfold vj_next at h
  repeat' split at h
  all_goals first
    | (cases h; done)
    | (cases h; exact ⟨_, rfl, vm_le.rf⟩)
    | (cases h; exact ⟨_, rfl, vm_put⟩)
    | (cases h; exact ⟨_, rfl, vm_new⟩)
theorem vc_37 : vc_P 37 := by
  intro L xs i j t k pc lv st M r h
  have h : (vj_onewq) i j t k pc lv st M = some r := h
  unfold vj_onewq at h
  unfold vj_next at h
  repeat' split at h
  all_goals first
    | (cases h; done)
    | (cases h; exact ⟨_, rfl, vm_le.rf⟩)
    | (cases h; exact ⟨_, rfl, vm_put⟩)
    | (cases h; exact ⟨_, rfl, vm_new⟩)
theorem vc_38 : vc_P 38 := by
  intro L xs i j t k pc lv st M r h
  have h : (vj_odup) i j t k pc lv st M = some r := h
  unfold vj_odup at h
  unfold vj_next at h
  repeat' split at h
  all_goals first
    | (cases h; done)
    | (cases h; exact ⟨_, rfl, vm_le.rf⟩)
    | (cases h; exact ⟨_, rfl, vm_put⟩)
    | (cases h; exact ⟨_, rfl, vm_new⟩)
theorem vc_39 : vc_P 39 := by
  intro L xs i j t k pc lv st M r h
  have h : (vj_opop) i j t k pc lv st M = some r := h
  unfold vj_opop at h
  unfold vj_next at h
  repeat' split at h
  all_goals first
    | (cases h; done)
    | (cases h; exact ⟨_, rfl, vm_le.rf⟩)
    | (cases h; exact ⟨_, rfl, vm_put⟩)
    | (cases h; exact ⟨_, rfl, vm_new⟩)
theorem vc_40 : vc_P 40 := by
  intro L xs i j t k pc lv st M r h
  have h : (vj_odupx) i j t k pc lv st M = some r := h
  unfold vj_odupx at h
  unfold vj_next at h
  repeat' split at h
  all_goals first
    | (cases h; done)
    | (cases h; exact ⟨_, rfl, vm_le.rf⟩)
    | (cases h; exact ⟨_, rfl, vm_put⟩)
    | (cases h; exact ⟨_, rfl, vm_new⟩)
theorem vc_41 : vc_P 41 := by
  intro L xs i j t k pc lv st M r h
  have h : (vj_odup2) i j t k pc lv st M = some r := h
  unfold vj_odup2 at h
  unfold vj_next at h
  repeat' split at h
  all_goals first
    | (cases h; done)
    | (cases h; exact ⟨_, rfl, vm_le.rf⟩)
    | (cases h; exact ⟨_, rfl, vm_put⟩)
    | (cases h; exact ⟨_, rfl, vm_new⟩)
theorem vc_47 : vc_P 47 := by
  intro L xs i j t k pc lv st M r h
  have h : (vj_oi2l) i j t k pc lv st M = some r := h
  unfold vj_oi2l at h
  unfold vj_next at h
  repeat' split at h
  all_goals first
    | (cases h; done)
    | (cases h; exact ⟨_, rfl, vm_le.rf⟩)
    | (cases h; exact ⟨_, rfl, vm_put⟩)
    | (cases h; exact ⟨_, rfl, vm_new⟩)
theorem vc_48 : vc_P 48 := by
  intro L xs i j t k pc lv st M r h
  have h : (vj_olong (fun x y => x + y)) i j t k pc lv st M = some r := h
  unfold vj_olong at h
  unfold vj_next at h
  repeat' split at h
  all_goals first
    | (cases h; done)
    | (cases h; exact ⟨_, rfl, vm_le.rf⟩)
    | (cases h; exact ⟨_, rfl, vm_put⟩)
    | (cases h; exact ⟨_, rfl, vm_new⟩)
theorem vc_49 : vc_P 49 := by
  intro L xs i j t k pc lv st M r h
  have h : (vj_olong (fun x y => x * y)) i j t k pc lv st M = some r := h
  unfold vj_olong at h
  unfold vj_next at h
  repeat' split at h
  all_goals first
    | (cases h; done)
    | (cases h; exact ⟨_, rfl, vm_le.rf⟩)
    | (cases h; exact ⟨_, rfl, vm_put⟩)
    | (cases h; exact ⟨_, rfl, vm_new⟩)
theorem vc_50 : vc_P 50 := by
  intro L xs i j t k pc lv st M r h
  have h : (vj_olcmp) i j t k pc lv st M = some r := h
  unfold vj_olcmp at h
  unfold vj_next at h
  repeat' split at h
  all_goals first
    | (cases h; done)
    | (cases h; exact ⟨_, rfl, vm_le.rf⟩)
    | (cases h; exact ⟨_, rfl, vm_put⟩)
    | (cases h; exact ⟨_, rfl, vm_new⟩)
theorem vc_51 : vc_P 51 := by
  intro L xs i j t k pc lv st M r h
  have h : (vj_olcon) i j t k pc lv st M = some r := h
  unfold vj_olcon at h
  unfold vj_next at h
  repeat' split at h
  all_goals first
    | (cases h; done)
    | (cases h; exact ⟨_, rfl, vm_le.rf⟩)
    | (cases h; exact ⟨_, rfl, vm_put⟩)
    | (cases h; exact ⟨_, rfl, vm_new⟩)
theorem vc_52 : vc_P 52 := by
  intro L xs i j t k pc lv st M r h
  have h : (vj_oload vj_isJ) i j t k pc lv st M = some r := h
  unfold vj_oload at h
  unfold vj_next at h
  repeat' split at h
  all_goals first
    | (cases h; done)
    | (cases h; exact ⟨_, rfl, vm_le.rf⟩)
    | (cases h; exact ⟨_, rfl, vm_put⟩)
    | (cases h; exact ⟨_, rfl, vm_new⟩)
theorem vc_53 : vc_P 53 := by
  intro L xs i j t k pc lv st M r h
  have h : (vj_ostore vj_isJ) i j t k pc lv st M = some r := h
  unfold vj_ostore at h
  unfold vj_next at h
  repeat' split at h
  all_goals first
    | (cases h; done)
    | (cases h; exact ⟨_, rfl, vm_le.rf⟩)
    | (cases h; exact ⟨_, rfl, vm_put⟩)
    | (cases h; exact ⟨_, rfl, vm_new⟩)
theorem vc_54 : vc_P 54 := by
  intro L xs i j t k pc lv st M r h
  have h : (vj_odcon) i j t k pc lv st M = some r := h
  unfold vj_odcon at h
  unfold vj_next at h
  repeat' split at h
  all_goals first
    | (cases h; done)
    | (cases h; exact ⟨_, rfl, vm_le.rf⟩)
    | (cases h; exact ⟨_, rfl, vm_put⟩)
    | (cases h; exact ⟨_, rfl, vm_new⟩)
theorem vc_55 : vc_P 55 := by
  intro L xs i j t k pc lv st M r h
  have h : (vj_oload vj_isD) i j t k pc lv st M = some r := h
  unfold vj_oload at h
  unfold vj_next at h
  repeat' split at h
  all_goals first
    | (cases h; done)
    | (cases h; exact ⟨_, rfl, vm_le.rf⟩)
    | (cases h; exact ⟨_, rfl, vm_put⟩)
    | (cases h; exact ⟨_, rfl, vm_new⟩)
theorem vc_56 : vc_P 56 := by
  intro L xs i j t k pc lv st M r h
  have h : (vj_ostore vj_isD) i j t k pc lv st M = some r := h
  unfold vj_ostore at h
  unfold vj_next at h
  repeat' split at h
  all_goals first
    | (cases h; done)
    | (cases h; exact ⟨_, rfl, vm_le.rf⟩)
    | (cases h; exact ⟨_, rfl, vm_put⟩)
    | (cases h; exact ⟨_, rfl, vm_new⟩)
theorem vc_57 : vc_P 57 := by
  intro L xs i j t k pc lv st M r h
  have h : (vj_odcmp .l) i j t k pc lv st M = some r := h
  unfold vj_odcmp at h
  unfold vj_next at h
  repeat' split at h
  all_goals first
    | (cases h; done)
    | (cases h; exact ⟨_, rfl, vm_le.rf⟩)
    | (cases h; exact ⟨_, rfl, vm_put⟩)
    | (cases h; exact ⟨_, rfl, vm_new⟩)
theorem vc_58 : vc_P 58 := by
  intro L xs i j t k pc lv st M r h
  have h : (vj_oenum) i j t k pc lv st M = some r := h
  unfold vj_oenum at h
  unfold vj_next at h
  repeat' split at h
  all_goals first
    | (cases h; done)
    | (cases h; exact ⟨_, rfl, vm_le.rf⟩)
    | (cases h; exact ⟨_, rfl, vm_put⟩)
    | (cases h; exact ⟨_, rfl, vm_new⟩)
theorem vc_59 : vc_P 59 := by
  intro L xs i j t k pc lv st M r h
  have h : (vj_oacmp) i j t k pc lv st M = some r := h
  unfold vj_oacmp at h
  unfold vj_next at h
  repeat' split at h
  all_goals first
    | (cases h; done)
    | (cases h; exact ⟨_, rfl, vm_le.rf⟩)
    | (cases h; exact ⟨_, rfl, vm_put⟩)
    | (cases h; exact ⟨_, rfl, vm_new⟩)
theorem vc_60 : vc_P 60 := by
  intro L xs i j t k pc lv st M r h
  have h : (vj_onull true) i j t k pc lv st M = some r := h
  unfold vj_onull at h
  unfold vj_next at h
  repeat' split at h
  all_goals first
    | (cases h; done)
    | (cases h; exact ⟨_, rfl, vm_le.rf⟩)
    | (cases h; exact ⟨_, rfl, vm_put⟩)
    | (cases h; exact ⟨_, rfl, vm_new⟩)
theorem vc_61 : vc_P 61 := by
  intro L xs i j t k pc lv st M r h
  have h : (vj_onull false) i j t k pc lv st M = some r := h
  unfold vj_onull at h
  unfold vj_next at h
  repeat' split at h
  all_goals first
    | (cases h; done)
    | (cases h; exact ⟨_, rfl, vm_le.rf⟩)
    | (cases h; exact ⟨_, rfl, vm_put⟩)
    | (cases h; exact ⟨_, rfl, vm_new⟩)
theorem vc_62 : vc_P 62 := by
  intro L xs i j t k pc lv st M r h
  have h : (vj_onil) i j t k pc lv st M = some r := h
  unfold vj_onil at h
  unfold vj_next at h
  repeat' split at h
  all_goals first
    | (cases h; done)
    | (cases h; exact ⟨_, rfl, vm_le.rf⟩)
    | (cases h; exact ⟨_, rfl, vm_put⟩)
    | (cases h; exact ⟨_, rfl, vm_new⟩)
theorem vc_63 : vc_P 63 := by
  intro L xs i j t k pc lv st M r h
  have h : (vj_oswitch vt_ts vt_td) i j t k pc lv st M = some r := h
  unfold vj_oswitch at h
  unfold vj_next at h
  repeat' split at h
  all_goals first
    | (cases h; done)
    | (cases h; exact ⟨_, rfl, vm_le.rf⟩)
    | (cases h; exact ⟨_, rfl, vm_put⟩)
    | (cases h; exact ⟨_, rfl, vm_new⟩)
theorem vc_64 : vc_P 64 := by
  intro L xs i j t k pc lv st M r h
  have h : (vj_odiv (fun x y => x / y)) i j t k pc lv st M = some r := h
  unfold vj_odiv at h
  unfold vj_next at h
  repeat' split at h
  all_goals first
    | (cases h; done)
    | (cases h; exact ⟨_, rfl, vm_le.rf⟩)
    | (cases h; exact ⟨_, rfl, vm_put⟩)
    | (cases h; exact ⟨_, rfl, vm_new⟩)
theorem vc_65 : vc_P 65 := by
  intro L xs i j t k pc lv st M r h
  have h : (vj_oint (fun x y => x <<< (y &&& 31))) i j t k pc lv st M = some r := h
  unfold vj_oint at h
  unfold vj_next at h
  repeat' split at h
  all_goals first
    | (cases h; done)
    | (cases h; exact ⟨_, rfl, vm_le.rf⟩)
    | (cases h; exact ⟨_, rfl, vm_put⟩)
    | (cases h; exact ⟨_, rfl, vm_new⟩)
theorem vc_66 : vc_P 66 := by
  intro L xs i j t k pc lv st M r h
  have h : (vj_oint (fun x y => x >>> (y &&& 31))) i j t k pc lv st M = some r := h
  unfold vj_oint at h
  unfold vj_next at h
  repeat' split at h
  all_goals first
    | (cases h; done)
    | (cases h; exact ⟨_, rfl, vm_le.rf⟩)
    | (cases h; exact ⟨_, rfl, vm_put⟩)
    | (cases h; exact ⟨_, rfl, vm_new⟩)
theorem vc_67 : vc_P 67 := by
  intro L xs i j t k pc lv st M r h
  have h : (vj_oi2d) i j t k pc lv st M = some r := h
  unfold vj_oi2d at h
  unfold vj_next at h
  repeat' split at h
  all_goals first
    | (cases h; done)
    | (cases h; exact ⟨_, rfl, vm_le.rf⟩)
    | (cases h; exact ⟨_, rfl, vm_put⟩)
    | (cases h; exact ⟨_, rfl, vm_new⟩)
theorem vc_68 : vc_P 68 := by
  intro L xs i j t k pc lv st M r h
  have h : (vj_odbl FP.ddiv) i j t k pc lv st M = some r := h
  unfold vj_odbl at h
  unfold vj_next at h
  repeat' split at h
  all_goals first
    | (cases h; done)
    | (cases h; exact ⟨_, rfl, vm_le.rf⟩)
    | (cases h; exact ⟨_, rfl, vm_put⟩)
    | (cases h; exact ⟨_, rfl, vm_new⟩)
theorem vc_69 : vc_P 69 := by
  intro L xs i j t k pc lv st M r h
  have h : (vj_odbl FP.dadd) i j t k pc lv st M = some r := h
  unfold vj_odbl at h
  unfold vj_next at h
  repeat' split at h
  all_goals first
    | (cases h; done)
    | (cases h; exact ⟨_, rfl, vm_le.rf⟩)
    | (cases h; exact ⟨_, rfl, vm_put⟩)
    | (cases h; exact ⟨_, rfl, vm_new⟩)
theorem vc_70 : vc_P 70 := by
  intro L xs i j t k pc lv st M r h
  have h : (vj_odcmp .g) i j t k pc lv st M = some r := h
  unfold vj_odcmp at h
  unfold vj_next at h
  repeat' split at h
  all_goals first
    | (cases h; done)
    | (cases h; exact ⟨_, rfl, vm_le.rf⟩)
    | (cases h; exact ⟨_, rfl, vm_put⟩)
    | (cases h; exact ⟨_, rfl, vm_new⟩)
theorem vc_71 : vc_P 71 := by
  intro L xs i j t k pc lv st M r h
  have h : (vj_oldc) i j t k pc lv st M = some r := h
  unfold vj_oldc at h
  unfold vj_next at h
  repeat' split at h
  all_goals first
    | (cases h; done)
    | (cases h; exact ⟨_, rfl, vm_le.rf⟩)
    | (cases h; exact ⟨_, rfl, vm_put⟩)
    | (cases h; exact ⟨_, rfl, vm_new⟩)
theorem vc_72 : vc_P 72 := by
  intro L xs i j t k pc lv st M r h
  have h : (vj_oldcd) i j t k pc lv st M = some r := h
  unfold vj_oldcd at h
  unfold vj_next at h
  repeat' split at h
  all_goals first
    | (cases h; done)
    | (cases h; exact ⟨_, rfl, vm_le.rf⟩)
    | (cases h; exact ⟨_, rfl, vm_put⟩)
    | (cases h; exact ⟨_, rfl, vm_new⟩)
theorem vc_any : ∀ op : Nat, op ≠ 27 → op ≠ 28 → op ≠ 29 → op ≠ 35 → op ≠ 42 → op ≠ 43 → op ≠ 44 → op ≠ 45 → op ≠ 46 → vc_P op
  | 0, _, _, _, _, _, _, _, _, _ => vc_0
  | 1, _, _, _, _, _, _, _, _, _ => vc_1
  | 2, _, _, _, _, _, _, _, _, _ => vc_2
  | 3, _, _, _, _, _, _, _, _, _ => vc_3
  | 4, _, _, _, _, _, _, _, _, _ => vc_4
  | 5, _, _, _, _, _, _, _, _, _ => vc_5
  | 6, _, _, _, _, _, _, _, _, _ => vc_6
  | 7, _, _, _, _, _, _, _, _, _ => vc_7
  | 8, _, _, _, _, _, _, _, _, _ => vc_8
  | 9, _, _, _, _, _, _, _, _, _ => vc_9
  | 10, _, _, _, _, _, _, _, _, _ => vc_10
  | 11, _, _, _, _, _, _, _, _, _ => vc_11
  | 12, _, _, _, _, _, _, _, _, _ => vc_12
  | 13, _, _, _, _, _, _, _, _, _ => vc_13
  | 14, _, _, _, _, _, _, _, _, _ => vc_14
  | 15, _, _, _, _, _, _, _, _, _ => vc_15
  | 16, _, _, _, _, _, _, _, _, _ => vc_16
  | 17, _, _, _, _, _, _, _, _, _ => vc_17
  | 18, _, _, _, _, _, _, _, _, _ => vc_18
  | 19, _, _, _, _, _, _, _, _, _ => vc_19
  | 20, _, _, _, _, _, _, _, _, _ => vc_20
  | 21, _, _, _, _, _, _, _, _, _ => vc_21
  | 22, _, _, _, _, _, _, _, _, _ => vc_22
  | 23, _, _, _, _, _, _, _, _, _ => vc_23
  | 24, _, _, _, _, _, _, _, _, _ => vc_24
  | 25, _, _, _, _, _, _, _, _, _ => vc_25
  | 26, _, _, _, _, _, _, _, _, _ => vc_26
  | 27, h0, _, _, _, _, _, _, _, _ => absurd rfl h0
  | 28, _, h1, _, _, _, _, _, _, _ => absurd rfl h1
  | 29, _, _, h2, _, _, _, _, _, _ => absurd rfl h2
  | 30, _, _, _, _, _, _, _, _, _ => vc_30
  | 31, _, _, _, _, _, _, _, _, _ => vc_31
  | 32, _, _, _, _, _, _, _, _, _ => vc_32
  | 33, _, _, _, _, _, _, _, _, _ => vc_33
  | 34, _, _, _, _, _, _, _, _, _ => vc_34
  | 35, _, _, _, h3, _, _, _, _, _ => absurd rfl h3
  | 36, _, _, _, _, _, _, _, _, _ => vc_36
  | 37, _, _, _, _, _, _, _, _, _ => vc_37
  | 38, _, _, _, _, _, _, _, _, _ => vc_38
  | 39, _, _, _, _, _, _, _, _, _ => vc_39
  | 40, _, _, _, _, _, _, _, _, _ => vc_40
  | 41, _, _, _, _, _, _, _, _, _ => vc_41
  | 42, _, _, _, _, h4, _, _, _, _ => absurd rfl h4
  | 43, _, _, _, _, _, h5, _, _, _ => absurd rfl h5
  | 44, _, _, _, _, _, _, h6, _, _ => absurd rfl h6
  | 45, _, _, _, _, _, _, _, h7, _ => absurd rfl h7
  | 46, _, _, _, _, _, _, _, _, h8 => absurd rfl h8
  | 47, _, _, _, _, _, _, _, _, _ => vc_47
  | 48, _, _, _, _, _, _, _, _, _ => vc_48
  | 49, _, _, _, _, _, _, _, _, _ => vc_49
  | 50, _, _, _, _, _, _, _, _, _ => vc_50
  | 51, _, _, _, _, _, _, _, _, _ => vc_51
  | 52, _, _, _, _, _, _, _, _, _ => vc_52
  | 53, _, _, _, _, _, _, _, _, _ => vc_53
  | 54, _, _, _, _, _, _, _, _, _ => vc_54
  | 55, _, _, _, _, _, _, _, _, _ => vc_55
  | 56, _, _, _, _, _, _, _, _, _ => vc_56
  | 57, _, _, _, _, _, _, _, _, _ => vc_57
  | 58, _, _, _, _, _, _, _, _, _ => vc_58
  | 59, _, _, _, _, _, _, _, _, _ => vc_59
  | 60, _, _, _, _, _, _, _, _, _ => vc_60
  | 61, _, _, _, _, _, _, _, _, _ => vc_61
  | 62, _, _, _, _, _, _, _, _, _ => vc_62
  | 63, _, _, _, _, _, _, _, _, _ => vc_63
  | 64, _, _, _, _, _, _, _, _, _ => vc_64
  | 65, _, _, _, _, _, _, _, _, _ => vc_65
  | 66, _, _, _, _, _, _, _, _, _ => vc_66
  | 67, _, _, _, _, _, _, _, _, _ => vc_67
  | 68, _, _, _, _, _, _, _, _, _ => vc_68
  | 69, _, _, _, _, _, _, _, _, _ => vc_69
  | 70, _, _, _, _, _, _, _, _, _ => vc_70
  | 71, _, _, _, _, _, _, _, _, _ => vc_71
  | 72, _, _, _, _, _, _, _, _, _ => vc_72
  | n + 73, _, _, _, _, _, _, _, _, _ => fun _ _ _ _ _ _ _ _ _ _ _ h => nomatch h
theorem vc_call {how i j t k pc : Nat} {lv : List (Option Value)} {st : List Value} {M : vj_M} {r : (vj_F × vj_M) ⊕ ((vj_F × List Value × Nat × vj_M) ⊕ ((List Value × vj_M) ⊕ (Nat × vj_M)))} (h : vj_ocall vt_mi how i j t k pc lv st M = some r) : ((vt_mi i).2.1 ≤ st.length ∧ vj_cat (st.take (vt_mi i).2.1) ≤ (vt_mi i).2.2.1 ∧ vj_cat (st.drop (vt_mi i).2.1) ≤ 8 ∧ vj_recv how M (vt_mi i).1 (st.take (vt_mi i).2.1).reverse = true) ∧ r = .inr (.inl ((k, pc, lv, st.drop (vt_mi i).2.1), (st.take (vt_mi i).2.1).reverse, i, M)) := by
  unfold vj_ocall at h
  split at h
  · rename_i hc
    cases h
    exact ⟨hc, rfl⟩
  · cases h
theorem vc_throw {i j t k pc : Nat} {lv : List (Option Value)} {st : List Value} {M : vj_M} {r : (vj_F × vj_M) ⊕ ((vj_F × List Value × Nat × vj_M) ⊕ ((List Value × vj_M) ⊕ (Nat × vj_M)))} (h : vj_othrow i j t k pc lv st M = some r) : vj_cat st ≤ 8 ∧ r = .inr (.inr (.inr (i, (M.1, M.2.1, M.2.2.1, M.2.2.2.1 + 1, M.2.2.2.2 + 6)))) := by
  unfold vj_othrow at h
  split at h
  · rename_i hc
    cases h
    exact ⟨hc, rfl⟩
  · cases h
theorem vc_ret {i j t k pc : Nat} {lv : List (Option Value)} {st : List Value} {M : vj_M} {r : (vj_F × vj_M) ⊕ ((vj_F × List Value × Nat × vj_M) ⊕ ((List Value × vj_M) ⊕ (Nat × vj_M)))} (h : vj_oret vt_mi i j t k pc lv st M = some r) : ∃ v, st = [v] ∧ vj_fitr M (vt_mi k).2.2.2.1 v = true ∧ r = .inr (.inr (.inl ([v], M))) := by
  unfold vj_oret at h
  split at h
  · rename_i v
    split at h
    · rename_i hc
      cases h
      exact ⟨v, rfl, hc, rfl⟩
    · cases h
  · cases h
theorem vc_vret {i j t k pc : Nat} {lv : List (Option Value)} {st : List Value} {M : vj_M} {r : (vj_F × vj_M) ⊕ ((vj_F × List Value × Nat × vj_M) ⊕ ((List Value × vj_M) ⊕ (Nat × vj_M)))} (h : vj_ovret vt_mi i j t k pc lv st M = some r) : st = [] ∧ (vt_mi k).2.2.2.1 = 0 ∧ r = .inr (.inr (.inl ([], M))) := by
  unfold vj_ovret at h
  split at h
  · split at h
    · rename_i hc
      cases h
      exact ⟨rfl, hc, rfl⟩
    · cases h
  · cases h
/-- the kinds of a step -/
theorem vc_kind (L : Nat) (xs : Nat → Int32) {op i j t k pc : Nat} {lv : List (Option Value)} {st : List Value} {M : vj_M} {r : (vj_F × vj_M) ⊕ ((vj_F × List Value × Nat × vj_M) ⊕ ((List Value × vj_M) ⊕ (Nat × vj_M)))} (h : vj_op vt_mi vt_nf vt_ts vt_td L xs op i j t k pc lv st M = some r) :
    (∃ z, r = .inl z ∧ vm_le M z.2) ∨
    (∃ how, (op = 27 ∧ how = 0 ∨ op = 28 ∧ how = 1 ∨ op = 29 ∧ how = 2) ∧ ((vt_mi i).2.1 ≤ st.length ∧ vj_cat (st.take (vt_mi i).2.1) ≤ (vt_mi i).2.2.1 ∧ vj_cat (st.drop (vt_mi i).2.1) ≤ 8 ∧ vj_recv how M (vt_mi i).1 (st.take (vt_mi i).2.1).reverse = true) ∧ r = .inr (.inl ((k, pc, lv, st.drop (vt_mi i).2.1), (st.take (vt_mi i).2.1).reverse, i, M))) ∨
    (op = 35 ∧ vj_cat st ≤ 8 ∧ r = .inr (.inr (.inr (i, (M.1, M.2.1, M.2.2.1, M.2.2.2.1 + 1, M.2.2.2.2 + 6))))) ∨
    ((op = 42 ∨ op = 44 ∨ op = 45 ∨ op = 46) ∧ ∃ v, st = [v] ∧ vj_fitr M (vt_mi k).2.2.2.1 v = true ∧ r = .inr (.inr (.inl ([v], M)))) ∨
    (op = 43 ∧ st = [] ∧ (vt_mi k).2.2.2.1 = 0 ∧ r = .inr (.inr (.inl ([], M)))) := by
  by_cases h27 : op = 27
  · subst h27; exact Or.inr (Or.inl ⟨0, Or.inl ⟨rfl, rfl⟩, vc_call (how := 0) (j := j) (t := t) h⟩)
  by_cases h28 : op = 28
  · subst h28; exact Or.inr (Or.inl ⟨1, Or.inr (Or.inl ⟨rfl, rfl⟩), vc_call (how := 1) (j := j) (t := t) h⟩)
  by_cases h29 : op = 29
  · subst h29; exact Or.inr (Or.inl ⟨2, Or.inr (Or.inr ⟨rfl, rfl⟩), vc_call (how := 2) (j := j) (t := t) h⟩)
  by_cases h35 : op = 35
  · subst h35; exact Or.inr (Or.inr (Or.inl ⟨rfl, vc_throw (j := j) (t := t) (k := k) (pc := pc) (lv := lv) h⟩))
  by_cases h42 : op = 42
  · subst h42; exact Or.inr (Or.inr (Or.inr (Or.inl ⟨Or.inl rfl, vc_ret (i := i) (j := j) (t := t) (pc := pc) (lv := lv) h⟩)))
  by_cases h43 : op = 43
  · subst h43; exact Or.inr (Or.inr (Or.inr (Or.inr ⟨rfl, vc_vret (i := i) (j := j) (t := t) (pc := pc) (lv := lv) h⟩)))
  by_cases h44 : op = 44
  · subst h44; exact Or.inr (Or.inr (Or.inr (Or.inl ⟨Or.inr (Or.inl rfl), vc_ret (i := i) (j := j) (t := t) (pc := pc) (lv := lv) h⟩)))
  by_cases h45 : op = 45
  · subst h45; exact Or.inr (Or.inr (Or.inr (Or.inl ⟨Or.inr (Or.inr (Or.inl rfl)), vc_ret (i := i) (j := j) (t := t) (pc := pc) (lv := lv) h⟩)))
  by_cases h46 : op = 46
  · subst h46; exact Or.inr (Or.inr (Or.inr (Or.inl ⟨Or.inr (Or.inr (Or.inr rfl)), vc_ret (i := i) (j := j) (t := t) (pc := pc) (lv := lv) h⟩)))
  exact Or.inl (vc_any op h27 h28 h29 h35 h42 h43 h44 h45 h46 L xs i j t k pc lv st M r h)
noncomputable abbrev vr_step (L : Nat) (xs : Nat → Int32) : vj_F → vj_M → vj_R := vj_step vt_mi vt_nf vt_ts vt_td L xs vt_code
noncomputable abbrev vr_run (L : Nat) (xs : Nat → Int32) : Nat → vj_F → vj_M → Option ((List Value ⊕ Nat) × vj_M) := vj_run vt_mi vt_nf vt_ts vt_td L xs vt_code
/-- a run, by its first step -/
theorem vr_cases {L : Nat} {xs : Nat → Int32} {n : Nat} {f : vj_F} {M M' : vj_M} {r : List Value ⊕ Nat} (h : vr_run L xs (n + 1) f M = some (r, M')) :
    (∃ f1 M1, vr_step L xs f M = some (.inl (f1, M1)) ∧ vr_run L xs n f1 M1 = some (r, M')) ∨
    (∃ g vs a M1, vr_step L xs f M = some (.inr (.inl (g, vs, a, M1))) ∧
      ((∃ v M2, vr_run L xs n (a, 0, vj_args (vt_mi a).2.2.1 vs, []) M1 = some (.inl v, M2) ∧ vr_run L xs n (g.1, g.2.1 + 3, g.2.2.1, v ++ g.2.2.2) M2 = some (r, M')) ∨
       (∃ e M2, vr_run L xs n (a, 0, vj_args (vt_mi a).2.2.1 vs, []) M1 = some (.inr e, M2) ∧ ((∃ g', vj_catch vt_mi vt_code g e = some (some g') ∧ vr_run L xs n g' M2 = some (r, M')) ∨ (vj_catch vt_mi vt_code g e = some none ∧ r = .inr e ∧ M' = M2))))) ∨
    (∃ v, vr_step L xs f M = some (.inr (.inr (.inl (v, M')))) ∧ r = .inl v) ∨
    (∃ e, vr_step L xs f M = some (.inr (.inr (.inr (e, M')))) ∧ r = .inr e) := by
  unfold vr_run vj_run at h
  split at h
  · rename_i f1 M1 hs
    exact Or.inl ⟨f1, M1, hs, h⟩
  · rename_i g vs a M1 hs
    refine Or.inr (Or.inl ⟨g, vs, a, M1, hs, ?_⟩)
    split at h
    · rename_i v M2 h2
      exact Or.inl ⟨v, M2, h2, h⟩
    · rename_i e M2 h2
      refine Or.inr ⟨e, M2, h2, ?_⟩
      split at h
      · rename_i g' h3
        exact Or.inl ⟨g', h3, h⟩
      · rename_i h3
        cases h
        exact Or.inr ⟨h3, rfl, rfl⟩
      · cases h
    · cases h
  · rename_i v M1 hs
    cases h
    exact Or.inr (Or.inr (Or.inl ⟨v, hs, rfl⟩))
  · rename_i e M1 hs
    cases h
    exact Or.inr (Or.inr (Or.inr ⟨e, hs, rfl⟩))
  · cases h
theorem vr_le {L : Nat} {xs : Nat → Int32} : ∀ (n : Nat) (f : vj_F) (M M' : vj_M) (r : List Value ⊕ Nat), vr_run L xs n f M = some (r, M') → vm_le M M'
  | 0, _, _, _, _, h => nomatch h
  | n + 1, f, M, M', r, h => by
    have hs : ∀ R, vr_step L xs f M = some R → _ := fun R hR => vc_kind L xs (op := (vt_code f.1 f.2.1).1) (i := (vt_code f.1 f.2.1).2.1) (j := (vt_code f.1 f.2.1).2.2.1) (t := (vt_code f.1 f.2.1).2.2.2) (k := f.1) (pc := f.2.1) (lv := f.2.2.1) (st := f.2.2.2) (M := M) (r := R) hR
    rcases vr_cases h with ⟨f1, M1, h1, h2⟩ | ⟨g, vs, a, M1, h1, h2⟩ | ⟨v, h1, -⟩ | ⟨e, h1, -⟩
    · have h3 := vr_le n f1 M1 M' r h2
      rcases hs _ h1 with ⟨z, e, h4⟩ | ⟨how, -, -, e⟩ | ⟨-, -, e⟩ | ⟨-, v, -, -, e⟩ | ⟨-, -, -, e⟩
      · cases e; exact h4.tr h3
      all_goals cases e
    · have h5 : vm_le M M1 := by
        rcases hs _ h1 with ⟨z, e, h4⟩ | ⟨how, -, -, e⟩ | ⟨-, -, e⟩ | ⟨-, v, -, -, e⟩ | ⟨-, -, -, e⟩
        · cases e
        · cases e; exact vm_le.rf
        all_goals cases e
      rcases h2 with ⟨v, M2, h2, h3⟩ | ⟨e, M2, h2, ⟨g', -, h3⟩ | ⟨-, -, rfl⟩⟩
      · exact h5.tr ((vr_le n _ _ _ _ h2).tr (vr_le n _ _ _ _ h3))
      · exact h5.tr ((vr_le n _ _ _ _ h2).tr (vr_le n _ _ _ _ h3))
      · exact h5.tr (vr_le n _ _ _ _ h2)
    · rcases hs _ h1 with ⟨z, e, h4⟩ | ⟨how, -, -, e⟩ | ⟨-, -, e⟩ | ⟨-, v, -, -, e⟩ | ⟨-, -, -, e⟩
      all_goals cases e
      all_goals exact vm_le.rf
    · rcases hs _ h1 with ⟨z, e, h4⟩ | ⟨how, -, -, e⟩ | ⟨-, -, e⟩ | ⟨-, v, -, -, e⟩ | ⟨-, -, -, e⟩
      all_goals cases e
      exact ⟨Nat.le_add_right _ _, Nat.le_add_right _ _⟩
theorem vz_o27 : vz_Op 27 := by
  intro p l e R s m args below meth c Q k b L xs en sz D c0 s0 ad0 tys0 hC pc lv st M i j t f M' h hk hr hN
  have h : vj_ocall vt_mi 0 i j t k pc lv st M = some (.inl (f, M')) := h
  have := (vc_call h).2
  cases this
theorem vz_o28 : vz_Op 28 := by
  intro p l e R s m args below meth c Q k b L xs en sz D c0 s0 ad0 tys0 hC pc lv st M i j t f M' h hk hr hN
  have h : vj_ocall vt_mi 1 i j t k pc lv st M = some (.inl (f, M')) := h
  have := (vc_call h).2
  cases this
theorem vz_o29 : vz_Op 29 := by
  intro p l e R s m args below meth c Q k b L xs en sz D c0 s0 ad0 tys0 hC pc lv st M i j t f M' h hk hr hN
  have h : vj_ocall vt_mi 2 i j t k pc lv st M = some (.inl (f, M')) := h
  have := (vc_call h).2
  cases this
theorem vz_o35 : vz_Op 35 := by
  intro p l e R s m args below meth c Q k b L xs en sz D c0 s0 ad0 tys0 hC pc lv st M i j t f M' h hk hr hN
  have h : vj_othrow i j t k pc lv st M = some (.inl (f, M')) := h
  have := (vc_throw h).2
  cases this
theorem vz_o42 : vz_Op 42 := by
  intro p l e R s m args below meth c Q k b L xs en sz D c0 s0 ad0 tys0 hC pc lv st M i j t f M' h hk hr hN
  have h : vj_oret vt_mi i j t k pc lv st M = some (.inl (f, M')) := h
  obtain ⟨v, -, -, e⟩ := vc_ret h
  cases e
theorem vz_o44 : vz_Op 44 := by
  intro p l e R s m args below meth c Q k b L xs en sz D c0 s0 ad0 tys0 hC pc lv st M i j t f M' h hk hr hN
  have h : vj_oret vt_mi i j t k pc lv st M = some (.inl (f, M')) := h
  obtain ⟨v, -, -, e⟩ := vc_ret h
  cases e
theorem vz_o45 : vz_Op 45 := by
  intro p l e R s m args below meth c Q k b L xs en sz D c0 s0 ad0 tys0 hC pc lv st M i j t f M' h hk hr hN
  have h : vj_oret vt_mi i j t k pc lv st M = some (.inl (f, M')) := h
  obtain ⟨v, -, -, e⟩ := vc_ret h
  cases e
theorem vz_o46 : vz_Op 46 := by
  intro p l e R s m args below meth c Q k b L xs en sz D c0 s0 ad0 tys0 hC pc lv st M i j t f M' h hk hr hN
  have h : vj_oret vt_mi i j t k pc lv st M = some (.inl (f, M')) := h
  obtain ⟨v, -, -, e⟩ := vc_ret h
  cases e
theorem vz_o43 : vz_Op 43 := by
  intro p l e R s m args below meth c Q k b L xs en sz D c0 s0 ad0 tys0 hC pc lv st M i j t f M' h hk hr hN
  have h : vj_ovret vt_mi i j t k pc lv st M = some (.inl (f, M')) := h
  obtain ⟨-, -, e⟩ := vc_vret h
  cases e
theorem vz_ops : ∀ op : Nat, vz_Op op
  | 0 => vz_o0
  | 1 => vz_o1
  | 2 => vz_o2
  | 3 => vz_o3
  | 4 => vz_o4
  | 5 => vz_o5
  | 6 => vz_o6
  | 7 => vz_o7
  | 8 => vz_o8
  | 9 => vz_o9
  | 10 => vz_o10
  | 11 => vz_o11
  | 12 => vz_o12
  | 13 => vz_o13
  | 14 => vz_o14
  | 15 => vz_o15
  | 16 => vz_o16
  | 17 => vz_o17
  | 18 => vz_o18
  | 19 => vz_o19
  | 20 => vz_o20
  | 21 => vz_o21
  | 22 => vz_o22
  | 23 => vz_o23
  | 24 => vz_o24
  | 25 => vz_o25
  | 26 => vz_o26
  | 27 => vz_o27
  | 28 => vz_o28
  | 29 => vz_o29
  | 30 => vz_o30
  | 31 => vz_o31
  | 32 => vz_o32
  | 33 => vz_o33
  | 34 => vz_o34
  | 35 => vz_o35
  | 36 => vz_o36
  | 37 => vz_o37
  | 38 => vz_o38
  | 39 => vz_o39
  | 40 => vz_o40
  | 41 => vz_o41
  | 42 => vz_o42
  | 43 => vz_o43
  | 44 => vz_o44
  | 45 => vz_o45
  | 46 => vz_o46
  | 47 => vz_o47
  | 48 => vz_o48
  | 49 => vz_o49
  | 50 => vz_o50
  | 51 => vz_o51
  | 52 => vz_o52
  | 53 => vz_o53
  | 54 => vz_o54
  | 55 => vz_o55
  | 56 => vz_o56
  | 57 => vz_o57
  | 58 => vz_o58
  | 59 => vz_o59
  | 60 => vz_o60
  | 61 => vz_o61
  | 62 => vz_o62
  | 63 => vz_o63
  | 64 => vz_o64
  | 65 => vz_o65
  | 66 => vz_o66
  | 67 => vz_o67
  | 68 => vz_o68
  | 69 => vz_o69
  | 70 => vz_o70
  | 71 => vz_o71
  | 72 => vz_o72
  | n + 73 => by
    intro p l e R s m args below meth c Q k b L xs en sz D c0 s0 ad0 tys0 hC pc lv st M i j t f M' h hk hr hN
    exact nomatch h
end VK
