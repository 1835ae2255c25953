/-! ===== what holds inside a body that is walked, and the form of a row for one operation ===== -/
section VZ
abbrev vz_A (sz : Nat) : Nat → Prop := fun q => sz ≤ q
/-- what never changes: the script, the constants, what a throw needs -/
def vz_St (b L : Nat) (xs : Nat → Int32) (en : Nat → Nat) (sz : Nat) (U : State) (H : Heap) : Prop :=
  sz ≤ H.size ∧ b < sz ∧ va_X b L xs U H ∧ (∀ i, i < 5 → va_Z RX5 (vs_en i) "LSharedPalimpsest$What;" (.ref (en i)) (vz_A sz) U H) ∧ (∀ i j, i < 5 → j < 5 → en i = en j → i = j) ∧
  vx_Zq Bundle.tN "UNASSIGNED_STACK" Bundle.steD (vz_A sz) U H ∧ vx_Zq Bundle.tN "SUPPRESSED_SENTINEL" Bundle.listD (vz_A sz) U H ∧
  (∀ i tx, Cond.stringRef vs_io i tx ∈ lw_tbl → ∃ a, vk_R vs_io i tx a U) ∧
  (∀ a i r n d h, Cond.fieldLinkNest a i r n d h ∈ lw_tbl → va_Nw (.fieldLinkNest a i r n d h) U) ∧
  (∀ a i x h, Cond.methodLinkNest a i x h ∈ lw_tbl → va_Nw (.methodLinkNest a i x h) U) ∧
  (∀ C, Cond.arrayOver (.object C) ∈ lw_tbl → va_AO C U) ∧
  (∀ w ∈ lw_tbl, w.faceAtom = true → vx_ot w = true → w.before #[] U = true) ∧
  ((∃ k, k ≤ vt_law ∧ vs_hd k ≠ []) → ∀ x y, x < 3 → y < 3 → x ≠ y → va_Nc (vs_ex x) (vs_ex y) U)
theorem vz_face {args a' : Array Value} {s U : State} {w : Cond} (hW : s.WarmedH U.vm) (hf : w.faceAtom = true) (ho : vx_ot w = true) (h : w.before args s = true) : w.before a' U = true :=
  vx_ot_at (s := s.setVm U.vm) (State.WarmedH.refl U) rfl ho (Cond.faceAtom_setVm hW.alike w hf h)
theorem vz_St.moved {b L : Nat} {xs : Nat → Int32} {en : Nat → Nat} {sz : Nat} {s U : State} {H H1 : Heap} (h : vz_St b L xs en sz s H) (hW : s.WarmedH U.vm) (hz : H.size ≤ H1.size) (hk : ∀ q : Nat, q < H.size → ¬ vz_A sz q → H1[q]? = H[q]?) : vz_St b L xs en sz U H1 := by
  obtain ⟨h1, h2, h3, h4, h5, h6, h7, h8, h9, h10, h11, h12, h13⟩ := h
  refine ⟨by omega, h2, (va_X.moved hW.alike h3).kept (hk b (by omega) (by show ¬ sz ≤ b; omega)), fun i hi => (va_Z.moved hW.alike (h4 i hi)).kept hk, h5, (vx_Zq.moved hW.alike h6).kept hk, (vx_Zq.moved hW.alike h7).kept hk, fun i tx hm => ?_, fun a i r n d g hm => (h9 a i r n d g hm).warmF hW, fun a i x g hm => (h10 a i x g hm).warmM hW, fun C hm => (h11 C hm).moved hW.alike, fun w hm hf ho => vz_face hW hf ho (h12 w hm hf ho), fun hk x y hx hy hn => (h13 hk x y hx hy hn).moved hW.alike⟩
  obtain ⟨a, ha⟩ := h8 i tx hm
  exact ⟨a, vk_R.warm hW ha⟩
/-- the world, the machine's and the small machine's -/
def vz_B (b : Nat) (en : Nat → Nat) (sz : Nat) (D : va_G) (U : State) (H : Heap) (ad : List Nat) (tys : List (ClassId × FieldType)) (ws : va_W) (M : vj_M) : Prop :=
  va_K D vwCl tys U ∧ va_P D vwCl ws H ∧ va_D (vz_A sz) ws ∧ vj_w b en ad tys ws M
/-- inside a body of method k -/
def vz_C (p : Program) (l : Launch) (R : Room) (s : State) (m : MethodId) (args : Array Value) (meth : Method) (c : Code) (k b L : Nat) (xs : Nat → Int32) (en : Nat → Nat) (sz : Nat) : Prop :=
  p.tables.exec = Jvm.exec ∧ c.code = vs_by k ∧ c.maxLocals = vs_ml k ∧ s.vm.findClass (vs_own k) = some m.cls ∧ (∀ w ∈ vs_GW, w.before args s = true) ∧ meth.locks = false ∧ meth.sig.returnType = vs_rt k ∧ ((vs_mw k).2.2.1 = 2 → meth.name = "<init>") ∧ l.stackTraces = false ∧
  (vs_fr k ≤ R.frames ∧ vs_lw k ≤ R.locals) ∧ vz_St b L xs en sz s s.heap
/-- a state of the machine that shows a state of the small machine -/
def vz_X (b : Nat) (en : Nat → Nat) (sz : Nat) (D : va_G) (s : State) (k : Nat) (lv : List (Option Value)) (st : List Value) (M : vj_M) (ad : List Nat) (tys : List (ClassId × FieldType)) (ws : va_W) (H : Heap) (locs : List Loc) (ls : Array Slot) (sc : List Value) : Prop :=
  vz_B b en sz D s H ad tys ws M ∧ va_S (vz_A sz) s.heap H locs ∧ vj_lo b en ad lv ls (vs_ml k) ∧ vj_l (vj_r b en ad) st sc
/-- since the method's start: cells made, things and arrays made -/
def vz_I (ad0 : List Nat) (tys0 : List (ClassId × FieldType)) (c0 : Nat) (ad : List Nat) (tys : List (ClassId × FieldType)) (c1 : Nat) : Prop := c0 ≤ c1 ∧ vs_pre ad0 ad ∧ vs_pre tys0 tys
def vz_G (p : Program) (l : Launch) (e : Env) (R : Room) (s : State) (m : MethodId) (args : Array Value) (below : List Frame) (meth : Method) (c : Code) (Q : State → Prop) (k b : Nat) (en : Nat → Nat) (sz : Nat) (D : va_G) (c0 s0 : Nat) (ad0 : List Nat) (tys0 : List (ClassId × FieldType)) (pc : Nat) (lv : List (Option Value)) (st : List Value) (M : vj_M) : Prop :=
  ∀ (ad : List Nat) (tys : List (ClassId × FieldType)) (ws : va_W) (H : Heap) (locs : List Loc) (ls : Array Slot) (sc : List Value), vz_X b en sz D s k lv st M ad tys ws H locs ls sc → vz_I ad0 tys0 c0 ad tys M.2.2.2.1 → s0 ≤ M.2.2.2.2 → W p l e R s m args below meth c H locs (M.2.2.2.1 - c0) (M.2.2.2.2 - s0) Q (F0 m pc ls sc)
def vz_Op (op : Nat) : Prop :=
  ∀ (p : Program) (l : Launch) (e : Env) (R : Room) (s : State) (m : MethodId) (args : Array Value) (below : List Frame) (meth : Method) (c : Code) (Q : State → Prop) (k b L : Nat) (xs : Nat → Int32) (en : Nat → Nat) (sz : Nat) (D : va_G) (c0 s0 : Nat) (ad0 : List Nat) (tys0 : List (ClassId × FieldType)), vz_C p l R s m args meth c k b L xs en sz →
    ∀ (pc : Nat) (lv : List (Option Value)) (st : List Value) (M : vj_M) (i j t : Nat) (f : vj_F) (M' : vj_M), vj_op vt_mi vt_nf vt_ts vt_td L xs op i j t k pc lv st M = some (.inl (f, M')) → vs_ok k pc (op, i, j, t) = true → (M'.2.2.2.1 - c0 ≤ R.cells ∧ M'.2.2.2.2 - s0 ≤ R.slots) →
      vz_G p l e R s m args below meth c Q k b en sz D c0 s0 ad0 tys0 f.2.1 f.2.2.1 f.2.2.2 M' → f.1 = k ∧ vz_G p l e R s m args below meth c Q k b en sz D c0 s0 ad0 tys0 pc lv st M
theorem vz_nx {k pc : Nat} {lv : List (Option Value)} {st : List Value} {M : vj_M} {f : vj_F} {M' : vj_M} (h : vj_next k pc lv st M = some (.inl (f, M'))) : f = (k, pc, lv, st) ∧ M' = M := by
  unfold vj_next at h
  cases h
  exact ⟨rfl, rfl⟩
theorem vz_ble {x y : Nat} (h : Nat.ble x y = true) : x ≤ y := Nat.le_of_ble_eq_true h
/-- a good word of the tables, by its place -/
theorem vz_word {i : Nat} {w : Cond} (h : vs_wa i = w) (hw : w ≠ .tt) (hg : goodWord w = true) {args : Array Value} {s : State} (ht : ∀ w ∈ vs_GW, w.before args s = true) : w.before args s = true :=
  ht w (List.mem_filter.mpr ⟨vs_wa_mem h hw, hg⟩)
theorem vz_nI (a c : Nat) : nI a + nI c = nI (a + c) := by
  show Int32.ofNat a + Int32.ofNat c = Int32.ofNat (a + c)
  rw [Int32.ofNat_add]
theorem vz_to (pc a : Nat) : (pc : Int) + ((a : Int) - pc) = (a : Int) := by omega
theorem vz_catR {b : Nat} {en : Nat → Nat} {ad : List Nat} {st sc : List Value} (h : vj_l (vj_r b en ad) st sc) {n : Nat} (hn : vj_cat st ≤ n) : (sc.map fun v => v.category).sum ≤ n := by rw [← vj_catOf h]; exact hn
theorem vj_ob_spec {M : vj_M} {q r : Nat} (h : vj_ob M q = some r) : q = r ∧ 8 ≤ r ∧ r < M.2.1 := by
  unfold vj_ob at h
  by_cases hc : 8 ≤ q ∧ q < M.2.1
  · rw [if_pos hc] at h
    cases h
    exact ⟨rfl, hc⟩
  · rw [if_neg hc] at h; cases h
/-- a thing of the small machine's is one of the machine's -/
theorem vz_thing {b : Nat} {en : Nat → Nat} {ad : List Nat} {tys : List (ClassId × FieldType)} {ws : va_W} {M : vj_M} (hw : vj_w b en ad tys ws M) {v w : Value} (hr : vj_r b en ad v w) {q : Nat} (h : vj_obj M v = some q) : ∃ (a : Nat) (e : va_E), v = .ref q ∧ 8 ≤ q ∧ w = .ref a ∧ ws[q - 8]? = some (a, e) ∧ vj_c b en ad tys (M.1 q) e := by
  unfold vj_obj at h
  cases v with
  | ref q' =>
    obtain ⟨h9, hc⟩ := vj_ob_spec h
    subst h9
    obtain ⟨a, h1, h2⟩ := hr
    obtain ⟨w1, w2, -, w4⟩ := hw
    unfold vj_ad at h1
    rw [if_neg (by omega), if_neg (by omega), if_neg (by omega), w1, List.getElem?_map] at h1
    cases hg : ws[q' - 8]? with
    | none => rw [hg] at h1; cases h1
    | some z =>
      rw [hg] at h1
      obtain ⟨a2, e2⟩ := z
      cases h1
      have h4 := w4 (q' - 8) _ hg
      have e8 : ∀ n : Nat, 8 ≤ n → n - 8 + 8 = n := fun n h => by omega
      rw [e8 _ hc.1] at h4
      exact ⟨_, e2, rfl, hc.1, h2, rfl, h4⟩
  | _ => cases h
theorem vz_obj {b : Nat} {en : Nat → Nat} {ad : List Nat} {tys : List (ClassId × FieldType)} {ws : va_W} {M : vj_M} (hw : vj_w b en ad tys ws M) {v w : Value} (hr : vj_r b en ad v w) {q ci : Nat} {fs : List Value} (h : vj_obj M v = some q) (hc : vj_at M q = .inr (ci, fs)) : ∃ (a : Nat) (fs' : List Value), v = .ref q ∧ 8 ≤ q ∧ w = .ref a ∧ ws[q - 8]? = some (a, .inr (ci, fs')) ∧ vj_l (vj_r b en ad) fs fs' := by
  obtain ⟨a, e, h1, h2, h3, h4, h5⟩ := vz_thing hw hr h
  rw [show M.1 q = .inr (ci, fs) from hc] at h5
  cases e with
  | inl e => exact h5.elim
  | inr e =>
    obtain ⟨h6, h7⟩ := h5
    obtain ⟨ci', fs'⟩ := e
    cases (h6 : ci = ci')
    exact ⟨a, fs', h1, h2, h3, h4, h7⟩
theorem vz_arr {b : Nat} {en : Nat → Nat} {ad : List Nat} {tys : List (ClassId × FieldType)} {ws : va_W} {M : vj_M} (hw : vj_w b en ad tys ws M) {v w : Value} (hr : vj_r b en ad v w) {q t0 ty n : Nat} {x : vj_A} (h : vj_obj M v = some q) (hc : vj_at M q = .inl (t0, ty, n, x)) : ∃ (a : Nat) (cA : ClassId) (y : vj_A), v = .ref q ∧ 8 ≤ q ∧ w = .ref a ∧ ws[q - 8]? = some (a, .inl (cA, n, y)) ∧ tys[t0]? = some (cA, vs_ty ty) ∧ vj_ar b en ad n x y := by
  obtain ⟨a, e, h1, h2, h3, h4, h5⟩ := vz_thing hw hr h
  rw [show M.1 q = .inl (t0, ty, n, x) from hc] at h5
  cases e with
  | inr e => exact h5.elim
  | inl e =>
    obtain ⟨h6, h7, h8⟩ := h5
    obtain ⟨cA, n', y⟩ := e
    cases (h7 : n' = n)
    exact ⟨a, cA, y, h1, h2, h3, h4, h6, h8⟩
/-- a thing is changed -/
theorem vz_put {b : Nat} {en : Nat → Nat} {ad : List Nat} {tys : List (ClassId × FieldType)} {ws : va_W} {M : vj_M} (hw : vj_w b en ad tys ws M) {q a : Nat} {e e0 : va_E} {cc : vj_C} (hq : 8 ≤ q) (h0 : ws[q - 8]? = some (a, e0)) (hc : vj_c b en ad tys cc e) : vj_w b en ad tys (ws.set (q - 8) (a, e)) (vj_put M q cc) := by
  obtain ⟨w1, w2, w3, w4⟩ := hw
  refine ⟨?_, by rw [List.length_set]; exact w2, w3, fun i x hx => ?_⟩
  · rw [List.map_set, w1]
    apply List.ext_getElem?
    intro i
    by_cases hi : i = q - 8
    · subst hi
      rw [List.getElem?_set_self (by rw [List.length_map]; exact (List.getElem?_eq_some_iff.mp h0).1), List.getElem?_map, h0]
      rfl
    · rw [List.getElem?_set_ne (Ne.symm hi)]
  · by_cases hi : i = q - 8
    · subst hi
      rw [List.getElem?_set_self (List.getElem?_eq_some_iff.mp h0).1] at hx
      cases hx
      show vj_c b en ad tys (if q - 8 + 8 = q then cc else M.1 (q - 8 + 8)) e
      rw [if_pos (by omega)]
      exact hc
    · rw [List.getElem?_set_ne (Ne.symm hi)] at hx
      show vj_c b en ad tys (if i + 8 = q then cc else M.1 (i + 8)) x.2
      rw [if_neg (by omega)]
      exact w4 i x hx
/-- a thing is made -/
theorem vz_new {b : Nat} {en : Nat → Nat} {ad : List Nat} {tys : List (ClassId × FieldType)} {ws : va_W} {M : vj_M} (hw : vj_w b en ad tys ws M) {a ar n : Nat} {e : va_E} {cc : vj_C} {ts : List (ClassId × FieldType)} (har : ar = ts.length) (hc : vj_c b en (ad ++ [a]) (tys ++ ts) cc e) : vj_w b en (ad ++ [a]) (tys ++ ts) (ws ++ [(a, e)]) (vj_new M cc ar n) ∧ vj_ad b en (ad ++ [a]) M.2.1 = some a := by
  obtain ⟨w1, w2, w3, w4⟩ := hw
  refine ⟨⟨by rw [w1, List.map_append]; rfl, by rw [List.length_append]; show M.2.1 + 1 = _; rw [w2]; simp, by rw [List.length_append]; show M.2.2.1 + ar = _; rw [w3, har], fun i x hx => ?_⟩, ?_⟩
  · by_cases hi : i < ws.length
    · rw [List.getElem?_append_left hi] at hx
      show vj_c b en _ _ (if i + 8 = M.2.1 then cc else M.1 (i + 8)) x.2
      rw [if_neg (by omega)]
      exact (w4 i x hx).up ⟨_, rfl⟩ ⟨_, rfl⟩
    · have hi2 : i = ws.length := by
        have := (List.getElem?_eq_some_iff.mp hx).1
        rw [List.length_append] at this
        simp at this; omega
      rw [hi2, List.getElem?_append_right (Nat.le_refl _), Nat.sub_self] at hx
      cases hx
      show vj_c b en _ _ (if i + 8 = M.2.1 then cc else M.1 (i + 8)) e
      rw [if_pos (by omega)]
      exact hc
  · unfold vj_ad
    rw [if_neg (by omega), if_neg (by omega), if_neg (by omega), w2, w1]
    rw [show ws.length + 8 - 8 = (ws.map fun q => q.1).length by rw [List.length_map]; omega, List.getElem?_append_right (Nat.le_refl _), Nat.sub_self]
    rfl
theorem vz_inv {i : Int32} {n : Nat} (h : vj_in i n = true) : vp_in i n := by
  unfold vj_in at h
  exact of_decide_eq_true (p := ¬ (i < 0 ∨ n ≤ i.toNatClampNeg)) h
def vs_tyf (ci : Nat) : Nat → FieldType := match ci with
  | 0 => tyX0
  | 1 => tyX1
  | 2 => tyX2
  | 3 => tyX3
  | 4 => tyX4
  | _ => tyX6
theorem vz_nm (ci : Nat) (h : ci < vs_nc) : (∀ a, a < vs_N ci → ∀ b, b < vs_N ci → a ≠ b → (vs_T ci a).2.1 ≠ (vs_T ci b).2.1) ∧ (∀ k, k < vs_N ci → parseFieldDescriptor (vs_T ci k).2.2.1 = some (vs_tyf ci k)) ∧ vwCl[ci]? = some (vs_cn ci, vs_T ci, vs_N ci) := by
  match ci, h with
  | 0, _ => exact ⟨nmX0, tyX0_ok, rfl⟩
  | 1, _ => exact ⟨nmX1, tyX1_ok, rfl⟩
  | 2, _ => exact ⟨nmX2, tyX2_ok, rfl⟩
  | 3, _ => exact ⟨nmX3, tyX3_ok, rfl⟩
  | 4, _ => exact ⟨nmX4, tyX4_ok, rfl⟩
  | 5, _ => exact ⟨nmX6, tyX6_ok, rfl⟩
  | n + 6, h => exact absurd h (by show ¬ n + 6 < 6; omega)
/-- the places of the words that lay out a class -/
def vs_uw (ci : Nat) : List Nat := match ci with
  | 0 => [153, 155, 157, 159, 161, 163]
  | 1 => [199, 201, 203, 205, 207, 209, 211]
  | 2 => [120, 122, 124, 126, 128, 130, 132, 134, 136, 138, 140]
  | 3 => [80, 82]
  | 4 => [231, 233, 235, 237, 239, 241, 243]
  | 5 => [258, 260, 262, 264, 266, 268, 270, 272, 274, 276, 278]
  | _ => []
noncomputable def vs_uok (ci : Nat) : Bool := (List.range (vs_N ci)).all (fun k => decide (vs_wa ((vs_uw ci).getD k 0) = u_lay (vs_cn ci) (vs_T ci) k) && goodWord (u_lay (vs_cn ci) (vs_T ci) k))
set_option maxRecDepth 1000000 in
theorem vz_uok : (List.range vs_nc).all vs_uok = true := by decide +kernel
theorem vz_uin (ci : Nat) (h : ci < vs_nc) : ∀ w ∈ u_ws (vs_cn ci) (vs_T ci) (vs_N ci), w ∈ vs_GW := by
  intro w hw
  have h1 := List.all_eq_true.mp vz_uok ci (List.mem_range.mpr h)
  unfold vs_uok at h1
  obtain ⟨k, hk, rfl⟩ := List.mem_map.mp hw
  have h2 := vz_and (List.all_eq_true.mp h1 k hk)
  refine List.mem_filter.mpr ⟨vs_wa_mem (vz_dec h2.1) ?_, h2.2⟩
  unfold u_lay
  split <;> exact fun q => by cases q
end VZ
