/-! ===== the small machine's runs are the machine's: a contract a method, by induction on the run ===== -/
section VS
theorem vz_gw {i : Nat} {w : Cond} (h : vs_wa i = w) (hw : w ≠ .tt) (hg : goodWord w = true) : w ∈ vs_GW := List.mem_filter.mpr ⟨vs_wa_mem h hw, hg⟩
theorem vz_good {w : Cond} (h : w ∈ vs_GW) : goodWord w = true := (List.mem_filter.mp h).2
noncomputable def vz_ws (k : Nat) : List Cond := vs_cw k :: vs_GW
theorem vz_gin {a : Nat} (h : vs_cw a ∈ vs_GW) : GoodIn vs_GW (vz_ws a) := by
  intro w hw
  rcases List.mem_cons.mp hw with rfl | hw
  · exact ⟨h, good_of_word (vz_good h)⟩
  · exact ⟨hw, good_of_word (vz_good hw)⟩
noncomputable def vz_rm (k mc ms : Nat) : Room := { frames := vs_fr k, cells := mc, slots := ms, locals := vs_lw k }
/-- what the tables say of a method -/
def vz_M (a : Nat) : Prop := vs_cw a ∈ vs_GW ∧
  ((vs_cw a = .code (vs_y a) (vs_by a) (vs_ml a) (vs_rt a) ∧ vs_hd a = []) ∨ (vs_cw a = .codeWith (vs_y a) (vs_by a) (vs_ml a) (vs_rt a) (vs_hh a) ∧ vs_hd a ≠ [])) ∧
  Cond.initialized (vs_own a) ∈ vs_GW ∧ (vs_y a).cls = vs_own a ∧ vs_own a ≠ "java/lang/invoke/MethodHandle" ∧ vs_own a ≠ "java/lang/invoke/VarHandle" ∧ plainName (vs_own a) = true ∧ vs_hok (vs_own a) (vs_hd a) (vs_hh a) = true ∧ vs_rok a = true ∧
  ((vs_mw a).2.2.1 = 0 → Cond.static (vs_y a) ∈ vs_GW ∧ (parseMethodDescriptor (vs_y a).desc).map (fun d => d.parameters.length) = some (vt_mi a).2.1) ∧
  ((vs_mw a).2.2.1 = 1 → Cond.instanceMethod (vs_y a) ∈ vs_GW ∧ Cond.selects (vs_own a) (vs_y a) (vs_y a) ∈ vs_GW ∧ (parseMethodDescriptor (vs_y a).desc).map (fun d => d.parameters.length + 1) = some (vt_mi a).2.1 ∧ vs_hd a = []) ∧
  ((vs_mw a).2.2.1 = 2 → Cond.instanceMethod (vs_y a) ∈ vs_GW ∧ (vs_y a).name = "<init>" ∧ (vt_mi a).2.2.2.1 = 0 ∧ (parseMethodDescriptor (vs_y a).desc).map (fun d => d.parameters.length + 1) = some (vt_mi a).2.1 ∧ vs_hd a = [])
theorem vz_emp {α : Type} {l : List α} (h : l.isEmpty = true) : l = [] := by cases l with
  | nil => rfl
  | cons x l => cases h
theorem vz_mok (a : Nat) (h : a < vt_law) : vz_M a := by
  have h := vd_mok a h
  unfold vs_mok at h
  obtain ⟨h, hI⟩ := vz_and h
  obtain ⟨h, hH⟩ := vz_and h
  obtain ⟨h, hG⟩ := vz_and h
  obtain ⟨h, hF⟩ := vz_and h
  obtain ⟨h, hE⟩ := vz_and h
  obtain ⟨h, hD⟩ := vz_and h
  obtain ⟨h, hC⟩ := vz_and h
  obtain ⟨hA, hB⟩ := vz_and h
  have hA2 : vs_cw a ∈ vs_GW ∧ ((vs_cw a = .code (vs_y a) (vs_by a) (vs_ml a) (vs_rt a) ∧ vs_hd a = []) ∨ (vs_cw a = .codeWith (vs_y a) (vs_by a) (vs_ml a) (vs_rt a) (vs_hh a) ∧ vs_hd a ≠ [])) := by
    split at hA
    · rename_i y z ml r hcw
      obtain ⟨hA, a3⟩ := vz_and hA
      obtain ⟨a1, a2⟩ := vz_and hA
      have a1 := vz_dec a1
      refine ⟨vz_gw (i := (vs_mw a).1) rfl (by show vs_cw a ≠ _; rw [hcw]; intro q; cases q) (by show goodWord (vs_cw a) = true; exact a3), Or.inl ⟨?_, vz_emp a2⟩⟩
      unfold vs_y vs_by vs_rt
      rw [hcw, a1]
    · rename_i y z ml r hh hcw
      obtain ⟨hA, a3⟩ := vz_and hA
      obtain ⟨a1, a2⟩ := vz_and hA
      have a1 := vz_dec a1
      refine ⟨vz_gw (i := (vs_mw a).1) rfl (by show vs_cw a ≠ _; rw [hcw]; intro q; cases q) (by show goodWord (vs_cw a) = true; exact a3), Or.inr ⟨?_, ?_⟩⟩
      · unfold vs_y vs_by vs_rt vs_hh
        rw [hcw, a1]
      · intro q
        rw [q] at a2
        cases a2
    · cases hA
  have hB2 : Cond.initialized (vs_own a) ∈ vs_GW := by
    split at hB
    · rename_i o ho
      have := vz_dec hB
      subst this
      exact vz_gw ho (by intro q; cases q) rfl
    · cases hB
  refine ⟨hA2.1, hA2.2, hB2, vz_dec hC, vz_dec hD, vz_dec hE, hF, hG, hH, fun q => ?_, fun q => ?_, fun q => ?_⟩
  · rw [q] at hI
    obtain ⟨i1, i2⟩ := vz_and hI
    refine ⟨?_, vz_dec i2⟩
    split at i1
    · rename_i y hy
      have := vz_dec i1
      subst this
      exact vz_gw hy (by intro q; cases q) rfl
    · cases i1
  · rw [q] at hI
    obtain ⟨hI, i4⟩ := vz_and hI
    obtain ⟨hI, i3⟩ := vz_and hI
    obtain ⟨i1, i2⟩ := vz_and hI
    refine ⟨?_, ?_, vz_dec i3, vz_emp i4⟩
    · split at i1
      · rename_i y hy
        have := vz_dec i1
        subst this
        exact vz_gw hy (by intro q; cases q) rfl
      · cases i1
    · split at i2
      · rename_i C y z hy
        obtain ⟨i2, e3⟩ := vz_and i2
        obtain ⟨e1, e2⟩ := vz_and i2
        have e1 := vz_dec e1
        have e2 := vz_dec e2
        have e3 := vz_dec e3
        rw [← e1]
        subst e2
        rw [e3] at hy
        exact vz_gw hy (by intro q; cases q) rfl
      · cases i2
  · rw [q] at hI
    obtain ⟨hI, i5⟩ := vz_and hI
    obtain ⟨hI, i4⟩ := vz_and hI
    obtain ⟨hI, i3⟩ := vz_and hI
    obtain ⟨i1, i2⟩ := vz_and hI
    refine ⟨?_, vz_dec i2, vz_dec i3, vz_dec i4, vz_emp i5⟩
    split at i1
    · rename_i y hy
      have := vz_dec i1
      subst this
      exact vz_gw hy (by intro q; cases q) rfl
    · cases i1
def vz_Pc (b L : Nat) (xs : Nat → Int32) (en : Nat → Nat) (sz : Nat) (D : va_G) (vs : List Value) (M : vj_M) (ad : List Nat) (tys : List (ClassId × FieldType)) (ws : va_W) : Array Value → State → Prop := fun a U =>
  (∃ vals : List Value, a = vals.toArray ∧ vj_l (vj_r b en ad) vs vals) ∧ vz_St b L xs en sz U U.heap ∧ vz_B b en sz D U U.heap ad tys ws M
theorem vz_blind {b L : Nat} {xs : Nat → Int32} {en : Nat → Nat} {sz : Nat} {D : va_G} {vs : List Value} {M : vj_M} {ad : List Nat} {tys : List (ClassId × FieldType)} {ws : va_W} : FrameBlind (vz_Pc b L xs en sz D vs M ad tys ws) := fun a U g mk h =>
  ⟨h.1, vz_St.moved (U := U.calling g mk a) (H1 := U.heap) h.2.1 (State.WarmedH.refl U) (Nat.le_refl _) (fun _ _ _ => rfl), va_K.moved (u := U) (U := U.calling g mk a) (Vm.Alike.refl U.vm) h.2.2.1, h.2.2.2⟩
/-- the world where a method has ended -/
def vz_En (b : Nat) (en : Nat → Nat) (sz : Nat) (D : va_G) (ad : List Nat) (tys : List (ClassId × FieldType)) (M' : vj_M) (v vo : List Value) (t : State) : Prop :=
  ∃ (ad' : List Nat) (tys' : List (ClassId × FieldType)) (ws' : va_W), vs_pre ad ad' ∧ vs_pre tys tys' ∧ vj_l (vj_r b en ad') v vo ∧ vz_B b en sz D t t.heap ad' tys' ws' M'
def vz_Qc (b : Nat) (en : Nat → Nat) (sz : Nat) (D : va_G) (ad : List Nat) (tys : List (ClassId × FieldType)) (r : List Value ⊕ Nat) (M' : vj_M) : Array Value → State → Outcome → State → Prop := fun _ st o t =>
  ∃ (v : List Value) (vo : Option Value), r = .inl v ∧ o = .returned vo ∧ vz_En b en sz D ad tys M' v vo.toList t ∧ va_F (vz_A sz) st t
def vz_Xc (b : Nat) (en : Nat → Nat) (sz : Nat) (D : va_G) (ad : List Nat) (tys : List (ClassId × FieldType)) (r : List Value ⊕ Nat) (M' : vj_M) : String → State → State → Prop := fun E st t =>
  ∃ x : Nat, r = .inr x ∧ x < 3 ∧ E = vs_ex x ∧ vz_En b en sz D ad tys M' [] [] t ∧ va_F (vz_A sz) st t
/-- a method's promise, for runs of n steps -/
def vz_S (l : Launch) (b L : Nat) (xs : Nat → Int32) (en : Nat → Nat) (sz : Nat) (D : va_G) (n k : Nat) : Prop :=
  ∀ (vs : List Value) (M M' : vj_M) (r : List Value ⊕ Nat) (ad : List Nat) (tys : List (ClassId × FieldType)) (ws : va_W), vj_cat vs ≤ vs_ml k → vr_run L xs n (k, 0, vj_args (vs_ml k) vs, []) M = some (r, M') →
    vx_Met l (vs_y k) (vz_ws k) (vz_rm k (M'.2.2.2.1 - M.2.2.2.1) (M'.2.2.2.2 - M.2.2.2.2)) (vz_Pc b L xs en sz D vs M ad tys ws) (vz_Qc b en sz D ad tys r M') (vz_Xc b en sz D ad tys r M') (M'.2.2.2.1 - M.2.2.2.1) (M'.2.2.2.2 - M.2.2.2.2) (vz_A sz)
section
variable {p : Program} {l : Launch} {e : Env} {R : Room} {s : State} {m : MethodId} {args : Array Value} {below : List Frame} {meth : Method} {c : Code} {H : Heap} {locs : List Loc} {cells slots mc ms : Nat} {Q : State → Prop}
variable {b L : Nat} {xs : Nat → Int32} {en : Nat → Nat} {sz : Nat} {D : va_G}
theorem vz_pre {ad : List Nat} {tys : List (ClassId × FieldType)} {ws : va_W} {M : vj_M} {vs vals : List Value} (hst9 : vz_St b L xs en sz s s.heap) (hS : va_S (vz_A sz) s.heap H locs) (hB : vz_B b en sz D s H ad tys ws M) (hv : vj_l (vj_r b en ad) vs vals) : ∀ U : State, U.heap = H → s.WarmedH U.vm → vz_Pc b L xs en sz D vs M ad tys ws vals.toArray U := by
  intro U hU hW
  refine ⟨⟨vals, rfl, hv⟩, hst9.moved hW (by rw [hU]; exact hS.1) (by rw [hU]; exact hS.2.1), va_K.moved hW.alike hB.1, by rw [hU]; exact hB.2.1, hB.2.2.1, hB.2.2.2⟩
theorem vz_callR {pc : Nat} {ls : Array Slot} {st0 rest : List Value} {ad : List Nat} {tys : List (ClassId × FieldType)} {M2 : vj_M} {r1 : List Value ⊕ Nat} {aa : Array Value}
    (hrun : vx_Run p l e R s m args below meth c H locs cells slots mc ms (F0 m pc ls st0) rest (vz_Qc b en sz D ad tys r1 M2 aa) (vz_Xc b en sz D ad tys r1 M2) (vz_A sz)) (hS : va_S (vz_A sz) s.heap H locs)
    (kr : ∀ v, r1 = .inl v → ∀ (ad' : List Nat) (tys' : List (ClassId × FieldType)) (ws' : va_W) (H1 : Heap) (locs1 : List Loc) (vo : List Value), vs_pre ad ad' → vs_pre tys tys' → vj_l (vj_r b en ad') v vo → vz_B b en sz D s H1 ad' tys' ws' M2 → va_S (vz_A sz) s.heap H1 locs1 → W p l e R s m args below meth c H1 locs1 (cells + mc) (slots + ms) Q (F0 m (pc + 3) ls (vo ++ rest)))
    (kx : ∀ x, r1 = .inr x → x < 3 → ∀ (ad' : List Nat) (tys' : List (ClassId × FieldType)) (ws' : va_W) (H1 : Heap) (locs1 : List Loc) (ce : Cell) (q9 : Addr), vs_pre ad ad' → vs_pre tys tys' → vz_B b en sz D s H1 ad' tys' ws' M2 → va_S (vz_A sz) s.heap H1 locs1 → H1[q9]? = some ce → ce.vm = .none → s.vm.findClass (vs_ex x) = some ce.cls → vx_W p l e R s m args below meth c H1 locs1 (cells + mc) (slots + ms) Q (F0 m pc ls rest) q9) :
    W p l e R s m args below meth c H locs cells slots Q (F0 m pc ls st0) := by
  intro T hT X
  rcases hrun T hT X with ⟨v, st₀, t, T', L2, h0, X', hL, e1, e2, hQ, st⟩ | ⟨q, st₀, t, T', L2, E, ce, h0, X', hL, e1, e2, hQ, hce, hcv, hcl, st⟩
  · obtain ⟨v9, vo, hr, hv, ⟨ad', tys', ws', g1, g2, g3, g4⟩, hF⟩ := hQ
    cases hv
    obtain ⟨-, -, k3⟩ := vx_keep (A1 := vz_A sz) h0 e1 hS (fun _ _ z => z) (fun _ z => z) hL hF
    have hvm : s.vm.Alike t.vm := by rw [← e2]; exact X'.warmed.alike
    obtain ⟨t2, a1, b1⟩ := kr v9 hr ad' tys' ws' T'.heap (locs ++ L2) v.toList g1 g2 g3 ⟨va_K.moved hvm.symm g4.1, by rw [e1]; exact g4.2.1, g4.2.2.1, g4.2.2.2⟩ k3 T' rfl X'
    exact ⟨t2, st t2 a1, b1⟩
  · obtain ⟨x, hr, hx3, hE, ⟨ad', tys', ws', g1, g2, -, g4⟩, hF⟩ := hQ
    subst hE
    obtain ⟨-, -, k3⟩ := vx_keep (A1 := vz_A sz) h0 e1 hS (fun _ _ z => z) (fun _ z => z) hL hF
    have hvm : s.vm.Alike t.vm := by rw [← e2]; exact X'.warmed.alike
    obtain ⟨t2, a1, b1⟩ := kx x hr hx3 ad' tys' ws' T'.heap (locs ++ L2) ce q g1 g2 ⟨va_K.moved hvm.symm g4.1, by rw [e1]; exact g4.2.1, g4.2.2.1, g4.2.2.2⟩ k3 (by rw [e1]; exact hce) hcv hcl T' rfl X'
    exact ⟨t2, st.trans a1, b1⟩
end
/-- what does not throw has an ordinary contract -/
theorem vz_met {l : Launch} {y : MethodName} {ws : List Cond} {rm : Room} {Pc : Array Value → State → Prop} {Qc : Array Value → State → Outcome → State → Prop} {XC : String → State → State → Prop} {mc ms : Nat} {free : Addr → Prop} (h : vx_Met l y ws rm Pc Qc XC mc ms free) (hX : ∀ E st t, ¬ XC E st t) : Met l y ws rm Pc Qc mc ms free := by
  intro p e h1 h2 h3 s m args below h4 h5 h6 h7
  obtain ⟨n, o, a1, a2, a3, a4⟩ := h p e h1 h2 h3 s m args below h4 h5 h6 h7
  refine ⟨n, o, a1, a2, a3, ?_⟩
  rcases a4 with a4 | ⟨q, -, E, ce, L, hx, -⟩
  · exact a4
  · exact absurd hx (hX _ _ _)
theorem vz_stk {sc As : List Value} {x : Value} {n : Nat} (h : (sc.take n).reverse = x :: As) : sc = As.reverse ++ x :: sc.drop n := by
  have h1 : sc.take n = As.reverse ++ [x] := by
    have := congrArg List.reverse h
    rw [List.reverse_reverse, List.reverse_cons] at this
    exact this
  have h2 := List.take_append_drop n sc
  rw [h1] at h2
  rw [List.append_assoc] at h2
  exact h2.symm
theorem vz_stk0 {sc : List Value} {n : Nat} : sc = ((sc.take n).reverse).reverse ++ sc.drop n := by
  rw [List.reverse_reverse, List.take_append_drop]
/-- where a call of a method leads -/
theorem vz_call {p : Program} {l : Launch} {e : Env} {R : Room} {s : State} {m : MethodId} {args : Array Value} {below : List Frame} {meth : Method} {c : Code} {k b L : Nat} {xs : Nat → Int32} {en : Nat → Nat} {sz : Nat} {D : va_G} (hC : vz_C p l R s m args meth c k b L xs en sz) {n a : Nat} (IH : vz_S l b L xs en sz D n a) (ha : a < vt_law)
    {how pc i j t op : Nat} (hop : op = 27 ∧ how = 0 ∨ op = 28 ∧ how = 1 ∨ op = 29 ∧ how = 2) (hok : vs_ok k pc (op, a, j, t) = true) {lv : List (Option Value)} {st : List Value} {M M2 : vj_M} {r1 : List Value ⊕ Nat}
    (hnt : how = 1 → ∀ x, r1 ≠ .inr x) (h1 : (vt_mi a).2.1 ≤ st.length) (h2 : vj_cat (st.take (vt_mi a).2.1) ≤ (vt_mi a).2.2.1) (h3 : vj_cat (st.drop (vt_mi a).2.1) ≤ 8) (h4 : vj_recv how M (vt_mi a).1 (st.take (vt_mi a).2.1).reverse = true) (hrun : vr_run L xs n (a, 0, vj_args (vt_mi a).2.2.1 (st.take (vt_mi a).2.1).reverse, []) M = some (r1, M2))
    {ad : List Nat} {tys : List (ClassId × FieldType)} {ws : va_W} {H : Heap} {locs : List Loc} {ls : Array Slot} {sc : List Value} (hX : vz_X b en sz D s k lv st M ad tys ws H locs ls sc) {cells slots : Nat} (hc : cells + (M2.2.2.2.1 - M.2.2.2.1) ≤ R.cells ∧ slots + (M2.2.2.2.2 - M.2.2.2.2) ≤ R.slots) :
    vx_Run p l e R s m args below meth c H locs cells slots (M2.2.2.2.1 - M.2.2.2.1) (M2.2.2.2.2 - M.2.2.2.2) (F0 m pc ls sc) (sc.drop (vt_mi a).2.1) (vz_Qc b en sz D ad tys r1 M2 ((sc.take (vt_mi a).2.1).reverse).toArray) (vz_Xc b en sz D ad tys r1 M2) (vz_A sz) := by
  obtain ⟨hx, hb, hml, hown, hts, hlocks, hrt, hinit, htr, ⟨hfr, hlo⟩, hst9⟩ := id hC
  obtain ⟨hB, hS, hl, hst⟩ := hX
  obtain ⟨m1, m2, m3, m4, m5, m6, m7, m8, m9, m10, m11, m12⟩ := vz_mok a ha
  have hcat : vj_cat (st.take (vt_mi a).2.1).reverse ≤ vs_ml a := by
    unfold vj_cat at h2 ⊢
    rw [List.map_reverse, List.sum_reverse]
    exact h2
  have hM := IH _ M M2 r1 ad tys ws hcat hrun
  have hvals : vj_l (vj_r b en ad) (st.take (vt_mi a).2.1).reverse (sc.take (vt_mi a).2.1).reverse := (hst.take _).rev
  have hW : 2 * (F0 m pc ls sc).monitorRoom + ((sc.drop (vt_mi a).2.1).map fun v => v.category).sum ≤ 8 := by
    have := vz_catR (hst.drop (vt_mi a).2.1) h3
    show 2 * 0 + _ ≤ 8
    omega
  have hlen : (sc.take (vt_mi a).2.1).reverse.length = (vt_mi a).2.1 := by
    rw [List.length_reverse, List.length_take, ← hst.len]
    omega
  have hpre := vz_pre (vs := (st.take (vt_mi a).2.1).reverse) hst9 hS hB hvals
  have hcall : ∀ f : Nat → Bool, vs_call k a t f = true → ∃ idx, f idx = true ∧ vs_fr a + 1 ≤ R.frames ∧ 8 + (vs_ml a + 11) + vs_lw a ≤ R.locals ∧ (vs_wa t = .methodLink (vs_own k) idx (vs_y a) ∨ ∃ host, vs_wa t = .methodLinkNest (vs_own k) idx (vs_y a) host ∧ (vs_mw a).2.2.1 = 2) := by
    intro f h
    unfold vs_call at h
    obtain ⟨h, z4⟩ := vz_and h
    obtain ⟨h, z3⟩ := vz_and h
    obtain ⟨z1, z2⟩ := vz_and h
    have z1 := vz_dec z1
    have z2 := vz_dec z2
    split at z4
    · rename_i own idx y hw
      obtain ⟨z4, z6⟩ := vz_and z4
      obtain ⟨z4, z5⟩ := vz_and z4
      have z4 := vz_dec z4
      have z5 := vz_dec z5
      subst z4; subst z5
      exact ⟨idx, z6, by omega, by omega, Or.inl hw⟩
    · rename_i own idx y host hw
      obtain ⟨z4, z7⟩ := vz_and z4
      obtain ⟨z4, z6⟩ := vz_and z4
      obtain ⟨z4, z5⟩ := vz_and z4
      have z4 := vz_dec z4
      have z5 := vz_dec z5
      subst z4; subst z5
      exact ⟨idx, z7, by omega, by omega, Or.inr ⟨host, hw, vz_dec z6⟩⟩
    · cases z4
  rcases hop with ⟨rfl, rfl⟩ | ⟨rfl, rfl⟩ | ⟨rfl, rfl⟩
  · -- by a name
    obtain ⟨g1, g2⟩ := vz_and hok
    have g1 := vz_dec g1
    obtain ⟨idx, f1, f2, f3, f4⟩ := hcall _ g2
    have f4 : vs_wa t = .methodLink (vs_own k) idx (vs_y a) := by
      rcases f4 with f4 | ⟨host, -, f5⟩
      · exact f4
      · rw [g1] at f5; cases f5
    obtain ⟨y1, y2, y3, y4⟩ := m11 g1
    have hcode : vs_cw a = .code (vs_y a) (vs_by a) (vs_ml a) (vs_rt a) := by
      rcases m2 with ⟨z, -⟩ | ⟨-, z⟩
      · exact z
      · exact absurd y4 z
    have h4 : (match (st.take (vt_mi a).2.1).reverse with
      | o :: _ => (match vj_obj M o with
        | some q => (match vj_at M q with
          | .inr (ci, _) => decide (ci = (vt_mi a).1)
          | .inl _ => false)
        | none => false)
      | [] => false) = true := h4
    split at h4
    · rename_i o os ho
      split at h4
      · rename_i q hq
        split at h4
        · rename_i ci fs hc2
          have h4 := vz_dec h4
          have hvals' := hvals
          rw [ho] at hvals'
          cases hA : (sc.take (vt_mi a).2.1).reverse with
          | nil => rw [hA] at hvals'; exact hvals'.elim
          | cons w As =>
            rw [hA] at hvals' hpre hlen
            obtain ⟨aa, fs', -, -, e2, h6, -⟩ := vz_obj hB.2.2.2 hvals'.1 hq hc2
            subst e2
            obtain ⟨r9, hr9, -⟩ := vz_clof hB.1 hB.2.1 h6
            have hci : ci < vs_nc := (List.getElem?_eq_some_iff.mp hr9).1
            have hcn : vs_cn ci = vs_own a := by rw [h4]; rfl
            have hp : PreV s H (vs_own a) aa (vz_Pc b L xs en sz D (st.take (vt_mi a).2.1).reverse M ad tys ws) As := by
              refine ⟨vz_blind, ?_, hpre⟩
              have := va_recv hB.1 hB.2.1 (vz_nm ci hci).2.2 h6
              rw [← hcn]
              exact this
            have cw : CallW R s args (vs_own k) (vs_own a) idx (vs_y a) (vs_by a) (vs_ml a) (vs_rt a) (vz_ws a) (vz_rm a (M2.2.2.2.1 - M.2.2.2.1) (M2.2.2.2.2 - M.2.2.2.2)) (M2.2.2.2.1 - M.2.2.2.1) (M2.2.2.2.2 - M.2.2.2.2) As.length := by
              refine cwV As.length hts ?_ (ws' := vs_GW) (by unfold vz_ws; rw [hcode]) rfl rfl ⟨m4, by rw [m4]; exact m5, by rw [m4]; exact m6, ?_⟩ ⟨f2, f3⟩
              · intro w hw
                unfold wsV at hw
                rcases List.mem_append.mp hw with hw | hw
                · rcases List.mem_cons.mp hw with rfl | hw
                  · have := vz_gw f4 (by intro q; cases q) rfl
                    exact ⟨this, good_of_word rfl⟩
                  rcases List.mem_cons.mp hw with rfl | hw
                  · exact ⟨y1, good_of_word rfl⟩
                  rcases List.mem_cons.mp hw with rfl | hw
                  · exact ⟨y2, good_of_word rfl⟩
                  rcases List.mem_cons.mp hw with rfl | hw
                  · exact ⟨m3, good_of_word rfl⟩
                  · cases hw
                · exact vz_gin m1 w hw
              · have : As.length + 1 = (vt_mi a).2.1 := by rw [← hlen]; rfl
                rw [← this] at y3
                cases hd : parseMethodDescriptor (vs_y a).desc with
                | none => rw [hd] at y3; cases y3
                | some d =>
                  rw [hd] at y3
                  have := Option.some.inj y3
                  show some d.parameters.length = some As.length
                  rw [Nat.add_right_cancel this]
            exact vx_runV ⟨hx, hb, hml, hown, hts⟩ hM cw hp rfl rfl (vz_lsz hl hml |>.trans hml) (vz_stk hA) hW (vz_dec f1) hc
        · cases h4
      · cases h4
    · cases h4
  · -- a constructor
    obtain ⟨g1, g2⟩ := vz_and hok
    have g1 := vz_dec g1
    obtain ⟨idx, f1, f2, f3, f4⟩ := hcall _ g2
    obtain ⟨y1, y2, y3, y4, y5⟩ := m12 g1
    have hcode : vs_cw a = .code (vs_y a) (vs_by a) (vs_ml a) (vs_rt a) := by
      rcases m2 with ⟨z, -⟩ | ⟨-, z⟩
      · exact z
      · exact absurd y5 z
    have hnone : vs_rt a = none := by
      unfold vs_rok at m9
      rw [y3] at m9
      have m9 : (match vs_rt a with
        | none => true
        | _ => false) = true := m9
      split at m9
      · assumption
      · cases m9
    have h4 : (match (st.take (vt_mi a).2.1).reverse with
      | o :: _ => (match vj_obj M o with
        | some q => (match vj_at M q with
          | .inr (ci, _) => decide (ci = (vt_mi a).1)
          | .inl _ => false)
        | none => false)
      | [] => false) = true := h4
    split at h4
    · rename_i o os ho
      split at h4
      · rename_i q hq
        split at h4
        · rename_i ci fs hc2
          have hvals' := hvals
          rw [ho] at hvals'
          cases hA : (sc.take (vt_mi a).2.1).reverse with
          | nil => rw [hA] at hvals'; exact hvals'.elim
          | cons w As =>
            rw [hA] at hvals' hpre hlen
            obtain ⟨aa, fs', -, -, e2, h6, -⟩ := vz_obj hB.2.2.2 hvals'.1 hq hc2
            subst e2
            have hp : PreS s H (vz_Pc b L xs en sz D (st.take (vt_mi a).2.1).reverse M ad tys ws) (.ref aa :: As) := ⟨vz_blind, hpre⟩
            have hdesc : (parseMethodDescriptor (vs_y a).desc).map (fun d => d.parameters.length) = some As.length := by
              have : As.length + 1 = (vt_mi a).2.1 := by rw [← hlen]; rfl
              rw [← this] at y4
              cases hd : parseMethodDescriptor (vs_y a).desc with
              | none => rw [hd] at y4; cases y4
              | some d =>
                rw [hd] at y4
                have := Option.some.inj y4
                show some d.parameters.length = some As.length
                rw [Nat.add_right_cancel this]
            have hcode2 : vs_cw a = .code (vs_y a) (vs_by a) (vs_ml a) none := by rw [hcode, hnone]
            have hnx : ∀ (E : String) (st t : State), ¬ vz_Xc b en sz D ad tys r1 M2 E st t := fun E st t ⟨x, h, _⟩ => hnt rfl x h
            have hM2 := vz_met hM hnx
            rcases f4 with f4 | ⟨host, f4, -⟩
            · have cw := cwI (s := s) (args := args) (Ts := vs_GW) (own := vs_own k) (index := idx) (R := R) (rm := vz_rm a (M2.2.2.2.1 - M.2.2.2.1) (M2.2.2.2.2 - M.2.2.2.2)) As.length hts (vz_gin m1) (ws' := vs_GW) (by unfold vz_ws; rw [hcode2]) rfl rfl (by rw [m4]; exact hts _ m3) (vz_word f4 (by intro q; cases q) rfl hts) (hts _ y1) y2 ⟨by rw [m4]; exact m5, by rw [m4]; exact m6, hdesc⟩ ⟨f2, f3⟩
              have hr := va_runI (e := e) (below := below) (meth := meth) (locs := locs) ⟨hx, hb, hml, hown, hts⟩ hM2 cw hp (g := F0 m pc ls sc) (rest := sc.drop (vt_mi a).2.1) rfl rfl (vz_lsz hl hml |>.trans hml) (vz_stk hA) hW (vz_dec f1) hc
              exact fun T hT X => Or.inl (hr T hT X)
            · have cw := va_cnB (s := s) (args := args) (Ts := vs_GW) (own := vs_own k) (host := host) (index := idx) (R := R) (rm := vz_rm a (M2.2.2.2.1 - M.2.2.2.1) (M2.2.2.2.2 - M.2.2.2.2)) As.length hts (vz_gin m1) (ws' := vs_GW) (by unfold vz_ws; rw [hcode2]) rfl rfl (hst9.2.2.2.2.2.2.2.2.2.1 _ _ _ _ (vs_wa_mem f4 (by intro z; cases z))) (by rw [m4]; exact hts _ m3) ⟨by rw [m4]; exact m5, by rw [m4]; exact m6, hdesc⟩ ⟨f2, f3⟩
              have hr := va_runIN (e := e) (below := below) (meth := meth) (locs := locs) ⟨hx, hb, hml, hown, hts⟩ hM2 ⟨cw, y2, hts _ y1⟩ hp (g := F0 m pc ls sc) (rest := sc.drop (vt_mi a).2.1) rfl rfl (vz_lsz hl hml |>.trans hml) (vz_stk hA) hW (vz_dec f1) hc
              exact fun T hT X => Or.inl (hr T hT X)
        · cases h4
      · cases h4
    · cases h4
  · -- static
    obtain ⟨g1, g2⟩ := vz_and hok
    have g1 := vz_dec g1
    obtain ⟨idx, f1, f2, f3, f4⟩ := hcall _ g2
    have f4 : vs_wa t = .methodLink (vs_own k) idx (vs_y a) := by
      rcases f4 with f4 | ⟨host, -, f5⟩
      · exact f4
      · rw [g1] at f5; cases f5
    obtain ⟨y1, y2⟩ := m10 g1
    rw [← hlen] at y2
    have hp : PreS s H (vz_Pc b L xs en sz D (st.take (vt_mi a).2.1).reverse M ad tys ws) (sc.take (vt_mi a).2.1).reverse := ⟨vz_blind, hpre⟩
    have hin : GoodIn vs_GW (va_wsS (vs_own k) idx (vs_y a) (vz_ws a)) := by
      intro w hw
      unfold va_wsS at hw
      rcases List.mem_append.mp hw with hw | hw
      · rcases List.mem_cons.mp hw with rfl | hw
        · exact ⟨vz_gw f4 (by intro q; cases q) rfl, good_of_word rfl⟩
        rcases List.mem_cons.mp hw with rfl | hw
        · exact ⟨y1, good_of_word rfl⟩
        rcases List.mem_cons.mp hw with rfl | hw
        · rw [m4]; exact ⟨m3, good_of_word rfl⟩
        · cases hw
      · exact vz_gin m1 w hw
    rcases m2 with ⟨hcode, -⟩ | ⟨hcode, -⟩
    · have cw := va_cwS (s := s) (args := args) (R := R) (rm := vz_rm a (M2.2.2.2.1 - M.2.2.2.1) (M2.2.2.2.2 - M.2.2.2.2)) _ hts hin (ws' := vs_GW) (by unfold vz_ws; rw [hcode]) rfl rfl ⟨by rw [m4]; exact m5, by rw [m4]; exact m6, y2⟩ ⟨f2, f3⟩
      exact vx_runS ⟨hx, hb, hml, hown, hts⟩ hM cw hp rfl rfl (vz_lsz hl hml |>.trans hml) vz_stk0 hW (vz_dec f1) hc
    · have cw := vx_cwSW (s := s) (args := args) (R := R) (rm := vz_rm a (M2.2.2.2.1 - M.2.2.2.1) (M2.2.2.2.2 - M.2.2.2.2)) _ hts hin (ws' := vs_GW) (by unfold vz_ws; rw [hcode]) rfl rfl ⟨by rw [m4]; exact m5, by rw [m4]; exact m6, y2⟩ ⟨f2, f3⟩
      exact vx_runSX ⟨hx, hb, hml, hown, hts⟩ hM cw hp rfl rfl (vz_lsz hl hml |>.trans hml) vz_stk0 hW (vz_dec f1) hc
end VS
