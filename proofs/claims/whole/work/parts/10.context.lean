/-! ===== what holds inside a body that is walked, and what a method promises ===== -/
section VZ
abbrev vz_A (sz : Nat) : Nat → Prop := fun q => sz ≤ q
/-- what never changes: the script, the constants, what a throw needs -/
def vz_St (b L : Nat) (xs : Nat → Int32) (en : Nat → Nat) (sz : Nat) (U : State) (H : Heap) : Prop :=
  sz ≤ H.size ∧ b < sz ∧ va_X b L xs U H ∧ (∀ i, i < 5 → va_Z RX5 (vs_en i) "LSharedPalimpsest$What;" (.ref (en i)) (vz_A sz) U H) ∧ (∀ i j, i < 5 → j < 5 → en i = en j → i = j) ∧
  vx_Zq Bundle.tN "UNASSIGNED_STACK" Bundle.steD (vz_A sz) U H ∧ vx_Zq Bundle.tN "SUPPRESSED_SENTINEL" Bundle.listD (vz_A sz) U H ∧
  (∀ i tx, Cond.stringRef vs_io i tx ∈ lw_tbl → ∃ a, vk_R vs_io i tx a U) ∧
  (∀ a i r n d h, Cond.fieldLinkNest a i r n d h ∈ lw_tbl → va_Nw (.fieldLinkNest a i r n d h) U) ∧
  (∀ a i x h, Cond.methodLinkNest a i x h ∈ lw_tbl → va_Nw (.methodLinkNest a i x h) U)
theorem vz_St.moved {b L : Nat} {xs : Nat → Int32} {en : Nat → Nat} {sz : Nat} {s U : State} {H H1 : Heap} (h : vz_St b L xs en sz s H) (hW : s.WarmedH U.vm) (hz : H.size ≤ H1.size) (hk : ∀ q : Nat, q < H.size → ¬ vz_A sz q → H1[q]? = H[q]?) : vz_St b L xs en sz U H1 := by
  obtain ⟨h1, h2, h3, h4, h5, h6, h7, h8, h9, h10⟩ := h
  refine ⟨by omega, h2, (va_X.moved hW.alike h3).kept (hk b (by omega) (by show ¬ sz ≤ b; omega)), fun i hi => (va_Z.moved hW.alike (h4 i hi)).kept hk, h5, (vx_Zq.moved hW.alike h6).kept hk, (vx_Zq.moved hW.alike h7).kept hk, fun i tx hm => ?_, fun a i r n d g hm => (h9 a i r n d g hm).warmF hW, fun a i x g hm => (h10 a i x g hm).warmM hW⟩
  obtain ⟨a, ha⟩ := h8 i tx hm
  exact ⟨a, vk_R.warm hW ha⟩
/-- the world, the machine's and the walker's -/
def vz_B (b L : Nat) (xs : Nat → Int32) (en : Nat → Nat) (sz : Nat) (D : va_G) (U : State) (H : Heap) (ad : List Nat) (ρ : List Int32) (tys : List (ClassId × FieldType)) (ws : va_W) (h : vi_H) (cnt nty : Nat) (sg : vi_G) : Prop :=
  va_K D vwCl tys U ∧ va_P D vwCl ws H ∧ va_D (vz_A sz) ws ∧ vs_w b L xs en ad ρ tys ws h cnt nty sg
noncomputable abbrev vz_run (n : Nat) : vi_K := vi_run vt_code vt_mi vt_nf vt_ts vt_td vt_law n
def vz_Pc (b L : Nat) (xs : Nat → Int32) (en : Nat → Nat) (sz : Nat) (D : va_G) (ad : List Nat) (ρ : List Int32) (tys : List (ClassId × FieldType)) (ws : va_W) (h : vi_H) (cnt nty : Nat) (sg : vi_G) (vs : List vi_V) : Array Value → State → Prop := fun a U =>
  (∃ vals : List Value, a = vals.toArray ∧ vs_l (vs_r b L en ad ρ) vs vals) ∧ vz_St b L xs en sz U U.heap ∧ vz_B b L xs en sz D U U.heap ad ρ tys ws h cnt nty sg
/-- where a method has ended: the walker goes on from a world that is the machine's -/
def vz_E (b L : Nat) (xs : Nat → Int32) (en : Nat → Nat) (sz : Nat) (D : va_G) (ad : List Nat) (ρ : List Int32) (tys : List (ClassId × FieldType)) (n x : Nat) (fs : List vi_V → List vi_F) (vo : List Value) (t : State) : Prop :=
  ∃ (ad' : List Nat) (ρ' : List Int32) (tys' : List (ClassId × FieldType)) (ws' : va_W) (h' : vi_H) (cnt' nty' : Nat) (sg' : vi_G) (v : List vi_V) (n' : Nat), n' ≤ n ∧ vs_pre ad ad' ∧ vs_pre ρ ρ' ∧ vs_pre tys tys' ∧ vz_run n' x (fs v) h' cnt' nty' sg' = true ∧ vs_l (vs_r b L en ad' ρ') v vo ∧ vz_B b L xs en sz D t t.heap ad' ρ' tys' ws' h' cnt' nty' sg'
def vz_Qc (b L : Nat) (xs : Nat → Int32) (en : Nat → Nat) (sz : Nat) (D : va_G) (ad : List Nat) (ρ : List Int32) (tys : List (ClassId × FieldType)) (n k : Nat) (rs : List vi_F) : Array Value → State → Outcome → State → Prop := fun _ st o t =>
  ∃ vo : Option Value, o = .returned vo ∧ vz_E b L xs en sz D ad ρ tys n 0 (fun v => vi_back vt_mi k v rs) vo.toList t ∧ va_F (vz_A sz) st t
def vz_Xc (b L : Nat) (xs : Nat → Int32) (en : Nat → Nat) (sz : Nat) (D : va_G) (ad : List Nat) (ρ : List Int32) (tys : List (ClassId × FieldType)) (n k : Nat) (rs : List vi_F) : String → State → State → Prop := fun E st t =>
  ∃ x : Nat, x < 3 ∧ E = vs_ex x ∧ vz_E b L xs en sz D ad ρ tys n (x + 1) (fun _ => vi_chg vt_mi k rs) [] t ∧ va_F (vz_A sz) st t
noncomputable def vz_rm (k : Nat) : Room := { frames := vs_fr k, cells := vs_mc k, slots := vs_ms k, locals := vs_lw k }
noncomputable def vz_ws (k : Nat) : List Cond := vs_cw k :: vs_GW
/-- a method's promise, the walker's run behind it of at most n steps -/
def vz_S (l : Launch) (b L : Nat) (xs : Nat → Int32) (en : Nat → Nat) (sz : Nat) (D : va_G) (n k : Nat) : Prop :=
  ∀ (rs : List vi_F) (ad : List Nat) (ρ : List Int32) (tys : List (ClassId × FieldType)) (ws : va_W) (h : vi_H) (cnt nty : Nat) (sg : vi_G) (vs : List vi_V), vi_cat vs ≤ vs_ml k → vz_run n 0 ((k, 0, vi_args 0 vs, [], 0, 0) :: rs) h cnt nty sg = true →
    vx_Met l (vs_y k) (vz_ws k) (vz_rm k) (vz_Pc b L xs en sz D ad ρ tys ws h cnt nty sg vs) (vz_Qc b L xs en sz D ad ρ tys n k rs) (vz_Xc b L xs en sz D ad ρ tys n k rs) (vs_mc k) (vs_ms k) (vz_A sz)
/-- inside a body of method k -/
def vz_C (p : Program) (l : Launch) (R : Room) (s : State) (m : MethodId) (args : Array Value) (meth : Method) (c : Code) (k b L : Nat) (xs : Nat → Int32) (en : Nat → Nat) (sz : Nat) : Prop :=
  p.tables.exec = Jvm.exec ∧ c.code = vs_by k ∧ c.maxLocals = vs_ml k ∧ s.vm.findClass (vs_own k) = some m.cls ∧ (∀ w ∈ vs_GW, w.before args s = true) ∧ meth.locks = false ∧ meth.sig.returnType = vs_rt k ∧ ((vs_mw k).2.2.1 = 2 → meth.name = "<init>") ∧ l.stackTraces = false ∧
  (vs_fr k ≤ R.frames ∧ vs_lw k ≤ R.locals ∧ vs_mc k ≤ R.cells ∧ vs_ms k ≤ R.slots) ∧ vz_St b L xs en sz s s.heap
def vz_N (p : Program) (l : Launch) (e : Env) (R : Room) (s : State) (m : MethodId) (args : Array Value) (below : List Frame) (meth : Method) (c : Code) (Q : State → Prop) (k : Nat) (rs : List vi_F) (b L : Nat) (xs : Nat → Int32) (en : Nat → Nat) (sz : Nat) (D : va_G) (go : vi_K) : Prop :=
  ∀ (pc : Nat) (lv : List (Nat × vi_V)) (st : List vi_V) (ce sl : Nat) (h : vi_H) (cnt nty : Nat) (sg : vi_G) (ad : List Nat) (ρ : List Int32) (tys : List (ClassId × FieldType)) (ws : va_W) (H : Heap) (locs : List Loc) (ls : Array Slot) (sc : List Value),
    go 0 ((k, pc, lv, st, ce, sl) :: rs) h cnt nty sg = true → vz_B b L xs en sz D s H ad ρ tys ws h cnt nty sg → va_S (vz_A sz) s.heap H locs → vs_lo b L en ad ρ lv ls (vs_ml k) → vs_l (vs_r b L en ad ρ) st sc → W p l e R s m args below meth c H locs ce sl Q (F0 m pc ls sc)
def vz_Op (p : Program) (l : Launch) (e : Env) (R : Room) (s : State) (m : MethodId) (args : Array Value) (below : List Frame) (meth : Method) (c : Code) (Q : State → Prop) (k : Nat) (rs : List vi_F) (b L : Nat) (xs : Nat → Int32) (en : Nat → Nat) (sz : Nat) (D : va_G) (go : vi_K) (o : vi_O) (op : Nat) : Prop :=
  ∀ (pc : Nat) (lv : List (Nat × vi_V)) (st : List vi_V) (ce sl i j t : Nat) (h : vi_H) (cnt nty : Nat) (sg : vi_G) (ad : List Nat) (ρ : List Int32) (tys : List (ClassId × FieldType)) (ws : va_W) (H : Heap) (locs : List Loc) (ls : Array Slot) (sc : List Value),
    o go rs h cnt nty sg k pc lv st ce sl i j t = true → vs_ok k pc (op, i, j, t) = true → vz_B b L xs en sz D s H ad ρ tys ws h cnt nty sg → va_S (vz_A sz) s.heap H locs → vs_lo b L en ad ρ lv ls (vs_ml k) → vs_l (vs_r b L en ad ρ) st sc → W p l e R s m args below meth c H locs ce sl Q (F0 m pc ls sc)
/-- an exception on its way through the frame of k -/
def vz_NX (p : Program) (l : Launch) (e : Env) (R : Room) (s : State) (m : MethodId) (args : Array Value) (below : List Frame) (meth : Method) (c : Code) (Q : State → Prop) (k : Nat) (rs : List vi_F) (b L : Nat) (xs : Nat → Int32) (en : Nat → Nat) (sz : Nat) (D : va_G) (go : vi_K) : Prop :=
  ∀ (x pc : Nat) (lv : List (Nat × vi_V)) (st : List vi_V) (ce sl : Nat) (h : vi_H) (cnt nty : Nat) (sg : vi_G) (ad : List Nat) (ρ : List Int32) (tys : List (ClassId × FieldType)) (ws : va_W) (H : Heap) (locs : List Loc) (ls : Array Slot) (sc : List Value) (ce9 : Cell) (q9 : Addr),
    x < 3 → go (x + 1) ((k, pc, lv, st, ce, sl) :: rs) h cnt nty sg = true → vz_B b L xs en sz D s H ad ρ tys ws h cnt nty sg → va_S (vz_A sz) s.heap H locs → vs_lo b L en ad ρ lv ls (vs_ml k) → H[q9]? = some ce9 → ce9.vm = .none → s.vm.findClass (vs_ex x) = some ce9.cls → vx_W p l e R s m args below meth c H locs ce sl Q (F0 m pc ls sc) q9
theorem vz_and {x y : Bool} (h : and x y = true) : x = true ∧ y = true := (Bool.and_eq_true x y).mp h
theorem vz_or {x y : Bool} (h : or x y = true) : x = true ∨ y = true := (Bool.or_eq_true x y).mp h
theorem vz_ble {x y : Nat} (h : Nat.ble x y = true) : x ≤ y := Nat.le_of_ble_eq_true h
theorem vz_beq {x y : Nat} (h : Nat.beq x y = true) : x = y := Nat.eq_of_beq_eq_true h
theorem vz_dec {P : Prop} [Decidable P] (h : decide P = true) : P := of_decide_eq_true h
theorem vz_fin (a : Nat) (h : a < 4) : ((Fin.ofNat 4 a : Fin 4) : Nat) = a := Nat.mod_eq_of_lt h
theorem vz_nI (a c : Nat) : nI a + nI c = nI (Nat.mod (a + c) 4294967296) := by
  apply vb_inj
  show vb_b (Int32.ofNat a + Int32.ofNat c) = _
  rw [← Int32.ofNat_add]
  show vb_b (nI (a + c)) = _
  rw [vb_nI, vb_nI]
  show _ = ((a + c) % 4294967296 + 2147483648) % 4294967296
  omega
/-- a good word of the tables, by its place -/
theorem vz_word {i : Nat} {w : Cond} (h : vs_wa i = w) (hw : w ≠ .tt) (hg : goodWord w = true) {args : Array Value} {s : State} (ht : ∀ w ∈ vs_GW, w.before args s = true) : w.before args s = true :=
  ht w (List.mem_filter.mpr ⟨vs_wa_mem h hw, hg⟩)
end VZ
