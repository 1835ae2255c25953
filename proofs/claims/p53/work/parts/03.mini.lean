/-! ===== a small machine of my own: what the classes' code does, as functions of lists and numbers; what it does is carried over to the machine in parts behind this one ===== -/
section VJ
def vi_Tr (α : Type) (n : Nat) : Type := Nat.rec (motive := fun _ => Type) α (fun _ T => T × T) n
noncomputable def vi_tg {α : Type} (n : Nat) : vi_Tr α n → Nat → α :=
  Nat.rec (motive := fun n => vi_Tr α n → Nat → α) (fun t _ => t) (fun n ih t i => Bool.rec (ih (@Prod.snd (vi_Tr α n) (vi_Tr α n) t) (Nat.div i 2)) (ih (@Prod.fst (vi_Tr α n) (vi_Tr α n) t) (Nat.div i 2)) (Nat.beq (Nat.mod i 2) 0)) n
/-- an instruction: what it is, three numbers -/
abbrev vi_E : Type := Nat × Nat × Nat × Nat
/-- a method's instructions, by place -/
abbrev vi_L : Type := Σ d : Nat, vi_Tr vi_E d
noncomputable def vi_lk (l : vi_L) (pc : Nat) : vi_E := bif Nat.ble (pc + 1) (2 ^ l.1) then vi_tg l.1 l.2 pc else (99, 0, 0, 0)
/-- of a method: its class, the number of its arguments, its locals, its answer (0 none, 1 int, 2 boolean, 3 long, 4 double, 5 a reference), its frames, its words, its handlers -/
abbrev vi_M : Type := Nat × Nat × Nat × Nat × Nat × Nat × List (Nat × Nat × Nat × Nat)
abbrev vj_A : Type := (Nat → Int32) ⊕ (Nat → Int64) ⊕ (Nat → UInt32) ⊕ (Nat → UInt64) ⊕ (Nat → Option Nat)
/-- a thing: an array (its place among the array types, its kind: 0 int, 1 boolean, 2 long, 3 double, 4 + c references to class c; its length; what it holds) or an object (its class, its fields); a reference is a number: 0 the script, 1 to 5 the constants, from 8 on the things -/
abbrev vj_C : Type := (Nat × Nat × Nat × vj_A) ⊕ (Nat × List Value)
/-- the things, how many (and 8), how many arrays, the cells and the slots made so far -/
abbrev vj_M : Type := (Nat → vj_C) × Nat × Nat × Nat × Nat
/-- a frame: method, place, locals, stack -/
abbrev vj_F : Type := Nat × Nat × List (Option Value) × List Value
/-- what one step gives: the next frame; a call; an end; a throw -/
abbrev vj_R : Type := Option ((vj_F × vj_M) ⊕ ((vj_F × List Value × Nat × vj_M) ⊕ ((List Value × vj_M) ⊕ (Nat × vj_M))))
def vj_two (v : Value) : Bool := match v with
  | .long _ => true
  | .double _ => true
  | _ => false
def vj_isI (v : Value) : Bool := match v with
  | .int _ => true
  | _ => false
def vj_isA (v : Value) : Bool := match v with
  | .ref _ => true
  | .null => true
  | _ => false
def vj_isJ (v : Value) : Bool := match v with
  | .long _ => true
  | _ => false
def vj_isD (v : Value) : Bool := match v with
  | .double _ => true
  | _ => false
def vj_is01 (v : Value) : Bool := match v with
  | .int x => decide (x = 0 ∨ x = 1)
  | _ => false
def vj_lget (lv : List (Option Value)) (i : Nat) : Option Value := (lv[i]?).getD none
/-- a value of two words just ahead of i is gone -/
def vj_kill (lv : List (Option Value)) (i : Nat) : List (Option Value) := match i with
  | 0 => lv
  | i + 1 => match vj_lget lv i with
    | some v => if vj_two v = true then lv.set i none else lv
    | none => lv
def vj_lset (lv : List (Option Value)) (i : Nat) (v : Value) : List (Option Value) :=
  if vj_two v = true then ((vj_kill lv i).set i (some v)).set (i + 1) none else (vj_kill lv i).set i (some v)
def vj_lclr (lv : List (Option Value)) (i : Nat) : List (Option Value) := (vj_kill lv i).set i none
def vj_cat (vs : List Value) : Nat := (vs.map fun v => v.category).sum
def vj_spread (vs : List Value) : List (Option Value) := match vs with
  | [] => []
  | v :: vs => some v :: (if vj_two v = true then none :: vj_spread vs else vj_spread vs)
def vj_args (n : Nat) (vs : List Value) : List (Option Value) := vj_spread vs ++ List.replicate (n - (vj_spread vs).length) none
def vj_cond (c : Nat) (x y : Int32) : Bool := match c with
  | 0 => decide (x = y)
  | 1 => decide (¬ x = y)
  | 2 => decide (x < y)
  | 3 => decide (y ≤ x)
  | 4 => decide (y < x)
  | _ => decide (x ≤ y)
def vj_in (i : Int32) (n : Nat) : Bool := decide (¬ (i < 0 ∨ n ≤ i.toNatClampNeg))
/-- the thing that a reference names -/
def vj_ob (M : vj_M) (q : Nat) : Option Nat := if 8 ≤ q ∧ q < M.2.1 then some q else none
def vj_obj (M : vj_M) (v : Value) : Option Nat := match v with
  | .ref q => vj_ob M q
  | _ => none
def vj_at (M : vj_M) (q : Nat) : vj_C := M.1 q
def vj_put (M : vj_M) (q : Nat) (c : vj_C) : vj_M := (fun j => if j = q then c else M.1 j, M.2)
/-- a new thing of so many slots -/
def vj_new (M : vj_M) (c : vj_C) (ar n : Nat) : vj_M := (fun j => if j = M.2.1 then c else M.1 j, M.2.1 + 1, M.2.2.1 + ar, M.2.2.2.1 + 1, M.2.2.2.2 + n)
def vj_fit (ty : Nat) (v : Value) : Bool := match ty with
  | 0 => vj_isI v
  | 1 => vj_is01 v
  | 2 => vj_isJ v
  | _ => vj_isA v
/-- an answer's kind -/
def vj_fitr (M : vj_M) (ty : Nat) (v : Value) : Bool := match ty with
  | 1 => vj_isI v
  | 2 => vj_is01 v
  | 3 => vj_isJ v
  | 4 => vj_isD v
  | 5 => match v with
    | .null => true
    | .ref q => (vj_ob M q).isSome
    | _ => false
  | _ => false
def vj_n64 (r : UInt64) : Bool := decide (r &&& 0x7fffffffffffffff ≤ 0x7ff0000000000000)
abbrev vj_O : Type := Nat → Nat → Nat → Nat → Nat → List (Option Value) → List Value → vj_M → vj_R
def vj_next (k pc : Nat) (lv : List (Option Value)) (st : List Value) (M : vj_M) : vj_R := some (.inl ((k, pc, lv, st), M))
section
variable (mi : Nat → vi_M) (nf : Nat → List Value) (ts : List Nat) (td : Nat) (L : Nat) (xs : Nat → Int32)
def vj_oload (ok : Value → Bool) : vj_O := fun a b _ k pc lv st M => match vj_lget lv a with
  | some v => if ok v = true then vj_next k (pc + b) lv (v :: st) M else none
  | none => none
def vj_ostore (ok : Value → Bool) : vj_O := fun a b _ k pc lv st M => match st with
  | v :: st => if ok v = true then vj_next k (pc + b) (vj_lset lv a v) st M else none
  | [] => none
def vj_oconst : vj_O := fun a b _ k pc lv st M => vj_next k (pc + b) lv (.int (nI a) :: st) M
def vj_ogoto : vj_O := fun a _ _ k _ lv st M => vj_next k a lv st M
def vj_oinc : vj_O := fun a b _ k pc lv st M => match vj_lget lv a with
  | some (.int x) => vj_next k (pc + 3) (vj_lset lv a (.int (x + nI b))) st M
  | _ => none
def vj_oif : vj_O := fun a b _ k pc lv st M => match st with
  | .int x :: st => vj_next k (if vj_cond b x 0 = true then a else pc + 3) lv st M
  | _ => none
def vj_oicmp : vj_O := fun a b _ k pc lv st M => match st with
  | .int y :: .int x :: st => vj_next k (if vj_cond b x y = true then a else pc + 3) lv st M
  | _ => none
def vj_oint (f : Int32 → Int32 → Int32) : vj_O := fun _ _ _ k pc lv st M => match st with
  | .int y :: .int x :: st => vj_next k (pc + 1) lv (.int (f x y) :: st) M
  | _ => none
def vj_odiv (f : Int32 → Int32 → Int32) : vj_O := fun _ _ _ k pc lv st M => match st with
  | .int y :: .int x :: st => if y = 0 then none else vj_next k (pc + 1) lv (.int (f x y) :: st) M
  | _ => none
def vj_oget : vj_O := fun a b _ k pc lv st M => match st with
  | o :: st => (match vj_obj M o with
    | some q => (match vj_at M q with
      | .inr (ci, fs) => if ci = a then (match fs[b / 4]? with
          | some v => vj_next k (pc + 3) lv (v :: st) M
          | none => none) else none
      | .inl _ => none)
    | none => none)
  | [] => none
def vj_oput : vj_O := fun a b _ k pc lv st M => match st with
  | v :: o :: st => (match vj_obj M o with
    | some q => (match vj_at M q with
      | .inr (ci, fs) => if ci = a ∧ vj_fit (b % 4) v = true ∧ b / 4 < fs.length then vj_next k (pc + 3) lv st (vj_put M q (.inr (ci, fs.set (b / 4) v))) else none
      | .inl _ => none)
    | none => none)
  | _ => none
def vj_oiald : vj_O := fun _ _ _ k pc lv st M => match st with
  | .int i :: .ref q :: st => if q = 0 then (if vj_in i L = true then vj_next k (pc + 1) lv (.int (xs i.toNatClampNeg) :: st) M else none) else (match vj_obj M (.ref q) with
    | some q => (match vj_at M q with
      | .inl (_, ty, n, .inl f) => if ty = 0 ∧ vj_in i n = true then vj_next k (pc + 1) lv (.int (f i.toNatClampNeg) :: st) M else none
      | _ => none)
    | none => none)
  | _ => none
def vj_obald : vj_O := fun _ _ _ k pc lv st M => match st with
  | .int i :: o :: st => (match vj_obj M o with
    | some q => (match vj_at M q with
      | .inl (_, ty, n, .inl f) => if ty = 1 ∧ vj_in i n = true then vj_next k (pc + 1) lv (.int (f i.toNatClampNeg) :: st) M else none
      | _ => none)
    | none => none)
  | _ => none
def vj_oaald : vj_O := fun _ _ _ k pc lv st M => match st with
  | .int i :: o :: st => (match vj_obj M o with
    | some q => (match vj_at M q with
      | .inl (_, ty, n, .inr (.inr (.inr (.inr f)))) => if 4 ≤ ty ∧ vj_in i n = true then vj_next k (pc + 1) lv (va_rf (f i.toNatClampNeg) :: st) M else none
      | _ => none)
    | none => none)
  | _ => none
def vj_olald : vj_O := fun _ _ _ k pc lv st M => match st with
  | .int i :: o :: st => (match vj_obj M o with
    | some q => (match vj_at M q with
      | .inl (_, ty, n, .inr (.inl f)) => if ty = 2 ∧ vj_in i n = true then vj_next k (pc + 1) lv (.long (f i.toNatClampNeg) :: st) M else none
      | _ => none)
    | none => none)
  | _ => none
def vj_odald : vj_O := fun _ _ _ k pc lv st M => match st with
  | .int i :: o :: st => (match vj_obj M o with
    | some q => (match vj_at M q with
      | .inl (_, ty, n, .inr (.inr (.inr (.inl f)))) => if ty = 3 ∧ vj_in i n = true then vj_next k (pc + 1) lv (.double (f i.toNatClampNeg) :: st) M else none
      | _ => none)
    | none => none)
  | _ => none
def vj_oiast : vj_O := fun _ _ _ k pc lv st M => match st with
  | .int x :: .int i :: o :: st => (match vj_obj M o with
    | some q => (match vj_at M q with
      | .inl (t, ty, n, .inl f) => if ty = 0 ∧ vj_in i n = true then vj_next k (pc + 1) lv st (vj_put M q (.inl (t, ty, n, .inl (upd f i.toNatClampNeg x)))) else none
      | _ => none)
    | none => none)
  | _ => none
def vj_obast : vj_O := fun _ _ _ k pc lv st M => match st with
  | .int x :: .int i :: o :: st => (match vj_obj M o with
    | some q => (match vj_at M q with
      | .inl (t, ty, n, .inl f) => if ty = 1 ∧ vj_in i n = true ∧ vj_is01 (.int x) = true then vj_next k (pc + 1) lv st (vj_put M q (.inl (t, ty, n, .inl (upd f i.toNatClampNeg x)))) else none
      | _ => none)
    | none => none)
  | _ => none
def vj_oaast : vj_O := fun _ _ _ k pc lv st M => match st with
  | .ref v :: .int i :: o :: st => (match vj_obj M o, vj_obj M (.ref v) with
    | some q, some v => (match vj_at M q, vj_at M v with
      | .inl (t, ty, n, .inr (.inr (.inr (.inr f)))), .inr (ci, _) => if ty = ci + 4 ∧ vj_in i n = true then vj_next k (pc + 1) lv st (vj_put M q (.inl (t, ty, n, .inr (.inr (.inr (.inr (va_up f i.toNatClampNeg (some v)))))))) else none
      | _, _ => none)
    | _, _ => none)
  | _ => none
def vj_olast : vj_O := fun _ _ _ k pc lv st M => match st with
  | .long x :: .int i :: o :: st => (match vj_obj M o with
    | some q => (match vj_at M q with
      | .inl (t, ty, n, .inr (.inl f)) => if ty = 2 ∧ vj_in i n = true then vj_next k (pc + 1) lv st (vj_put M q (.inl (t, ty, n, .inr (.inl (vp_updL f i.toNatClampNeg x))))) else none
      | _ => none)
    | none => none)
  | _ => none
def vj_odast : vj_O := fun _ _ _ k pc lv st M => match st with
  | .double x :: .int i :: o :: st => (match vj_obj M o with
    | some q => (match vj_at M q with
      | .inl (t, ty, n, .inr (.inr (.inr (.inl f)))) => if ty = 3 ∧ vj_in i n = true then vj_next k (pc + 1) lv st (vj_put M q (.inl (t, ty, n, .inr (.inr (.inr (.inl (vf_upd f i.toNatClampNeg x))))))) else none
      | _ => none)
    | none => none)
  | _ => none
def vj_olen : vj_O := fun _ _ _ k pc lv st M => match st with
  | .ref q :: st => if q = 0 then vj_next k (pc + 1) lv (.int (nI L) :: st) M else (match vj_obj M (.ref q) with
    | some q => (match vj_at M q with
      | .inl (_, _, n, _) => vj_next k (pc + 1) lv (.int (nI n) :: st) M
      | .inr _ => none)
    | none => none)
  | _ => none
/-- whether the receiver is of the method's class (how: 2 a static method) -/
def vj_recv (how : Nat) (M : vj_M) (c : Nat) (vs : List Value) : Bool := if how = 2 then true else match vs with
  | o :: _ => (match vj_obj M o with
    | some q => (match vj_at M q with
      | .inr (ci, _) => decide (ci = c)
      | .inl _ => false)
    | none => false)
  | [] => false
def vj_ocall (how : Nat) : vj_O := fun a _ _ k pc lv st M =>
  if (mi a).2.1 ≤ st.length ∧ vj_cat (st.take (mi a).2.1) ≤ (mi a).2.2.1 ∧ vj_cat (st.drop (mi a).2.1) ≤ 8 ∧ vj_recv how M (mi a).1 (st.take (mi a).2.1).reverse = true then
    some (.inr (.inl ((k, pc, lv, st.drop (mi a).2.1), (st.take (mi a).2.1).reverse, a, M))) else none
def vj_oobj : vj_O := fun _ _ _ k pc lv st M => match st with
  | o :: st => (match vj_obj M o with
    | some _ => if vj_cat st ≤ 8 then vj_next k (pc + 3) lv st M else none
    | none => none)
  | [] => none
def vj_omath (f : Int32 → Int32 → Int32) : vj_O := fun _ _ _ k pc lv st M => match st with
  | .int y :: .int x :: st => if vj_cat st ≤ 8 then vj_next k (pc + 3) lv (.int (f x y) :: st) M else none
  | _ => none
def vj_ocopy : vj_O := fun _ _ _ k pc lv st M => match st with
  | .int n :: .int dp :: d :: .int sp :: s :: st => (match vj_obj M s, vj_obj M d with
    | some q0, some q1 => (match vj_at M q0, vj_at M q1 with
      | .inl (_, ty0, n0, .inl f), .inl (t1, ty1, n1, .inl g) => if ty0 = 0 ∧ ty1 = 0 ∧ ¬ sp < 0 ∧ ¬ dp < 0 ∧ ¬ n < 0 ∧ sp.toNatClampNeg + n.toNatClampNeg ≤ n0 ∧ dp.toNatClampNeg + n.toNatClampNeg ≤ n1 ∧ vj_cat st ≤ 8 then
          vj_next k (pc + 3) lv st (vj_put M q1 (.inl (t1, ty1, n1, .inl (va_cpy f g sp.toNatClampNeg dp.toNatClampNeg n.toNatClampNeg)))) else none
      | _, _ => none)
    | _, _ => none)
  | _ => none
def vj_onew : vj_O := fun a _ _ k pc lv st M => vj_next k (pc + 3) lv (.ref M.2.1 :: st) (vj_new M (.inr (a, nf a)) 0 (nf a).length)
def vj_dfl (ty : Nat) : vj_A := match ty with
  | 0 => .inl (fun _ => 0)
  | 1 => .inl (fun _ => 0)
  | 2 => .inr (.inl (fun _ => 0))
  | 3 => .inr (.inr (.inr (.inl (fun _ => 0))))
  | _ => .inr (.inr (.inr (.inr (fun _ => none))))
def vj_onewa : vj_O := fun a _ _ k pc lv st M => match st with
  | .int n :: st => if ¬ n < 0 ∧ n.toNatClampNeg ≤ 16384 ∧ a < 4 then vj_next k (pc + 2) lv (.ref M.2.1 :: st) (vj_new M (.inl (M.2.2.1, a, n.toNatClampNeg, vj_dfl a)) 1 n.toNatClampNeg) else none
  | _ => none
def vj_onewq : vj_O := fun a _ _ k pc lv st M => match st with
  | .int n :: st => if ¬ n < 0 ∧ n.toNatClampNeg ≤ 16384 then vj_next k (pc + 3) lv (.ref M.2.1 :: st) (vj_new M (.inl (M.2.2.1, a + 4, n.toNatClampNeg, vj_dfl 4)) 1 n.toNatClampNeg) else none
  | _ => none
def vj_othrow : vj_O := fun a _ _ _ _ _ st M => if vj_cat st ≤ 8 then some (.inr (.inr (.inr (a, (M.1, M.2.1, M.2.2.1, M.2.2.2.1 + 1, M.2.2.2.2 + 6))))) else none
def vj_odup : vj_O := fun _ _ _ k pc lv st M => match st with
  | v :: st => if vj_two v = true then none else vj_next k (pc + 1) lv (v :: v :: st) M
  | _ => none
def vj_opop : vj_O := fun _ _ _ k pc lv st M => match st with
  | v :: st => if vj_two v = true then none else vj_next k (pc + 1) lv st M
  | _ => none
def vj_odupx : vj_O := fun _ _ _ k pc lv st M => match st with
  | v :: w :: st => if vj_two v = true ∨ vj_two w = true then none else vj_next k (pc + 1) lv (v :: w :: v :: st) M
  | _ => none
def vj_odup2 : vj_O := fun _ _ _ k pc lv st M => match st with
  | v :: w :: st => if vj_two v = true ∨ vj_two w = true then none else vj_next k (pc + 1) lv (v :: w :: v :: w :: st) M
  | _ => none
def vj_oret : vj_O := fun _ _ _ k _ _ st M => match st with
  | [v] => if vj_fitr M (mi k).2.2.2.1 v = true then some (.inr (.inr (.inl ([v], M)))) else none
  | _ => none
def vj_ovret : vj_O := fun _ _ _ k _ _ st M => match st with
  | [] => if (mi k).2.2.2.1 = 0 then some (.inr (.inr (.inl ([], M)))) else none
  | _ => none
def vj_oi2l : vj_O := fun _ _ _ k pc lv st M => match st with
  | .int x :: st => vj_next k (pc + 1) lv (.long x.toInt64 :: st) M
  | _ => none
def vj_olong (f : Int64 → Int64 → Int64) : vj_O := fun _ _ _ k pc lv st M => match st with
  | .long y :: .long x :: st => vj_next k (pc + 1) lv (.long (f x y) :: st) M
  | _ => none
def vj_olcmp : vj_O := fun _ _ _ k pc lv st M => match st with
  | .long y :: .long x :: st => vj_next k (pc + 1) lv (.int (lg_cmp x y) :: st) M
  | _ => none
def vj_olcon : vj_O := fun a b _ k pc lv st M => vj_next k (pc + (if b = 0 then 1 else 3)) lv (.long (lN a) :: st) M
def vj_odcon : vj_O := fun _ _ _ k pc lv st M => vj_next k (pc + 1) lv (.double FP.dconst0 :: st) M
def vj_odcmp (op : CmpOp) : vj_O := fun _ _ _ k pc lv st M => match st with
  | .double y :: .double x :: st => vj_next k (pc + 1) lv (.int (Op.cmpValue (FP.dcmp x y) op) :: st) M
  | _ => none
def vj_oenum : vj_O := fun a _ _ k pc lv st M => vj_next k (pc + 3) lv (.ref (a + 1) :: st) M
def vj_enq (x y : Nat) : Bool := decide (1 ≤ x ∧ x ≤ 5 ∧ 1 ≤ y ∧ y ≤ 5)
def vj_oacmp : vj_O := fun a _ _ k pc lv st M => match st with
  | .ref y :: .ref x :: st => if vj_enq x y = true then vj_next k (if Nat.beq x y = true then pc + 3 else a) lv st M else none
  | _ => none
def vj_onull (is : Bool) : vj_O := fun a _ _ k pc lv st M => match st with
  | .null :: st => vj_next k (if is = true then a else pc + 3) lv st M
  | .ref _ :: st => vj_next k (if is = true then pc + 3 else a) lv st M
  | _ => none
def vj_onil : vj_O := fun _ _ _ k pc lv st M => vj_next k (pc + 1) lv (.null :: st) M
def vj_tsw (x : Int32) : Nat := if x < 0 then td else match ts[x.toNatClampNeg]? with
  | some t => t
  | none => td
def vj_oswitch : vj_O := fun _ _ _ k _ lv st M => match st with
  | .int x :: st => vj_next k (vj_tsw ts td x) lv st M
  | _ => none
def vj_oi2d : vj_O := fun _ _ _ k pc lv st M => match st with
  | .int x :: st => vj_next k (pc + 1) lv (.double (FP.i2d x) :: st) M
  | _ => none
def vj_odbl (f : UInt64 → UInt64 → UInt64) : vj_O := fun _ _ _ k pc lv st M => match st with
  | .double y :: .double x :: st => if vj_n64 (f x y) = true then vj_next k (pc + 1) lv (.double (f x y) :: st) M else none
  | _ => none
def vj_oldc : vj_O := fun a _ _ k pc lv st M => vj_next k (pc + 2) lv (.int (nI a) :: st) M
def vj_oldcd : vj_O := fun a _ _ k pc lv st M => vj_next k (pc + 3) lv (.double (UInt64.ofNat a) :: st) M
def vj_op (op : Nat) : vj_O := match op with
  | 0 => vj_oload vj_isI
  | 1 => vj_oload vj_isA
  | 2 => vj_oconst
  | 3 => vj_ostore vj_isI
  | 4 => vj_ostore vj_isA
  | 5 => vj_ogoto
  | 6 => vj_oinc
  | 7 => vj_oif
  | 8 => vj_oicmp
  | 9 => vj_oint (fun x y => x + y)
  | 10 => vj_oint (fun x y => x - y)
  | 11 => vj_oint (fun x y => x * y)
  | 12 => vj_oint (fun x y => x &&& y)
  | 13 => vj_odiv (fun x y => x - x / y * y)
  | 14 => vj_oget
  | 15 => vj_oput
  | 16 => vj_oiald L xs
  | 17 => vj_oiast
  | 18 => vj_obald
  | 19 => vj_obast
  | 20 => vj_oaald
  | 21 => vj_oaast
  | 22 => vj_olald
  | 23 => vj_olast
  | 24 => vj_odald
  | 25 => vj_odast
  | 26 => vj_olen L
  | 27 => vj_ocall mi 0
  | 28 => vj_ocall mi 1
  | 29 => vj_ocall mi 2
  | 30 => vj_oobj
  | 31 => vj_omath (fun x y => if x < y then y else x)
  | 32 => vj_omath (fun x y => if y < x then y else x)
  | 33 => vj_ocopy
  | 34 => vj_onew nf
  | 35 => vj_othrow
  | 36 => vj_onewa
  | 37 => vj_onewq
  | 38 => vj_odup
  | 39 => vj_opop
  | 40 => vj_odupx
  | 41 => vj_odup2
  | 42 => vj_oret mi
  | 43 => vj_ovret mi
  | 44 => vj_oret mi
  | 45 => vj_oret mi
  | 46 => vj_oret mi
  | 47 => vj_oi2l
  | 48 => vj_olong (fun x y => x + y)
  | 49 => vj_olong (fun x y => x * y)
  | 50 => vj_olcmp
  | 51 => vj_olcon
  | 52 => vj_oload vj_isJ
  | 53 => vj_ostore vj_isJ
  | 54 => vj_odcon
  | 55 => vj_oload vj_isD
  | 56 => vj_ostore vj_isD
  | 57 => vj_odcmp .l
  | 58 => vj_oenum
  | 59 => vj_oacmp
  | 60 => vj_onull true
  | 61 => vj_onull false
  | 62 => vj_onil
  | 63 => vj_oswitch ts td
  | 64 => vj_odiv (fun x y => x / y)
  | 65 => vj_oint (fun x y => x <<< (y &&& 31))
  | 66 => vj_oint (fun x y => x >>> (y &&& 31))
  | 67 => vj_oi2d
  | 68 => vj_odbl FP.ddiv
  | 69 => vj_odbl FP.dadd
  | 70 => vj_odcmp .g
  | 71 => vj_oldc
  | 72 => vj_oldcd
  | _ => fun _ _ _ _ _ _ _ _ => none
variable (code : Nat → Nat → vi_E)
def vj_step (f : vj_F) (M : vj_M) : vj_R := vj_op mi nf ts td L xs (code f.1 f.2.1).1 (code f.1 f.2.1).2.1 (code f.1 f.2.1).2.2.1 (code f.1 f.2.1).2.2.2 f.1 f.2.1 f.2.2.1 f.2.2.2 M
/-- which handler takes the exception e thrown at pc -/
def vj_hand (hs : List (Nat × Nat × Nat × Nat)) (pc e : Nat) : Option Nat := match hs with
  | [] => none
  | q :: hs => if q.1 ≤ pc ∧ pc < q.2.1 ∧ q.2.2.2 = e then some q.2.2.1 else vj_hand hs pc e
/-- a frame over which e was thrown (not out of a constructor): behind the handler's first instruction, which puts the exception away -/
def vj_catch (g : vj_F) (e : Nat) : Option (Option vj_F) := if (code g.1 g.2.1).1 = 28 then none else match (mi g.1).2.2.2.2.2.2 with
  | [] => some none
  | q :: hs => match vj_hand (q :: hs) g.2.1 e with
    | some t => if (code g.1 t).1 = 4 then some (some (g.1, t + (code g.1 t).2.2.1, vj_lclr g.2.2.1 (code g.1 t).2.1, [])) else none
    | none => none
def vj_run : Nat → vj_F → vj_M → Option ((List Value ⊕ Nat) × vj_M)
  | 0, _, _ => none
  | n + 1, f, M => match vj_step mi nf ts td L xs code f M with
    | some (.inl (f', M')) => vj_run n f' M'
    | some (.inr (.inl (g, vs, a, M'))) => (match vj_run n (a, 0, vj_args (mi a).2.2.1 vs, []) M' with
      | some (.inl v, M2) => vj_run n (g.1, g.2.1 + 3, g.2.2.1, v ++ g.2.2.2) M2
      | some (.inr e, M2) => (match vj_catch mi code g e with
        | some (some g') => vj_run n g' M2
        | some none => some (.inr e, M2)
        | none => none)
      | none => none)
    | some (.inr (.inr (.inl (v, M')))) => some (.inl v, M')
    | some (.inr (.inr (.inr (e, M')))) => some (.inr e, M')
    | none => none
end
end VJ
