/-! ===== an abstract walker: runs the small machine over values that are known, or known by a range alone; every step is one that the kernel can count ===== -/
section VI
/-- a value: (0, u) the int u; (1, k) the unknown int k; (2, a) the thing a; (3, 0) null; (4, u) the long u; (6, L) the script of L ints; (7, i) the constant i; (8, 0) the double 0 -/
abbrev vi_V : Type := Nat × Nat
noncomputable def vi_tp {α : Type} (n : Nat) : vi_Tr α n → Nat → α → vi_Tr α n :=
  Nat.rec (motive := fun n => vi_Tr α n → Nat → α → vi_Tr α n) (fun _ _ v => v) (fun n ih t i v => Bool.rec (@Prod.mk (vi_Tr α n) (vi_Tr α n) (@Prod.fst (vi_Tr α n) (vi_Tr α n) t) (ih (@Prod.snd (vi_Tr α n) (vi_Tr α n) t) (Nat.div i 2) v)) (@Prod.mk (vi_Tr α n) (vi_Tr α n) (ih (@Prod.fst (vi_Tr α n) (vi_Tr α n) t) (Nat.div i 2) v) (@Prod.snd (vi_Tr α n) (vi_Tr α n) t)) (Nat.beq (Nat.mod i 2) 0)) n
noncomputable def vi_tf {α : Type} (n : Nat) (v : α) : vi_Tr α n := Nat.rec (motive := fun n => vi_Tr α n) v (fun n t => @Prod.mk (vi_Tr α n) (vi_Tr α n) t t) n
/-- a thing: an object (its class, its fields) or an array (its place among the array types, its kind; its length; what it holds) -/
abbrev vi_C : Type := (Nat × List vi_V) ⊕ (Nat × Nat × Nat × vi_Tr vi_V 14)
abbrev vi_H : Type := vi_Tr vi_C 11
abbrev vi_W : Type := List (Option vi_V)
abbrev vi_F : Type := Nat × Nat × vi_W × List vi_V
abbrev vi_G : Type := List (Nat × Nat)
abbrev vi_K : Type := Nat → List vi_F → vi_H → Nat → Nat → Nat → Nat → vi_G → Bool
noncomputable def vi_set {α : Type} (l : List α) : Nat → α → List α := List.rec (motive := fun _ => Nat → α → List α) (fun _ _ => []) (fun x xs ih i v => Nat.rec (motive := fun _ => List α) (v :: xs) (fun j _ => x :: ih j v) i) l
noncomputable def vi_lg (lv : vi_W) (a : Nat) : Option vi_V := match vi_nth lv a with
  | some o => o
  | none => none
/-- a value of two words -/
noncomputable def vi_two (v : vi_V) : Bool := or (Nat.beq v.1 4) (Nat.beq v.1 8)
noncomputable def vi_kill (lv : vi_W) (i : Nat) : vi_W := match i with
  | 0 => lv
  | i + 1 => match vi_lg lv i with
    | some v => bif vi_two v then vi_set lv i none else lv
    | none => lv
noncomputable def vi_lset (lv : vi_W) (i : Nat) (v : vi_V) : vi_W := bif vi_two v then vi_set (vi_set (vi_kill lv i) i (some v)) (i + 1) none else vi_set (vi_kill lv i) i (some v)
noncomputable def vi_lclr (lv : vi_W) (i : Nat) : vi_W := vi_set (vi_kill lv i) i none
noncomputable def vi_rng (sg : vi_G) (v : vi_V) : Option (Nat × Nat) :=
  match v.1 with
  | 0 => some (Nat.mod (v.2 + 2147483648) 4294967296, Nat.mod (v.2 + 2147483648) 4294967296)
  | 1 => vi_nth sg v.2
  | _ => none
noncomputable def vi_lit (sg : vi_G) (v : vi_V) : Option Nat :=
  match vi_rng sg v with
  | some r => bif Nat.beq r.1 r.2 then some (Nat.mod (r.1 + 2147483648) 4294967296) else none
  | none => none
noncomputable def vi_ref (sg : vi_G) (v : vi_V) (r : Nat × Nat) : vi_G := bif Nat.beq v.1 1 then vi_set sg v.2 r else sg
noncomputable def vi_min (a b : Nat) : Nat := bif Nat.ble a b then a else b
noncomputable def vi_max (a b : Nat) : Nat := bif Nat.ble a b then b else a
noncomputable def vi_lt (sg : vi_G) (x y : vi_V) (kt kf : vi_G → Bool) : Bool :=
  match vi_rng sg x, vi_rng sg y with
  | some (la, ha), some (lb, hb) =>
    bif Nat.ble (ha + 1) lb then kt sg else bif Nat.ble hb la then kf sg else
    and (kt (vi_ref (vi_ref sg x (la, vi_min ha (hb - 1))) y (vi_max lb (la + 1), hb))) (kf (vi_ref (vi_ref sg x (vi_max la lb, ha)) y (lb, vi_min hb ha)))
  | _, _ => false
noncomputable def vi_trim (sg : vi_G) (x : vi_V) (rx ry : Nat × Nat) : vi_G :=
  bif Nat.beq ry.1 ry.2 then vi_ref sg x (bif Nat.beq rx.1 ry.1 then rx.1 + 1 else rx.1, bif Nat.beq rx.2 ry.1 then rx.2 - 1 else rx.2) else sg
noncomputable def vi_eq (sg : vi_G) (x y : vi_V) (kt kf : vi_G → Bool) : Bool :=
  match vi_rng sg x, vi_rng sg y with
  | some (la, ha), some (lb, hb) =>
    bif or (Nat.ble (ha + 1) lb) (Nat.ble (hb + 1) la) then kf sg else
    bif and (Nat.beq la ha) (Nat.beq lb hb) then kt sg else
    and (kt (vi_ref (vi_ref sg x (vi_max la lb, vi_min ha hb)) y (vi_max la lb, vi_min ha hb))) (kf (vi_trim (vi_trim sg x (la, ha) (lb, hb)) y (lb, hb) (la, ha)))
  | _, _ => false
noncomputable def vi_cmp (sg : vi_G) (cond : Nat) (x y : vi_V) (kt kf : vi_G → Bool) : Bool :=
  match cond with
  | 0 => vi_eq sg x y kt kf
  | 1 => vi_eq sg x y kf kt
  | 2 => vi_lt sg x y kt kf
  | 3 => vi_lt sg x y kf kt
  | 4 => vi_lt sg y x kt kf
  | 5 => vi_lt sg y x kf kt
  | _ => false
noncomputable def vi_spread (vs : List vi_V) : vi_W := List.rec (motive := fun _ => vi_W) [] (fun v _ ih => some v :: (bif vi_two v then none :: ih else ih)) vs
noncomputable def vi_pad (n : Nat) (l : vi_W) : vi_W := l ++ List.replicate (n - l.length) none
noncomputable def vi_cat (vs : List vi_V) : Nat := List.rec (motive := fun _ => Nat) 0 (fun v _ ih => (bif vi_two v then 2 else 1) + ih) vs
noncomputable def vi_take (n : Nat) (st acc : List vi_V) : Option (List vi_V × List vi_V) :=
  Nat.rec (motive := fun _ => List vi_V → List vi_V → Option (List vi_V × List vi_V)) (fun st acc => some (acc, st)) (fun _ ih st acc => match st with | [] => none | v :: r => ih r (v :: acc)) n st acc
abbrev vi_O : Type := vi_K → List vi_F → vi_H → Nat → Nat → Nat → Nat → vi_G → Nat → Nat → vi_W → List vi_V → Nat → Nat → Nat → Bool
section
variable (mi : Nat → vi_M) (nf : Nat → List vi_V) (ts : List Nat) (td law cmax smax : Nat)
noncomputable def vi_isI (v : vi_V) : Bool := Nat.ble v.1 1
noncomputable def vi_isA (v : vi_V) : Bool := or (Nat.beq v.1 2) (or (Nat.beq v.1 3) (or (Nat.beq v.1 6) (Nat.beq v.1 7)))
noncomputable def vi_isJ (v : vi_V) : Bool := Nat.beq v.1 4
noncomputable def vi_isD (v : vi_V) : Bool := Nat.beq v.1 8
noncomputable def vi_is01 (v : vi_V) : Bool := and (Nat.beq v.1 0) (Nat.ble v.2 1)
noncomputable def vi_oload (ok : vi_V → Bool) : vi_O := fun go rs h cnt nty ce sl sg k pc lv st a b _ =>
  match vi_lg lv a with
  | some v => and (ok v) (go 0 ((k, pc + b, lv, v :: st) :: rs) h cnt nty ce sl sg)
  | none => false
noncomputable def vi_ostore (ok : vi_V → Bool) : vi_O := fun go rs h cnt nty ce sl sg k pc lv st a b _ =>
  match st with
  | v :: st => and (ok v) (go 0 ((k, pc + b, vi_lset lv a v, st) :: rs) h cnt nty ce sl sg)
  | _ => false
noncomputable def vi_oconst : vi_O := fun go rs h cnt nty ce sl sg k pc lv st a b _ => go 0 ((k, pc + b, lv, (0, a) :: st) :: rs) h cnt nty ce sl sg
noncomputable def vi_ogoto : vi_O := fun go rs h cnt nty ce sl sg k _ lv st a _ _ => go 0 ((k, a, lv, st) :: rs) h cnt nty ce sl sg
noncomputable def vi_oinc : vi_O := fun go rs h cnt nty ce sl sg k pc lv st a b _ =>
  match vi_lg lv a with
  | some v => (match vi_lit sg v with
    | some u => go 0 ((k, pc + 3, vi_lset lv a (0, Nat.mod (u + b) 4294967296), st) :: rs) h cnt nty ce sl sg
    | none => false)
  | none => false
noncomputable def vi_oif : vi_O := fun go rs h cnt nty ce sl sg k pc lv st a b _ =>
  match st with
  | x :: st => vi_cmp sg b x (0, 0) (fun sg => go 0 ((k, a, lv, st) :: rs) h cnt nty ce sl sg) (fun sg => go 0 ((k, pc + 3, lv, st) :: rs) h cnt nty ce sl sg)
  | _ => false
noncomputable def vi_oicmp : vi_O := fun go rs h cnt nty ce sl sg k pc lv st a b _ =>
  match st with
  | y :: x :: st => vi_cmp sg b x y (fun sg => go 0 ((k, a, lv, st) :: rs) h cnt nty ce sl sg) (fun sg => go 0 ((k, pc + 3, lv, st) :: rs) h cnt nty ce sl sg)
  | _ => false
noncomputable def vi_full : Nat × Nat := (0, 4294967295)
/-- an int operation: lit on known ones, else an unknown in a range -/
noncomputable def vi_oint (f : Nat → Nat → Nat) (g : Nat × Nat → Nat × Nat → Nat × Nat) : vi_O := fun go rs h cnt nty ce sl sg k pc lv st _ _ _ =>
  match st with
  | y :: x :: st => (match vi_rng sg x, vi_rng sg y with
    | some rx, some ry =>
      bif and (Nat.beq rx.1 rx.2) (Nat.beq ry.1 ry.2)
      then go 0 ((k, pc + 1, lv, (0, f (Nat.mod (rx.1 + 2147483648) 4294967296) (Nat.mod (ry.1 + 2147483648) 4294967296)) :: st) :: rs) h cnt nty ce sl sg
      else go 0 ((k, pc + 1, lv, (1, sg.length) :: st) :: rs) h cnt nty ce sl (sg ++ [g rx ry])
    | _, _ => false)
  | _ => false
noncomputable def vi_gadd (x y : Nat × Nat) : Nat × Nat := bif and (Nat.ble 2147483648 (x.1 + y.1)) (Nat.ble (x.2 + y.2 + 1) 6442450944) then (x.1 + y.1 - 2147483648, x.2 + y.2 - 2147483648) else vi_full
noncomputable def vi_gsub (x y : Nat × Nat) : Nat × Nat := bif and (Nat.ble y.2 (x.1 + 2147483648)) (Nat.ble (x.2 + 2147483649) (y.1 + 4294967296)) then (x.1 + 2147483648 - y.2, x.2 + 2147483648 - y.1) else vi_full
noncomputable def vi_oadd : vi_O := vi_oint (fun a b => Nat.mod (a + b) 4294967296) vi_gadd
noncomputable def vi_osub : vi_O := vi_oint (fun a b => Nat.mod (a + 4294967296 - b) 4294967296) vi_gsub
noncomputable def vi_omul : vi_O := vi_oint (fun a b => Nat.mod (a * b) 4294967296) (fun _ _ => vi_full)
/-- the script's first int and 63: kept as the unknown 6 -/
noncomputable def vi_oand : vi_O := fun go rs h cnt nty ce sl sg k pc lv st _ _ _ =>
  match st with
  | y :: x :: st => and (and (Nat.beq x.1 1) (Nat.beq x.2 0)) (and (and (Nat.beq y.1 0) (Nat.beq y.2 63)) (go 0 ((k, pc + 1, lv, (1, 6) :: st) :: rs) h cnt nty ce sl sg))
  | _ => false
/-- a remainder by 27 -/
noncomputable def vi_orem : vi_O := fun go rs h cnt nty ce sl sg k pc lv st _ _ _ =>
  match st with
  | y :: x :: st => (match vi_rng sg x with
    | some _ => and (Nat.beq y.1 0 && Nat.beq y.2 27) (go 0 ((k, pc + 1, lv, (1, sg.length) :: st) :: rs) h cnt nty ce sl (sg ++ [vi_full]))
    | none => false)
  | _ => false
noncomputable def vi_oget : vi_O := fun go rs h cnt nty ce sl sg k pc lv st a b _ =>
  match st with
  | r :: st => and (and (Nat.beq r.1 2) (Nat.ble (r.2 + 1) cnt)) (match vi_tg 11 h r.2 with
    | .inl o => and (Nat.beq o.1 a) (match vi_nth o.2 (Nat.div b 4) with
      | some v => go 0 ((k, pc + 3, lv, v :: st) :: rs) h cnt nty ce sl sg
      | none => false)
    | .inr _ => false)
  | _ => false
/-- whether a value fits a field of this kind: 0 int, 1 boolean, 2 long, 3 reference -/
noncomputable def vi_fit (ty : Nat) (v : vi_V) : Bool :=
  match ty with
  | 0 => vi_isI v
  | 1 => vi_is01 v
  | 2 => vi_isJ v
  | _ => vi_isA v
noncomputable def vi_oput : vi_O := fun go rs h cnt nty ce sl sg k pc lv st a b _ =>
  match st with
  | v :: r :: st => and (and (Nat.beq r.1 2) (Nat.ble (r.2 + 1) cnt)) (match vi_tg 11 h r.2 with
    | .inl o => and (and (Nat.beq o.1 a) (vi_fit (Nat.mod b 4) v)) (match vi_nth o.2 (Nat.div b 4) with
      | some _ => go 0 ((k, pc + 3, lv, st) :: rs) (vi_tp 11 h r.2 (.inl (o.1, vi_set o.2 (Nat.div b 4) v))) cnt nty ce sl sg
      | none => false)
    | .inr _ => false)
  | _ => false
/-- an array read: the kind of it must be ty (or a row of references, where ty is 4) -/
noncomputable def vi_oald (ty : Nat) : vi_O := fun go rs h cnt nty ce sl sg k pc lv st _ _ _ =>
  match st with
  | i :: r :: st' => (match vi_rng sg i with
    | some ri =>
      bif Nat.beq ri.1 ri.2 then
        (bif Nat.beq r.1 6 then and (Nat.beq ty 0) (and (Nat.ble 2147483648 ri.1) (and (Nat.ble (ri.1 - 2147483648 + 1) r.2) (go 0 ((k, pc + 1, lv, (1, ri.1 - 2147483648) :: st') :: rs) h cnt nty ce sl sg)))
        else and (and (Nat.beq r.1 2) (Nat.ble (r.2 + 1) cnt)) (match vi_tg 11 h r.2 with
          | .inr o => and (or (Nat.beq o.2.1 ty) (and (Nat.beq ty 4) (Nat.ble 4 o.2.1))) (and (Nat.ble 2147483648 ri.1) (and (Nat.ble (ri.1 - 2147483648 + 1) o.2.2.1) (go 0 ((k, pc + 1, lv, vi_tg 14 o.2.2.2 (ri.1 - 2147483648) :: st') :: rs) h cnt nty ce sl sg)))
          | .inl _ => false))
      else and (and (Nat.beq i.1 1) (Nat.ble ri.2 (ri.1 + 64))) (vi_all ri.1 (ri.2 + 1 - ri.1) (fun j => go 0 ((k, pc, lv, st) :: rs) h cnt nty ce sl (vi_set sg i.2 (j, j))))
    | none => false)
  | _ => false
/-- whether a value fits an array of this kind -/
noncomputable def vi_fita (ty : Nat) (h : vi_H) (cnt : Nat) (v : vi_V) : Bool :=
  match ty with
  | 0 => vi_isI v
  | 1 => vi_is01 v
  | 2 => vi_isJ v
  | 3 => vi_isD v
  | c + 4 => and (and (Nat.beq v.1 2) (Nat.ble (v.2 + 1) cnt)) (match vi_tg 11 h v.2 with
    | .inl o => Nat.beq o.1 c
    | .inr _ => false)
noncomputable def vi_oast (ty : Nat) : vi_O := fun go rs h cnt nty ce sl sg k pc lv st _ _ _ =>
  match st with
  | v :: i :: r :: st => (match vi_lit sg i with
    | some j => and (and (Nat.beq r.1 2) (Nat.ble (r.2 + 1) cnt)) (match vi_tg 11 h r.2 with
      | .inr o => and (and (or (Nat.beq o.2.1 ty) (and (Nat.beq ty 4) (Nat.ble 4 o.2.1))) (vi_fita o.2.1 h cnt v)) (and (Nat.ble (j + 1) o.2.2.1)
        (go 0 ((k, pc + 1, lv, st) :: rs) (vi_tp 11 h r.2 (.inr (o.1, o.2.1, o.2.2.1, vi_tp 14 o.2.2.2 j v))) cnt nty ce sl sg))
      | .inl _ => false)
    | none => false)
  | _ => false
noncomputable def vi_olen : vi_O := fun go rs h cnt nty ce sl sg k pc lv st _ _ _ =>
  match st with
  | r :: st => bif Nat.beq r.1 6 then go 0 ((k, pc + 1, lv, (0, r.2) :: st) :: rs) h cnt nty ce sl sg
    else and (and (Nat.beq r.1 2) (Nat.ble (r.2 + 1) cnt)) (match vi_tg 11 h r.2 with
      | .inr o => go 0 ((k, pc + 1, lv, (0, o.2.2.1) :: st) :: rs) h cnt nty ce sl sg
      | .inl _ => false)
  | _ => false
/-- a call: how = 0 by a name (the receiver's class is the method's own), 1 a constructor, 2 static -/
noncomputable def vi_ocall (how : Nat) : vi_O := fun go rs h cnt nty ce sl sg k pc lv st a _ _ =>
  match vi_take (mi a).2.1 st [] with
  | some (vs, st) => and (and (Nat.ble (vi_cat vs) (mi a).2.2.1) (Nat.ble (vi_cat st) 8))
      (and (bif Nat.beq how 2 then true else match vs with
        | r :: _ => and (and (Nat.beq r.1 2) (Nat.ble (r.2 + 1) cnt)) (match vi_tg 11 h r.2 with
          | .inl o => Nat.beq o.1 (mi a).1
          | .inr _ => false)
        | [] => false) (go 0 ((a, 0, vi_pad (mi a).2.2.1 (vi_spread vs), []) :: (k, pc, lv, st) :: rs) h cnt nty ce sl sg))
  | none => false
noncomputable def vi_oobj : vi_O := fun go rs h cnt nty ce sl sg k pc lv st _ _ _ =>
  match st with
  | r :: st => and (and (and (Nat.beq r.1 2) (Nat.ble (r.2 + 1) cnt)) (Nat.ble (vi_cat st) 8)) (go 0 ((k, pc + 3, lv, st) :: rs) h cnt nty ce sl sg)
  | _ => false
noncomputable def vi_omath (f : Nat → Nat → Bool) : vi_O := fun go rs h cnt nty ce sl sg k pc lv st _ _ _ =>
  match st with
  | y :: x :: st => (match vi_lit sg x, vi_lit sg y with
    | some u, some v => and (Nat.ble (vi_cat st) 8) (go 0 ((k, pc + 3, lv, (0, bif f (Nat.mod (u + 2147483648) 4294967296) (Nat.mod (v + 2147483648) 4294967296) then v else u) :: st) :: rs) h cnt nty ce sl sg)
    | _, _ => false)
  | _ => false
noncomputable def vi_cpy (t s : vi_Tr vi_V 14) (sp dp n : Nat) : vi_Tr vi_V 14 := Nat.rec (motive := fun _ => vi_Tr vi_V 14) t (fun i u => vi_tp 14 u (dp + i) (vi_tg 14 s (sp + i))) n
noncomputable def vi_ocopy : vi_O := fun go rs h cnt nty ce sl sg k pc lv st _ _ _ =>
  match st with
  | n :: dp :: d :: sp :: s :: st => (match vi_lit sg n, vi_lit sg dp, vi_lit sg sp with
    | some n, some dp, some sp => and (and (and (Nat.beq d.1 2) (Nat.ble (d.2 + 1) cnt)) (and (Nat.beq s.1 2) (Nat.ble (s.2 + 1) cnt))) (match vi_tg 11 h s.2, vi_tg 11 h d.2 with
      | .inr o, .inr u => and (and (and (Nat.beq o.2.1 0) (Nat.beq u.2.1 0)) (and (Nat.ble (sp + n) o.2.2.1) (Nat.ble (dp + n) u.2.2.1))) (and (and (Nat.ble (vi_cat st) 8) (and (Nat.ble o.2.2.1 16384) (Nat.ble u.2.2.1 16384)))
        (go 0 ((k, pc + 3, lv, st) :: rs) (vi_tp 11 h d.2 (.inr (u.1, u.2.1, u.2.2.1, vi_cpy u.2.2.2 o.2.2.2 sp dp n))) cnt nty ce sl sg))
      | _, _ => false)
    | _, _, _ => false)
  | _ => false
noncomputable def vi_onew : vi_O := fun go rs h cnt nty ce sl sg k pc lv st a _ _ =>
  and (Nat.ble (cnt + 1) 2048) (go 0 ((k, pc + 3, lv, (2, cnt) :: st) :: rs) (vi_tp 11 h cnt (.inl (a, nf a))) (cnt + 1) nty (ce + 1) (sl + (nf a).length) sg)
noncomputable def vi_dfl (ty : Nat) : vi_V := match ty with
  | 0 => (0, 0)
  | 1 => (0, 0)
  | 2 => (4, 0)
  | 3 => (8, 0)
  | _ => (3, 0)
noncomputable def vi_onewa (ref : Bool) : vi_O := fun go rs h cnt nty ce sl sg k pc lv st a _ _ =>
  match st with
  | n :: st => (match vi_lit sg n with
    | some n => and (and (Nat.ble n 16384) (or ref (Nat.ble (a + 1) 4))) (and (Nat.ble (cnt + 1) 2048)
        (go 0 ((k, pc + (bif ref then 3 else 2), lv, (2, cnt) :: st) :: rs) (vi_tp 11 h cnt (.inr (nty, (bif ref then a + 4 else a), n, vi_tf 14 (vi_dfl (bif ref then a + 4 else a))))) (cnt + 1) (nty + 1) (ce + 1) (sl + n) sg))
    | none => false)
  | _ => false
noncomputable def vi_othrow : vi_O := fun go rs h cnt nty ce sl sg _ _ _ st a _ _ =>
  and (Nat.ble (vi_cat st) 8) (go (a + 1) rs h cnt nty (ce + 1) (sl + 6) sg)
noncomputable def vi_odup : vi_O := fun go rs h cnt nty ce sl sg k pc lv st _ _ _ =>
  match st with
  | v :: st => and (not (vi_two v)) (go 0 ((k, pc + 1, lv, v :: v :: st) :: rs) h cnt nty ce sl sg)
  | _ => false
noncomputable def vi_opop : vi_O := fun go rs h cnt nty ce sl sg k pc lv st _ _ _ =>
  match st with
  | v :: st => and (not (vi_two v)) (go 0 ((k, pc + 1, lv, st) :: rs) h cnt nty ce sl sg)
  | _ => false
noncomputable def vi_odupx : vi_O := fun go rs h cnt nty ce sl sg k pc lv st _ _ _ =>
  match st with
  | v :: w :: st => and (and (not (vi_two v)) (not (vi_two w))) (go 0 ((k, pc + 1, lv, v :: w :: v :: st) :: rs) h cnt nty ce sl sg)
  | _ => false
noncomputable def vi_odup2 : vi_O := fun go rs h cnt nty ce sl sg k pc lv st _ _ _ =>
  match st with
  | v :: w :: st => and (and (not (vi_two v)) (not (vi_two w))) (go 0 ((k, pc + 1, lv, v :: w :: v :: w :: st) :: rs) h cnt nty ce sl sg)
  | _ => false
/-- whether a value fits an answer of this kind -/
noncomputable def vi_fitr (cnt ty : Nat) (v : vi_V) : Bool :=
  match ty with
  | 1 => vi_isI v
  | 2 => vi_is01 v
  | 3 => vi_isJ v
  | 4 => vi_isD v
  | 5 => or (and (Nat.beq v.1 2) (Nat.ble (v.2 + 1) cnt)) (Nat.beq v.1 3)
  | _ => false
noncomputable def vi_oret : vi_O := fun go rs h cnt nty ce sl sg k _ _ st _ _ _ =>
  match st with
  | [v] => and (vi_fitr cnt (mi k).2.2.2.1 v) (match rs with
    | [] => and (and (Nat.beq v.1 0) (Nat.beq v.2 1)) (and (Nat.ble ce cmax) (Nat.ble sl smax))
    | (k, pc, lv, st) :: rs => go 0 ((k, pc + 3, lv, v :: st) :: rs) h cnt nty ce sl sg)
  | _ => false
noncomputable def vi_ovret : vi_O := fun go rs h cnt nty ce sl sg k _ _ st _ _ _ =>
  match st with
  | [] => and (Nat.beq (mi k).2.2.2.1 0) (match rs with
    | [] => false
    | (k, pc, lv, st) :: rs => go 0 ((k, pc + 3, lv, st) :: rs) h cnt nty ce sl sg)
  | _ => false
noncomputable def vi_oi2l : vi_O := fun go rs h cnt nty ce sl sg k pc lv st _ _ _ =>
  match st with
  | v :: st => (match vi_lit sg v with
    | some u => go 0 ((k, pc + 1, lv, (4, bif Nat.ble u 2147483647 then u else u + 18446744069414584320) :: st) :: rs) h cnt nty ce sl sg
    | none => false)
  | _ => false
noncomputable def vi_olong (f : Nat → Nat → vi_V) : vi_O := fun go rs h cnt nty ce sl sg k pc lv st _ _ _ =>
  match st with
  | y :: x :: st => and (and (Nat.beq x.1 4) (Nat.beq y.1 4)) (go 0 ((k, pc + 1, lv, f x.2 y.2 :: st) :: rs) h cnt nty ce sl sg)
  | _ => false
noncomputable def vi_oladd : vi_O := vi_olong (fun a b => (4, Nat.mod (a + b) 18446744073709551616))
noncomputable def vi_olmul : vi_O := vi_olong (fun a b => (4, Nat.mod (a * b) 18446744073709551616))
/-- a comparison of longs: only whether they are the same is known -/
noncomputable def vi_olcmp : vi_O := fun go rs h cnt nty ce sl sg k pc lv st _ _ _ =>
  match st with
  | y :: x :: st => and (and (Nat.beq x.1 4) (Nat.beq y.1 4)) (and (Nat.beq x.2 y.2) (go 0 ((k, pc + 1, lv, (0, 0) :: st) :: rs) h cnt nty ce sl sg))
  | _ => false
noncomputable def vi_olcon : vi_O := fun go rs h cnt nty ce sl sg k pc lv st a b _ => go 0 ((k, pc + (bif Nat.beq b 0 then 1 else 3), lv, (4, a) :: st) :: rs) h cnt nty ce sl sg
noncomputable def vi_odcon : vi_O := fun go rs h cnt nty ce sl sg k pc lv st _ _ _ => go 0 ((k, pc + 1, lv, (8, 0) :: st) :: rs) h cnt nty ce sl sg
noncomputable def vi_odcmp : vi_O := fun go rs h cnt nty ce sl sg k pc lv st _ _ _ =>
  match st with
  | y :: x :: st => and (and (Nat.beq x.1 8) (Nat.beq y.1 8)) (go 0 ((k, pc + 1, lv, (0, 0) :: st) :: rs) h cnt nty ce sl sg)
  | _ => false
noncomputable def vi_oenum : vi_O := fun go rs h cnt nty ce sl sg k pc lv st a _ _ => and (Nat.ble (a + 1) 5) (go 0 ((k, pc + 3, lv, (7, a) :: st) :: rs) h cnt nty ce sl sg)
noncomputable def vi_oacmp : vi_O := fun go rs h cnt nty ce sl sg k pc lv st a _ _ =>
  match st with
  | y :: x :: st => and (and (Nat.beq x.1 7) (Nat.beq y.1 7)) (go 0 ((k, (bif Nat.beq x.2 y.2 then pc + 3 else a), lv, st) :: rs) h cnt nty ce sl sg)
  | _ => false
noncomputable def vi_onull (is : Bool) : vi_O := fun go rs h cnt nty ce sl sg k pc lv st a _ _ =>
  match st with
  | r :: st => and (or (Nat.beq r.1 2) (Nat.beq r.1 3)) (go 0 ((k, (bif (bif is then Nat.beq r.1 3 else Nat.beq r.1 2) then a else pc + 3), lv, st) :: rs) h cnt nty ce sl sg)
  | _ => false
noncomputable def vi_onil : vi_O := fun go rs h cnt nty ce sl sg k pc lv st _ _ _ => go 0 ((k, pc + 1, lv, (3, 0) :: st) :: rs) h cnt nty ce sl sg
noncomputable def vi_oswitch : vi_O := fun go rs h cnt nty ce sl sg k _ lv st _ _ _ =>
  match st with
  | v :: st => and (Nat.beq v.1 1) (match vi_nth sg v.2 with
    | some r => and (and (Nat.ble 2147483648 r.1) (Nat.ble r.2 2147483711)) (vi_all r.1 (r.2 + 1 - r.1) (fun j => go 0 ((k, (match vi_nth ts (j - 2147483648) with | some t => t | none => td), lv, st) :: rs) h cnt nty ce sl (vi_set sg v.2 (j, j))))
    | none => false)
  | _ => false
noncomputable def vi_ono : vi_O := fun _ _ _ _ _ _ _ _ _ _ _ _ _ _ _ => false
noncomputable def vi_op (op : Nat) : vi_O := match op with
  | 0 => vi_oload vi_isI
  | 1 => vi_oload vi_isA
  | 2 => vi_oconst
  | 3 => vi_ostore vi_isI
  | 4 => vi_ostore vi_isA
  | 5 => vi_ogoto
  | 6 => vi_oinc
  | 7 => vi_oif
  | 8 => vi_oicmp
  | 9 => vi_oadd
  | 10 => vi_osub
  | 11 => vi_omul
  | 12 => vi_oand
  | 13 => vi_orem
  | 14 => vi_oget
  | 15 => vi_oput
  | 16 => vi_oald 0
  | 17 => vi_oast 0
  | 18 => vi_oald 1
  | 19 => vi_oast 1
  | 20 => vi_oald 4
  | 21 => vi_oast 4
  | 22 => vi_oald 2
  | 23 => vi_oast 2
  | 24 => vi_oald 3
  | 25 => vi_oast 3
  | 26 => vi_olen
  | 27 => vi_ocall mi 0
  | 28 => vi_ocall mi 1
  | 29 => vi_ocall mi 2
  | 30 => vi_oobj
  | 31 => vi_omath (fun x y => Nat.ble (x + 1) y)
  | 32 => vi_omath (fun x y => Nat.ble (y + 1) x)
  | 33 => vi_ocopy
  | 34 => vi_onew nf
  | 35 => vi_othrow
  | 36 => vi_onewa false
  | 37 => vi_onewa true
  | 38 => vi_odup
  | 39 => vi_opop
  | 40 => vi_odupx
  | 41 => vi_odup2
  | 42 => vi_oret mi cmax smax
  | 43 => vi_ovret mi
  | 44 => vi_oret mi cmax smax
  | 45 => vi_oret mi cmax smax
  | 46 => vi_oret mi cmax smax
  | 47 => vi_oi2l
  | 48 => vi_oladd
  | 49 => vi_olmul
  | 50 => vi_olcmp
  | 51 => vi_olcon
  | 52 => vi_oload vi_isJ
  | 53 => vi_ostore vi_isJ
  | 54 => vi_odcon
  | 55 => vi_oload vi_isD
  | 56 => vi_ostore vi_isD
  | 57 => vi_odcmp
  | 58 => vi_oenum
  | 59 => vi_oacmp
  | 60 => vi_onull true
  | 61 => vi_onull false
  | 62 => vi_onil
  | 63 => vi_oswitch ts td
  | _ => vi_ono
/-- the operations, for the kernel: in a tree -/
noncomputable def vi_opT : vi_Tr vi_O 6 := ((((((vi_oload vi_isI, vi_omath (fun x y => Nat.ble (y + 1) x)), (vi_oald 0, vi_oladd)), ((vi_oicmp, vi_odupx), (vi_oald 3, vi_ostore vi_isD))), (((vi_ostore vi_isA, vi_onewa false), (vi_oald 4, vi_oload vi_isJ)), ((vi_oand, vi_oret mi cmax smax), (vi_ocall mi 1, vi_onull true)))), ((((vi_oconst, vi_onew nf), (vi_oald 1, vi_olcmp)), ((vi_osub, vi_oret mi cmax smax), (vi_olen, vi_oenum))), (((vi_oinc, vi_odup), (vi_oald 2, vi_odcon)), ((vi_oget, vi_oret mi cmax smax), (vi_oobj, vi_onil))))), (((((vi_oload vi_isA, vi_ocopy), (vi_oast 0, vi_olmul)), ((vi_oadd, vi_odup2), (vi_oast 3, vi_odcmp))), (((vi_ogoto, vi_onewa true), (vi_oast 4, vi_ostore vi_isJ)), ((vi_orem, vi_oret mi cmax smax), (vi_ocall mi 2, vi_onull false)))), ((((vi_ostore vi_isI, vi_othrow), (vi_oast 1, vi_olcon)), ((vi_omul, vi_ovret mi), (vi_ocall mi 0, vi_oacmp))), (((vi_oif, vi_opop), (vi_oast 2, vi_oload vi_isD)), ((vi_oput, vi_oi2l), (vi_omath (fun x y => Nat.ble (x + 1) y), vi_oswitch ts td))))))
variable (code : Nat → Nat → vi_E)
/-- which handler takes the exception e thrown at pc -/
noncomputable def vi_hand (hs : List (Nat × Nat × Nat × Nat)) (pc e : Nat) : Option Nat := List.rec (motive := fun _ => Option Nat) none (fun q _ ih => bif and (and (Nat.ble q.1 pc) (Nat.ble (pc + 1) q.2.1)) (Nat.beq q.2.2.2 e) then some q.2.2.1 else ih) hs
noncomputable def vi_step (go : vi_K) : vi_K := fun x fs h cnt nty ce sl sg =>
  match fs with
  | [] => false
  | (k, pc, lv, st) :: rs =>
    match x with
    | 0 => bif Nat.ble (code k pc).1 63 then vi_tg 6 (vi_opT mi nf ts td cmax smax) (code k pc).1 go rs h cnt nty ce sl sg k pc lv st (code k pc).2.1 (code k pc).2.2.1 (code k pc).2.2.2 else false
    | e + 1 => and (not (Nat.beq (code k pc).1 28)) (match (mi k).2.2.2.2.2.2 with
      | [] => go (e + 1) rs h cnt nty ce sl sg
      | q :: hs => (match vi_hand (q :: hs) pc e with
        | some t => and (Nat.beq (code k t).1 4) (go 0 ((k, t + (code k t).2.2.1, vi_lclr lv (code k t).2.1, []) :: rs) h cnt nty ce sl sg)
        | none => false))
noncomputable def vi_run (n : Nat) : vi_K := Nat.rec (motive := fun _ => vi_K) (fun _ _ _ _ _ _ _ _ => false) (fun _ go => vi_step mi nf ts td cmax smax code go) n
end
end VI
