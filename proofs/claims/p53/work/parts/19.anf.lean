/-! ===== a new object's fields, as the abstract walker sees them ===== -/
section VT2
def vt_anf : Nat → List (Nat × Nat) := fun c => match c with
  | 0 => [(nat_lit 3, nat_lit 0), (nat_lit 3, nat_lit 0), (nat_lit 0, nat_lit 0), (nat_lit 3, nat_lit 0), (nat_lit 3, nat_lit 0), (nat_lit 3, nat_lit 0)]
  | 1 => [(nat_lit 0, nat_lit 0), (nat_lit 0, nat_lit 0), (nat_lit 3, nat_lit 0), (nat_lit 3, nat_lit 0), (nat_lit 3, nat_lit 0), (nat_lit 3, nat_lit 0), (nat_lit 3, nat_lit 0)]
  | 2 => [(nat_lit 0, nat_lit 0), (nat_lit 3, nat_lit 0), (nat_lit 0, nat_lit 0), (nat_lit 0, nat_lit 0), (nat_lit 0, nat_lit 0), (nat_lit 0, nat_lit 0), (nat_lit 0, nat_lit 0), (nat_lit 0, nat_lit 0), (nat_lit 0, nat_lit 0), (nat_lit 3, nat_lit 0), (nat_lit 3, nat_lit 0)]
  | 3 => [(nat_lit 3, nat_lit 0), (nat_lit 0, nat_lit 0)]
  | 4 => [(nat_lit 3, nat_lit 0), (nat_lit 3, nat_lit 0), (nat_lit 3, nat_lit 0), (nat_lit 3, nat_lit 0), (nat_lit 3, nat_lit 0), (nat_lit 3, nat_lit 0), (nat_lit 3, nat_lit 0)]
  | 5 => [(nat_lit 3, nat_lit 0), (nat_lit 3, nat_lit 0), (nat_lit 3, nat_lit 0), (nat_lit 3, nat_lit 0), (nat_lit 3, nat_lit 0), (nat_lit 3, nat_lit 0), (nat_lit 3, nat_lit 0), (nat_lit 3, nat_lit 0), (nat_lit 3, nat_lit 0), (nat_lit 3, nat_lit 0), (nat_lit 0, nat_lit 0)]
  | _ => []
end VT2
