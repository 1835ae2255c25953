/-! ===== the start: what the walker's heap holds once the object is made ===== -/
section VW32
def vs_L0 (k : Nat) : Nat := if k = 1 then 6 else if k = 9 then 36 else 0
def vs_o (c : vi_C) (ci : Nat) (l : List vi_V) : Bool := match c with
  | .inl o => and (Nat.beq o.1 ci) (decide (o.2 = l))
  | .inr _ => false
noncomputable def vs_a (c : vi_C) (ty n m : Nat) (v : Nat → vi_V) : Bool := match c with
  | .inr o => and (Nat.beq o.2.1 ty) (and (Nat.beq o.2.2.1 n) (vi_all 0 m (fun j => decide (vi_tg 14 o.2.2.2 j = v j))))
  | .inl _ => false
def vs_fd (d : Nat) : List vi_V := [(0, if d = 120 then 4294967295 else d), (7, 0), (0, 4294967295), (0, 0), (0, 0), (0, 4294967295), (0, 4294967295), (0, 0), (0, 0), (2, vw_rr 5 d - 8), (2, vw_rr 6 d - 8)]
def vs_fc (i : Nat) : List vi_V := [(0, if i = 0 then 1 else 0), (0, 4294967295), (2, vw_rr 0 i - 8), (2, vw_rr 1 i - 8), (2, vw_rr 2 i - 8), (2, vw_rr 3 i - 8), (2, vw_rr 4 i - 8)]
def vs_fv (i : Nat) : List vi_V := [(2, vw_rr 15 i - 8), (2, vw_rr 16 i - 8), (2, vw_rr 17 i - 8), (2, vw_rr 18 i - 8), (2, vw_rr 19 i - 8), (2, vw_rr 20 i - 8), (2, vw_rr 21 i - 8)]
def vs_fm : List vi_V := [(2, 1), (2, 614), (2, 615), (2, 616), (2, 618), (2, 620), (2, vw_rr 10 0 - 8), (2, vw_vr 0 - 8), (2, vw_vr 1 - 8), (2, vw_rr 11 0 - 8), (0, 1)]
def vs_fh : List vi_V := [(2, 2), (2, vw_dr 120 - 8), (0, 0), (2, vw_rr 12 0 - 8), (2, vw_rr 13 0 - 8), (2, vw_rr 14 0 - 8)]
noncomputable def vs_ck (h : vi_H) : Bool :=
  and (vi_all 0 22 (fun k => vi_all 0 (vw_num k) (fun i => and (vs_o (vi_tg 11 h (vw_rr k i - 8)) 3 [(2, vw_rr k i - 7), (0, vs_L0 k)]) (vs_a (vi_tg 11 h (vw_rr k i - 7)) 0 (vw_cap k) (vs_L0 k) (fun _ => (0, 0))))))
  (and (vi_all 0 121 (fun d => vs_o (vi_tg 11 h (vw_dr d - 8)) 2 (vs_fd d)))
  (and (vi_all 0 6 (fun i => vs_o (vi_tg 11 h (vw_cr i - 8)) 1 (vs_fc i)))
  (and (vi_all 0 2 (fun i => vs_o (vi_tg 11 h (vw_vr i - 8)) 4 (vs_fv i)))
  (and (vs_o (vi_tg 11 h 0) 5 vs_fm) (and (vs_o (vi_tg 11 h 1) 0 vs_fh)
  (and (vs_a (vi_tg 11 h 2) 6 120 120 (fun d => (2, vw_dr d - 8)))
  (and (vs_a (vi_tg 11 h 614) 5 6 6 (fun i => (2, vw_cr i - 8))) (vs_a (vi_tg 11 h 615) 7 36 36 (fun i => (2, vw_rr 7 i - 8))))))))))
noncomputable def vs_go0 : vi_K := fun x fs h cnt _ ce sl _ => and (Nat.beq x 0) (match fs with
  | [f] => and (Nat.beq f.1 128) (and (Nat.beq f.2.1 7) (and (decide (f.2.2.1 = [some (9, 0), none, none, none, none, none, none, none])) (and (decide (f.2.2.2 = [(2, 0)])) (and (Nat.beq cnt 803) (and (Nat.ble ce 600086) (and (Nat.ble sl 7301442) (vs_ck h)))))))
  | _ => false)
noncomputable def vs_sg : vi_G := [(0, 4294967295), (0, 4294967295), (0, 4294967295), (0, 4294967295), (0, 4294967295), (0, 4294967295), (0, 4294967295)]
set_option maxRecDepth 100000 in
theorem vs_walk : vi_runB 600086 7301442 vs_go0 13452 0 [(128, 0, [some (9, 0), none, none, none, none, none, none, none], [])] (vi_tf 11 (.inl (0, []))) 0 0 0 0 vs_sg = true := by decide +kernel
end VW32
