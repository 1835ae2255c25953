/-! ===== what the tables say, held against the decoder and the words, by a count ===== -/
section VC
def vs_np : Nat := nat_lit 30
def vs_GW : List Cond := lw_tbl.filter goodWord
noncomputable def vi_ev {α : Type} (l : List α) : List α × List α := List.rec (motive := fun _ => List α × List α) ([], []) (fun x _ ih => (x :: ih.2, ih.1)) l
noncomputable def vi_bd {α : Type} (d : α) (n : Nat) : List α → vi_Tr α n := Nat.rec (motive := fun n => List α → vi_Tr α n) (fun l => match l with | [] => d | x :: _ => x) (fun n ih l => @Prod.mk (vi_Tr α n) (vi_Tr α n) (ih (vi_ev l).1) (ih (vi_ev l).2)) n
theorem vi_ev_at {α : Type} (l : List α) : ∀ i : Nat, (vi_ev l).1[i]? = l[2 * i]? ∧ (vi_ev l).2[i]? = l[2 * i + 1]? := by
  induction l with
  | nil => intro i; exact ⟨by simp [vi_ev], by simp [vi_ev]⟩
  | cons x l ih =>
    intro i
    refine ⟨?_, ?_⟩
    · show (x :: (vi_ev l).2)[i]? = _
      cases i with
      | zero => rfl
      | succ i =>
        rw [List.getElem?_cons_succ, (ih i).2, show 2 * (i + 1) = (2 * i + 1) + 1 by omega, List.getElem?_cons_succ]
    · show (vi_ev l).1[i]? = _
      rw [(ih i).1, List.getElem?_cons_succ]
theorem vi_bd_at {α : Type} (d : α) (n : Nat) : ∀ (l : List α) (i : Nat), i < 2 ^ n → vi_tg n (vi_bd d n l) i = (l[i]?).getD d := by
  induction n with
  | zero =>
    intro l i hi
    rw [show i = 0 by simp at hi; exact hi]
    cases l <;> rfl
  | succ n ih =>
    intro l i hi
    have e : 2 ^ (n + 1) = 2 * 2 ^ n := by rw [Nat.pow_succ]; omega
    rw [vb_tg_s]
    by_cases h : i % 2 = 0
    · rw [if_pos h]
      have h2 := ih (vi_ev l).1 (i / 2) (by omega)
      rw [(vi_ev_at l _).1, show 2 * (i / 2) = i by omega] at h2
      exact h2
    · rw [if_neg h]
      have h2 := ih (vi_ev l).2 (i / 2) (by omega)
      rw [(vi_ev_at l _).2, show 2 * (i / 2) + 1 = i by omega] at h2
      exact h2
noncomputable def vs_wT : vi_Tr Cond 11 := vi_bd .tt 11 lw_tbl
/-- a word, by its place -/
noncomputable def vs_wa (i : Nat) : Cond := bif Nat.ble (i + 1) 2048 then vi_tg 11 vs_wT i else .tt
theorem vs_wa_mem {i : Nat} {w : Cond} (h : vs_wa i = w) (hw : w ≠ .tt) : w ∈ lw_tbl := by
  unfold vs_wa at h
  by_cases hi : i + 1 ≤ 2048
  · rw [Nat.ble_eq_true_of_le hi] at h
    have h1 : vi_tg 11 vs_wT i = w := h
    unfold vs_wT at h1
    rw [vi_bd_at _ _ _ _ (by omega)] at h1
    cases hg : lw_tbl[i]? with
    | none => rw [hg] at h1; exact absurd h1.symm hw
    | some y => rw [hg] at h1; exact h1 ▸ List.mem_of_getElem? hg
  · have e : Nat.ble (i + 1) 2048 = false := by
      cases hb : Nat.ble (i + 1) 2048 with
      | false => rfl
      | true => exact absurd (Nat.le_of_ble_eq_true hb) hi
    rw [e] at h
    exact absurd h.symm hw
def vs_mwL : List (Nat × Nat × Nat × Nat × Nat) := [(nat_lit 58, nat_lit 32, nat_lit 2, nat_lit 57, nat_lit 0), (nat_lit 517, nat_lit 32, nat_lit 1, nat_lit 515, nat_lit 516), (nat_lit 537, nat_lit 32, nat_lit 1, nat_lit 535, nat_lit 536), (nat_lit 430, nat_lit 32, nat_lit 1, nat_lit 428, nat_lit 429), (nat_lit 724, nat_lit 32, nat_lit 1, nat_lit 722, nat_lit 723), (nat_lit 580, nat_lit 32, nat_lit 1, nat_lit 578, nat_lit 579), (nat_lit 561, nat_lit 32, nat_lit 1, nat_lit 559, nat_lit 560), (nat_lit 737, nat_lit 32, nat_lit 1, nat_lit 735, nat_lit 736), (nat_lit 614, nat_lit 32, nat_lit 1, nat_lit 612, nat_lit 613), (nat_lit 174, nat_lit 38, nat_lit 2, nat_lit 173, nat_lit 0), (nat_lit 837, nat_lit 38, nat_lit 1, nat_lit 835, nat_lit 836), (nat_lit 434, nat_lit 38, nat_lit 1, nat_lit 432, nat_lit 433), (nat_lit 442, nat_lit 38, nat_lit 1, nat_lit 440, nat_lit 441), (nat_lit 495, nat_lit 38, nat_lit 1, nat_lit 493, nat_lit 494), (nat_lit 728, nat_lit 38, nat_lit 1, nat_lit 726, nat_lit 727), (nat_lit 651, nat_lit 38, nat_lit 1, nat_lit 649, nat_lit 650), (nat_lit 454, nat_lit 38, nat_lit 1, nat_lit 452, nat_lit 453), (nat_lit 752, nat_lit 38, nat_lit 1, nat_lit 750, nat_lit 751), (nat_lit 417, nat_lit 38, nat_lit 1, nat_lit 415, nat_lit 416), (nat_lit 426, nat_lit 38, nat_lit 1, nat_lit 424, nat_lit 425), (nat_lit 462, nat_lit 38, nat_lit 1, nat_lit 461, nat_lit 5), (nat_lit 466, nat_lit 38, nat_lit 1, nat_lit 465, nat_lit 6), (nat_lit 620, nat_lit 38, nat_lit 1, nat_lit 618, nat_lit 619), (nat_lit 65, nat_lit 33, nat_lit 2, nat_lit 64, nat_lit 0), (nat_lit 549, nat_lit 33, nat_lit 1, nat_lit 547, nat_lit 548), (nat_lit 73, nat_lit 36, nat_lit 2, nat_lit 72, nat_lit 0), (nat_lit 421, nat_lit 36, nat_lit 1, nat_lit 419, nat_lit 420), (nat_lit 397, nat_lit 36, nat_lit 1, nat_lit 395, nat_lit 396), (nat_lit 458, nat_lit 36, nat_lit 1, nat_lit 456, nat_lit 457), (nat_lit 446, nat_lit 36, nat_lit 1, nat_lit 444, nat_lit 445), (nat_lit 450, nat_lit 36, nat_lit 1, nat_lit 448, nat_lit 449), (nat_lit 470, nat_lit 36, nat_lit 1, nat_lit 468, nat_lit 469), (nat_lit 557, nat_lit 36, nat_lit 1, nat_lit 555, nat_lit 556), (nat_lit 181, nat_lit 36, nat_lit 1, nat_lit 179, nat_lit 180), (nat_lit 732, nat_lit 36, nat_lit 1, nat_lit 730, nat_lit 731), (nat_lit 602, nat_lit 36, nat_lit 1, nat_lit 600, nat_lit 601), (nat_lit 438, nat_lit 36, nat_lit 1, nat_lit 436, nat_lit 437), (nat_lit 218, nat_lit 39, nat_lit 2, nat_lit 217, nat_lit 0), (nat_lit 513, nat_lit 39, nat_lit 1, nat_lit 511, nat_lit 512), (nat_lit 524, nat_lit 39, nat_lit 1, nat_lit 523, nat_lit 8), (nat_lit 533, nat_lit 39, nat_lit 1, nat_lit 532, nat_lit 9), (nat_lit 545, nat_lit 39, nat_lit 1, nat_lit 544, nat_lit 10), (nat_lit 553, nat_lit 39, nat_lit 1, nat_lit 552, nat_lit 11), (nat_lit 643, nat_lit 39, nat_lit 1, nat_lit 641, nat_lit 642), (nat_lit 711, nat_lit 39, nat_lit 1, nat_lit 709, nat_lit 710), (nat_lit 639, nat_lit 39, nat_lit 1, nat_lit 637, nat_lit 638), (nat_lit 589, nat_lit 39, nat_lit 1, nat_lit 587, nat_lit 588), (nat_lit 585, nat_lit 39, nat_lit 1, nat_lit 583, nat_lit 584), (nat_lit 781, nat_lit 39, nat_lit 1, nat_lit 779, nat_lit 780), (nat_lit 50, nat_lit 31, nat_lit 2, nat_lit 49, nat_lit 0), (nat_lit 694, nat_lit 31, nat_lit 1, nat_lit 692, nat_lit 693), (nat_lit 757, nat_lit 31, nat_lit 1, nat_lit 755, nat_lit 756), (nat_lit 762, nat_lit 31, nat_lit 1, nat_lit 760, nat_lit 761), (nat_lit 774, nat_lit 31, nat_lit 1, nat_lit 772, nat_lit 773), (nat_lit 789, nat_lit 31, nat_lit 1, nat_lit 787, nat_lit 788), (nat_lit 804, nat_lit 31, nat_lit 1, nat_lit 802, nat_lit 803), (nat_lit 810, nat_lit 31, nat_lit 1, nat_lit 808, nat_lit 809), (nat_lit 818, nat_lit 31, nat_lit 1, nat_lit 816, nat_lit 817), (nat_lit 827, nat_lit 31, nat_lit 1, nat_lit 825, nat_lit 826), (nat_lit 284, nat_lit 31, nat_lit 1, nat_lit 282, nat_lit 283), (nat_lit 474, nat_lit 31, nat_lit 1, nat_lit 472, nat_lit 473), (nat_lit 832, nat_lit 31, nat_lit 1, nat_lit 830, nat_lit 831), (nat_lit 842, nat_lit 31, nat_lit 1, nat_lit 840, nat_lit 841), (nat_lit 479, nat_lit 31, nat_lit 1, nat_lit 477, nat_lit 478), (nat_lit 483, nat_lit 31, nat_lit 1, nat_lit 481, nat_lit 482), (nat_lit 690, nat_lit 31, nat_lit 1, nat_lit 688, nat_lit 689), (nat_lit 878, nat_lit 31, nat_lit 1, nat_lit 876, nat_lit 877), (nat_lit 898, nat_lit 31, nat_lit 1, nat_lit 896, nat_lit 897), (nat_lit 874, nat_lit 31, nat_lit 1, nat_lit 872, nat_lit 873), (nat_lit 814, nat_lit 31, nat_lit 1, nat_lit 812, nat_lit 813), (nat_lit 487, nat_lit 31, nat_lit 1, nat_lit 485, nat_lit 486), (nat_lit 491, nat_lit 31, nat_lit 1, nat_lit 489, nat_lit 490), (nat_lit 500, nat_lit 31, nat_lit 1, nat_lit 498, nat_lit 499), (nat_lit 785, nat_lit 31, nat_lit 1, nat_lit 783, nat_lit 784), (nat_lit 800, nat_lit 31, nat_lit 1, nat_lit 798, nat_lit 799), (nat_lit 902, nat_lit 31, nat_lit 1, nat_lit 900, nat_lit 901), (nat_lit 882, nat_lit 31, nat_lit 1, nat_lit 880, nat_lit 881), (nat_lit 504, nat_lit 31, nat_lit 1, nat_lit 502, nat_lit 503), (nat_lit 854, nat_lit 31, nat_lit 1, nat_lit 852, nat_lit 853), (nat_lit 863, nat_lit 31, nat_lit 1, nat_lit 861, nat_lit 862), (nat_lit 870, nat_lit 31, nat_lit 1, nat_lit 868, nat_lit 869), (nat_lit 858, nat_lit 31, nat_lit 1, nat_lit 856, nat_lit 857), (nat_lit 906, nat_lit 31, nat_lit 1, nat_lit 904, nat_lit 905), (nat_lit 886, nat_lit 31, nat_lit 1, nat_lit 884, nat_lit 885), (nat_lit 890, nat_lit 31, nat_lit 1, nat_lit 888, nat_lit 889), (nat_lit 917, nat_lit 31, nat_lit 1, nat_lit 915, nat_lit 916), (nat_lit 568, nat_lit 31, nat_lit 1, nat_lit 566, nat_lit 567), (nat_lit 593, nat_lit 31, nat_lit 1, nat_lit 591, nat_lit 592), (nat_lit 894, nat_lit 31, nat_lit 1, nat_lit 892, nat_lit 893), (nat_lit 610, nat_lit 31, nat_lit 1, nat_lit 608, nat_lit 609), (nat_lit 624, nat_lit 31, nat_lit 1, nat_lit 622, nat_lit 623), (nat_lit 288, nat_lit 31, nat_lit 1, nat_lit 287, nat_lit 0), (nat_lit 292, nat_lit 31, nat_lit 1, nat_lit 291, nat_lit 1), (nat_lit 364, nat_lit 31, nat_lit 0, nat_lit 363, nat_lit 0), (nat_lit 821, nat_lit 31, nat_lit 0, nat_lit 820, nat_lit 0), (nat_lit 384, nat_lit 31, nat_lit 1, nat_lit 383, nat_lit 3), (nat_lit 706, nat_lit 31, nat_lit 1, nat_lit 705, nat_lit 22), (nat_lit 697, nat_lit 31, nat_lit 0, nat_lit 696, nat_lit 0), (nat_lit 701, nat_lit 31, nat_lit 0, nat_lit 700, nat_lit 0), (nat_lit 765, nat_lit 31, nat_lit 0, nat_lit 764, nat_lit 0), (nat_lit 866, nat_lit 31, nat_lit 0, nat_lit 865, nat_lit 0), (nat_lit 720, nat_lit 31, nat_lit 1, nat_lit 719, nat_lit 24), (nat_lit 745, nat_lit 31, nat_lit 1, nat_lit 744, nat_lit 25), (nat_lit 715, nat_lit 31, nat_lit 1, nat_lit 714, nat_lit 23), (nat_lit 770, nat_lit 31, nat_lit 0, nat_lit 769, nat_lit 0), (nat_lit 795, nat_lit 31, nat_lit 1, nat_lit 794, nat_lit 26), (nat_lit 672, nat_lit 31, nat_lit 1, nat_lit 671, nat_lit 21), (nat_lit 391, nat_lit 31, nat_lit 0, nat_lit 390, nat_lit 0), (nat_lit 388, nat_lit 31, nat_lit 1, nat_lit 387, nat_lit 4), (nat_lit 846, nat_lit 31, nat_lit 1, nat_lit 845, nat_lit 27), (nat_lit 508, nat_lit 31, nat_lit 1, nat_lit 507, nat_lit 7), (nat_lit 572, nat_lit 31, nat_lit 1, nat_lit 571, nat_lit 12), (nat_lit 910, nat_lit 31, nat_lit 1, nat_lit 909, nat_lit 28), (nat_lit 597, nat_lit 31, nat_lit 1, nat_lit 596, nat_lit 14), (nat_lit 647, nat_lit 31, nat_lit 1, nat_lit 646, nat_lit 16), (nat_lit 663, nat_lit 31, nat_lit 1, nat_lit 662, nat_lit 19), (nat_lit 659, nat_lit 31, nat_lit 1, nat_lit 658, nat_lit 18), (nat_lit 921, nat_lit 31, nat_lit 1, nat_lit 920, nat_lit 29), (nat_lit 576, nat_lit 31, nat_lit 1, nat_lit 575, nat_lit 13), (nat_lit 628, nat_lit 31, nat_lit 0, nat_lit 627, nat_lit 0), (nat_lit 635, nat_lit 31, nat_lit 1, nat_lit 634, nat_lit 15), (nat_lit 655, nat_lit 31, nat_lit 1, nat_lit 654, nat_lit 17), (nat_lit 668, nat_lit 31, nat_lit 1, nat_lit 667, nat_lit 20), (nat_lit 682, nat_lit 30, nat_lit 0, nat_lit 681, nat_lit 0), (nat_lit 675, nat_lit 30, nat_lit 0, nat_lit 674, nat_lit 0), (nat_lit 679, nat_lit 30, nat_lit 0, nat_lit 678, nat_lit 0), (nat_lit 686, nat_lit 30, nat_lit 0, nat_lit 685, nat_lit 0), (nat_lit 850, nat_lit 30, nat_lit 0, nat_lit 849, nat_lit 0), (nat_lit 0, nat_lit 0, nat_lit 3, nat_lit 0, nat_lit 0)]
def vs_hx (e : Nat) : Nat := match e with
  | 0 => nat_lit 0
  | 1 => nat_lit 0
  | _ => nat_lit 0
def vs_io : String := RX6
def vs_ic (a : Nat) : Nat := match a with
  | 0 => 364
  | 1 => 144
  | _ => 167
noncomputable def vs_mw (k : Nat) : Nat × Nat × Nat × Nat × Nat := (vi_nth vs_mwL k).getD (0, 0, 9, 0, 0)
noncomputable def vs_cw (k : Nat) : Cond := vs_wa (vs_mw k).1
noncomputable def vs_y (k : Nat) : MethodName := match vs_cw k with
  | .code y _ _ _ => y
  | .codeWith y _ _ _ _ => y
  | _ => x
noncomputable def vs_by (k : Nat) : ByteArray := match vs_cw k with
  | .code _ z _ _ => z
  | .codeWith _ z _ _ _ => z
  | _ => code
noncomputable def vs_rt (k : Nat) : Option FieldType := match vs_cw k with
  | .code _ _ _ r => r
  | .codeWith _ _ _ r _ => r
  | _ => ret
noncomputable def vs_hh (k : Nat) : List (Nat × Nat × Nat × Nat) := match vs_cw k with
  | .codeWith _ _ _ _ hh => hh
  | _ => []
noncomputable def vs_own (k : Nat) : String := vs_cn (vt_mi k).1
noncomputable def vs_ml (k : Nat) : Nat := (vt_mi k).2.2.1
noncomputable def vs_fr (k : Nat) : Nat := (vt_mi k).2.2.2.2.1
noncomputable def vs_lw (k : Nat) : Nat := (vt_mi k).2.2.2.2.2.1
noncomputable def vs_hd (k : Nat) : List (Nat × Nat × Nat × Nat) := (vt_mi k).2.2.2.2.2.2
def vs_nc : Nat := nat_lit 6
/-- the exceptions by their numbers -/
def vs_ex (e : Nat) : String := match e with
  | 0 => "java/lang/IndexOutOfBoundsException"
  | 1 => "java/lang/IllegalArgumentException"
  | _ => "java/lang/IllegalStateException"
def vs_up : List String := ["java/lang/RuntimeException", "java/lang/Exception"]
def vs_en (i : Nat) : String := match i with
  | 0 => "TYPE"
  | 1 => "ERASE"
  | 2 => "MARK"
  | 3 => "UNDO"
  | _ => "REDO"
def vs_T (c : Nat) : u_T := match c with
  | 0 => TX0
  | 1 => TX1
  | 2 => TX2
  | 3 => TX3
  | 4 => TX4
  | _ => TX6
def vs_N (c : Nat) : Nat := match c with
  | 0 => 6
  | 1 => 7
  | 2 => 11
  | 3 => 2
  | 4 => 7
  | _ => 11
/-- a handler's row and the machine's -/
noncomputable def vs_hok (own : String) : List (Nat × Nat × Nat × Nat) → List (Nat × Nat × Nat × Nat) → Bool
  | [], [] => true
  | q :: qs, r :: rs => decide (q.1 = r.1) && decide (q.2.1 = r.2.1) && decide (q.2.2.1 = r.2.2.1) && decide (q.2.2.2 < 3) && decide (r.2.2.2 ≠ 0) && (match vs_wa (vs_hx q.2.2.2) with
    | .classLink o i C => decide (o = own) && decide (i = r.2.2.2) && decide (C = vs_ex q.2.2.2)
    | _ => false) && vs_hok own qs rs
  | _, _ => false
noncomputable def vs_rok (k : Nat) : Bool := match (vt_mi k).2.2.2.1 with
  | 0 => match vs_rt k with
    | none => true
    | _ => false
  | 1 => match vs_rt k with
    | some .int => true
    | _ => false
  | 2 => match vs_rt k with
    | some .boolean => true
    | _ => false
  | 3 => match vs_rt k with
    | some .long => true
    | _ => false
  | 4 => match vs_rt k with
    | some .double => true
    | _ => false
  | 5 => match vs_rt k with
    | some (.object _) => true
    | some (.array _) => true
    | _ => false
  | _ => false
noncomputable def vs_mok (k : Nat) : Bool :=
  (match vs_cw k with
    | .code _ _ ml _ => decide (ml = vs_ml k) && (vs_hd k).isEmpty && goodWord (vs_cw k)
    | .codeWith _ _ ml _ _ => decide (ml = vs_ml k) && !(vs_hd k).isEmpty && goodWord (vs_cw k)
    | _ => false) && (match vs_wa (vs_mw k).2.1 with
    | .initialized o => decide (o = vs_own k)
    | _ => false) && decide ((vs_y k).cls = vs_own k) && decide (vs_own k ≠ "java/lang/invoke/MethodHandle") && decide (vs_own k ≠ "java/lang/invoke/VarHandle") &&
  plainName (vs_own k) && vs_hok (vs_own k) (vs_hd k) (vs_hh k) && vs_rok k && (match (vs_mw k).2.2.1 with
    | 0 => (match vs_wa (vs_mw k).2.2.2.1 with
      | .static y => decide (y = vs_y k)
      | _ => false) && decide ((parseMethodDescriptor (vs_y k).desc).map (fun d => d.parameters.length) = some (vt_mi k).2.1)
    | 1 => (match vs_wa (vs_mw k).2.2.2.1 with
      | .instanceMethod y => decide (y = vs_y k)
      | _ => false) && (match vs_wa (vs_mw k).2.2.2.2 with
      | .selects C y z => decide (C = vs_own k) && decide (y = vs_y k) && decide (z = vs_y k)
      | _ => false) && decide ((parseMethodDescriptor (vs_y k).desc).map (fun d => d.parameters.length + 1) = some (vt_mi k).2.1) && (vs_hd k).isEmpty
    | 2 => (match vs_wa (vs_mw k).2.2.2.1 with
      | .instanceMethod y => decide (y = vs_y k)
      | _ => false) && decide ((vs_y k).name = "<init>") && decide ((vt_mi k).2.2.2.1 = 0) && decide ((parseMethodDescriptor (vs_y k).desc).map (fun d => d.parameters.length + 1) = some (vt_mi k).2.1) && (vs_hd k).isEmpty
    | _ => false)
/-- a signed number -/
def vs_i (u : Nat) : Int := if u < 2147483648 then (u : Int) else (u : Int) - 4294967296
noncomputable def vs_cond (c : Nat) : Jvm.ClassFile.Cond := match c with
  | 0 => .eq
  | 1 => .ne
  | 2 => .lt
  | 3 => .ge
  | 4 => .gt
  | _ => .le
/-- the link of a field: its place in the class's table -/
noncomputable def vs_fl (k ci sl i : Nat) (f : Nat → Bool) : Bool := match vs_wa i with
  | .fieldLink own idx ref n d => decide (own = vs_own k) && decide (ci < vs_nc) && decide (sl < vs_N ci) && decide ((ref, n, d) = ((vs_T ci sl).1, (vs_T ci sl).2.1, (vs_T ci sl).2.2.1)) && f idx
  | .fieldLinkNest own idx ref n d _ => decide (own = vs_own k) && decide (ci < vs_nc) && decide (sl < vs_N ci) && decide ((ref, n, d) = ((vs_T ci sl).1, (vs_T ci sl).2.1, (vs_T ci sl).2.2.1)) && f idx
  | _ => false
noncomputable def vs_call (k a i : Nat) (f : Nat → Bool) : Bool := decide (vs_fr a + 1 ≤ vs_fr k) && decide (8 + (vs_ml a + 11) + vs_lw a ≤ vs_lw k) && decide (a < vt_law) && (match vs_wa i with
  | .methodLink own idx y => decide (own = vs_own k) && decide (y = vs_y a) && f idx
  | .methodLinkNest own idx y _ => decide (own = vs_own k) && decide (y = vs_y a) && decide ((vs_mw a).2.2.1 = 2) && f idx
  | _ => false)
noncomputable def vs_lib (k i : Nat) (y : MethodName) (f : Nat → Bool) : Bool := match vs_wa i with
  | .methodLink own idx z => decide (own = vs_own k) && decide (z = y) && decide (1 ≤ vs_fr k) && decide (60 ≤ vs_lw k) && f idx
  | _ => false
noncomputable def vs_fok (ty : Nat) (d : Option FieldType) : Bool := match ty with
  | 0 => decide (d = some .int)
  | 1 => decide (d = some .boolean)
  | 2 => decide (d = some .long)
  | _ => match d with
    | some (.object _) => true
    | some (.array _) => true
    | _ => false
/-- the word at a place, a good one -/
noncomputable def vs_wis (i : Nat) (w : Cond) : Bool := decide (vs_wa i = w) && goodWord w
noncomputable def vs_ok (k pc : Nat) (e : vi_E) : Bool :=
  match e with
  | (0, a, b, _) => (decide (b = 1) && decide (a < 4) && decide (decode (vs_by k) pc = .ok (.iload_n (Fin.ofNat 4 a), 1))) || (decide (b = 2) && decide (decode (vs_by k) pc = .ok (.iload a, 2)))
  | (1, a, b, _) => (decide (b = 1) && decide (a < 4) && decide (decode (vs_by k) pc = .ok (.aload_n (Fin.ofNat 4 a), 1))) || (decide (b = 2) && decide (decode (vs_by k) pc = .ok (.aload a, 2)))
  | (2, a, b, _) => (decide (b = 1) && decide (decode (vs_by k) pc = .ok (.iconst (vs_i a), 1)) && decide (Int32.ofInt (vs_i a) = nI a)) || (decide (b = 2) && decide (decode (vs_by k) pc = .ok (.bipush (vs_i a), 2)) && decide ((Int8.ofInt (vs_i a)).toInt32 = nI a)) || (decide (b = 3) && decide (decode (vs_by k) pc = .ok (.sipush (vs_i a), 3)) && decide ((Int16.ofInt (vs_i a)).toInt32 = nI a))
  | (3, a, b, _) => decide (a < vs_ml k) && ((decide (b = 1) && decide (a < 4) && decide (decode (vs_by k) pc = .ok (.istore_n (Fin.ofNat 4 a), 1))) || (decide (b = 2) && decide (decode (vs_by k) pc = .ok (.istore a, 2))))
  | (4, a, b, _) => decide (a < vs_ml k) && ((decide (b = 1) && decide (a < 4) && decide (decode (vs_by k) pc = .ok (.astore_n (Fin.ofNat 4 a), 1))) || (decide (b = 2) && decide (decode (vs_by k) pc = .ok (.astore a, 2))))
  | (5, a, _, _) => decide (decode (vs_by k) pc = .ok (.goto ((a : Int) - pc), 3))
  | (6, a, b, _) => decide (a < vs_ml k) && decide (decode (vs_by k) pc = .ok (.iinc a (vs_i b), 3)) && decide (Int32.ofInt (vs_i b) = nI b)
  | (7, a, b, _) => decide (b < 6) && decide (decode (vs_by k) pc = .ok (.ifCond (vs_cond b) ((a : Int) - pc), 3))
  | (8, a, b, _) => decide (b < 6) && decide (decode (vs_by k) pc = .ok (.if_icmp (vs_cond b) ((a : Int) - pc), 3))
  | (9, _, _, _) => decide (decode (vs_by k) pc = .ok (.iadd, 1))
  | (10, _, _, _) => decide (decode (vs_by k) pc = .ok (.isub, 1))
  | (11, _, _, _) => decide (decode (vs_by k) pc = .ok (.imul, 1))
  | (12, _, _, _) => decide (decode (vs_by k) pc = .ok (.iand, 1))
  | (13, _, _, _) => decide (decode (vs_by k) pc = .ok (.irem, 1))
  | (14, a, b, c) => vs_fl k a (b / 4) c (fun idx => decide (decode (vs_by k) pc = .ok (.getfield idx, 3)))
  | (15, a, b, c) => vs_fl k a (b / 4) c (fun idx => decide (decode (vs_by k) pc = .ok (.putfield idx, 3))) && vs_fok (b % 4) (parseFieldDescriptor (vs_T a (b / 4)).2.2.1) && (!(vs_T a (b / 4)).2.2.2 || (decide ((vs_mw k).2.2.1 = 2) && decide ((vs_T a (b / 4)).1 = vs_own k))) && (match vs_wa c with
      | .fieldLinkNest _ _ _ _ _ _ => !(vs_T a (b / 4)).2.2.2
      | _ => true)
  | (16, _, _, _) => decide (decode (vs_by k) pc = .ok (.iaload, 1))
  | (17, _, _, _) => decide (decode (vs_by k) pc = .ok (.iastore, 1))
  | (18, _, _, _) => decide (decode (vs_by k) pc = .ok (.baload, 1))
  | (19, _, _, _) => decide (decode (vs_by k) pc = .ok (.bastore, 1))
  | (20, _, _, _) => decide (decode (vs_by k) pc = .ok (.aaload, 1))
  | (21, _, _, _) => decide (decode (vs_by k) pc = .ok (.aastore, 1))
  | (22, _, _, _) => decide (decode (vs_by k) pc = .ok (.laload, 1))
  | (23, _, _, _) => decide (decode (vs_by k) pc = .ok (.lastore, 1))
  | (24, _, _, _) => decide (decode (vs_by k) pc = .ok (.daload, 1))
  | (25, _, _, _) => decide (decode (vs_by k) pc = .ok (.dastore, 1))
  | (26, _, _, _) => decide (decode (vs_by k) pc = .ok (.arraylength, 1))
  | (27, a, _, c) => decide ((vs_mw a).2.2.1 = 1) && vs_call k a c (fun idx => decide (decode (vs_by k) pc = .ok (.invokevirtual idx, 3)))
  | (28, a, _, c) => decide ((vs_mw a).2.2.1 = 2) && vs_call k a c (fun idx => decide (decode (vs_by k) pc = .ok (.invokespecial idx, 3)))
  | (29, a, _, c) => decide ((vs_mw a).2.2.1 = 0) && vs_call k a c (fun idx => decide (decode (vs_by k) pc = .ok (.invokestatic idx, 3)))
  | (30, a, b, c) => vs_lib k c Lib.objectInit (fun idx => decide (decode (vs_by k) pc = .ok (.invokespecial idx, 3))) && vs_wis a (.instanceMethod Lib.objectInit) && vs_wis b (.code Lib.objectInit ⟨#[0xb1]⟩ 1 none)
  | (31, a, b, c) => vs_lib k c Lib.Math.max.name (fun idx => decide (decode (vs_by k) pc = .ok (.invokestatic idx, 3))) && vs_wis a (.static Lib.Math.max.name) && vs_wis (b / 4096) (.initialized "java/lang/Math") && vs_wis (b % 4096) (.code Lib.Math.max.name Lib.Math.max.code 2 (some .int))
  | (32, a, b, c) => vs_lib k c Lib.Math.min.name (fun idx => decide (decode (vs_by k) pc = .ok (.invokestatic idx, 3))) && vs_wis a (.static Lib.Math.min.name) && vs_wis (b / 4096) (.initialized "java/lang/Math") && vs_wis (b % 4096) (.code Lib.Math.min.name Lib.Math.min.code 2 (some .int))
  | (33, a, b, c) => vs_lib k c arraycopyName (fun idx => decide (decode (vs_by k) pc = .ok (.invokestatic idx, 3))) && vs_wis a (.native arraycopyName) && vs_wis (b / 4096) (.static arraycopyName) && vs_wis (b % 4096) (.initialized "java/lang/System")
  | (34, a, b, c) => (match vs_wa c with
      | .classLink own idx C => decide (own = vs_own k) && decide (C = vs_cn a) && decide (a < vs_nc) && decide (decode (vs_by k) pc = .ok (.new idx, 3))
      | _ => false) && vs_wis (b / 4096) (.instantiable (vs_cn a) (vs_N a)) && vs_wis (b % 4096) (.initialized (vs_cn a))
  | (35, a, b, c) => (match vs_wa (c / 4096), vs_wa (c % 4096) with
      | .classLink own idx C, .stringRef own2 is _ => decide (own = vs_own k) && decide (own2 = vs_own k) && decide (C = vs_ex a) && decide (a < 3) && decide (is = b / 2 % 65536) && decide (decode (vs_by k) pc = .ok (.new idx, 3)) && decide (decode (vs_by k) (pc + 3) = .ok (.dup, 1)) &&
          ((decide (b % 2 = 0) && decide (decode (vs_by k) (pc + 4) = .ok (.ldc is, 2)) && decide (decode (vs_by k) (pc + 6) = .ok (.invokespecial (b / 131072), 3)) && decide (decode (vs_by k) (pc + 9) = .ok (.athrow, 1))) ||
           (decide (b % 2 = 1) && decide (decode (vs_by k) (pc + 4) = .ok (.ldc_w is, 3)) && decide (decode (vs_by k) (pc + 7) = .ok (.invokespecial (b / 131072), 3)) && decide (decode (vs_by k) (pc + 10) = .ok (.athrow, 1)))) &&
          decide (6 ≤ vs_fr k) && decide (90 ≤ vs_lw k) && decide (vs_hd k = []) && decide (vs_own k = vs_io) && decide (b / 131072 = vs_ic a) && goodWord (.classLink own idx C)
      | _, _ => false)
  | (36, a, _, c) => vs_wis c (.arrayClass (vs_ty a)) && (match a with
      | 0 => decide (decode (vs_by k) pc = .ok (.newarray .int, 2))
      | 1 => decide (decode (vs_by k) pc = .ok (.newarray .boolean, 2))
      | 2 => decide (decode (vs_by k) pc = .ok (.newarray .long, 2))
      | 3 => decide (decode (vs_by k) pc = .ok (.newarray .double, 2))
      | _ => false)
  | (37, a, b, c) => (match vs_wa c with
      | .classLink own idx C => decide (own = vs_own k) && decide (C = vs_cn a) && decide (a < vs_nc) && (match vs_wa b with | .arrayOver (.object C2) => decide (C2 = vs_cn a) | _ => false) && decide (decode (vs_by k) pc = .ok (.anewarray idx, 3))
      | _ => false)
  | (38, _, _, _) => decide (decode (vs_by k) pc = .ok (.dup, 1))
  | (39, _, _, _) => decide (decode (vs_by k) pc = .ok (.pop, 1))
  | (40, _, _, _) => decide (decode (vs_by k) pc = .ok (.dup_x1, 1))
  | (41, _, _, _) => decide (decode (vs_by k) pc = .ok (.dup2, 1))
  | (42, _, _, _) => decide (decode (vs_by k) pc = .ok (.ireturn, 1)) && (decide ((vt_mi k).2.2.2.1 = 1) || decide ((vt_mi k).2.2.2.1 = 2))
  | (43, _, _, _) => decide (decode (vs_by k) pc = .ok (.return_, 1))
  | (44, _, _, _) => decide (decode (vs_by k) pc = .ok (.areturn, 1)) && decide ((vt_mi k).2.2.2.1 = 5)
  | (45, _, _, _) => decide (decode (vs_by k) pc = .ok (.lreturn, 1)) && decide ((vt_mi k).2.2.2.1 = 3)
  | (46, _, _, _) => decide (decode (vs_by k) pc = .ok (.dreturn, 1)) && decide ((vt_mi k).2.2.2.1 = 4)
  | (47, _, _, _) => decide (decode (vs_by k) pc = .ok (.i2l, 1))
  | (48, _, _, _) => decide (decode (vs_by k) pc = .ok (.ladd, 1))
  | (49, _, _, _) => decide (decode (vs_by k) pc = .ok (.lmul, 1))
  | (50, _, _, _) => decide (decode (vs_by k) pc = .ok (.lcmp, 1))
  | (51, a, b, c) => (decide (b = 0) && decide (a < 2) && decide (decode (vs_by k) pc = .ok (.lconst (Fin.ofNat 2 a), 1))) || (decide (b ≠ 0) && (match vs_wa c with
      | .constantLong own idx v => decide (own = vs_own k) && decide (v = lN a) && decide (decode (vs_by k) pc = .ok (.ldc2_w idx, 3))
      | _ => false))
  | (52, a, b, _) => (decide (b = 1) && decide (a < 4) && decide (decode (vs_by k) pc = .ok (.lload_n (Fin.ofNat 4 a), 1))) || (decide (b = 2) && decide (decode (vs_by k) pc = .ok (.lload a, 2)))
  | (53, a, b, _) => decide (a + 1 < vs_ml k) && ((decide (b = 1) && decide (a < 4) && decide (decode (vs_by k) pc = .ok (.lstore_n (Fin.ofNat 4 a), 1))) || (decide (b = 2) && decide (decode (vs_by k) pc = .ok (.lstore a, 2))))
  | (54, _, _, _) => decide (decode (vs_by k) pc = .ok (.dconst 0, 1))
  | (55, a, b, _) => decide (b = 2) && decide (decode (vs_by k) pc = .ok (.dload a, 2))
  | (56, a, b, _) => decide (a + 1 < vs_ml k) && decide (b = 2) && decide (decode (vs_by k) pc = .ok (.dstore a, 2))
  | (57, _, _, _) => decide (decode (vs_by k) pc = .ok (.dcmp .l, 1))
  | (58, a, _, c) => (match vs_wa c with
      | .fieldLink own idx ref n d => decide (own = vs_own k) && decide (a < 5) && decide ((ref, n, d) = ("SharedPalimpsest$What", vs_en a, "LSharedPalimpsest$What;")) && decide (decode (vs_by k) pc = .ok (.getstatic idx, 3))
      | _ => false)
  | (59, a, _, _) => decide (decode (vs_by k) pc = .ok (.if_acmp .ne ((a : Int) - pc), 3))
  | (60, a, _, _) => decide (decode (vs_by k) pc = .ok (.ifnull ((a : Int) - pc), 3))
  | (61, a, _, _) => decide (decode (vs_by k) pc = .ok (.ifnonnull ((a : Int) - pc), 3))
  | (62, _, _, _) => decide (decode (vs_by k) pc = .ok (.aconst_null, 1))
  | (63, _, _, _) => (match decode (vs_by k) pc with
      | .ok (.tableswitch dflt lo hi offs, _) => decide (lo = 0) && decide (hi + 1 = (vt_ts.length : Int)) && decide ((pc : Int) + dflt = vt_td) && decide (offs.toList.length = vt_ts.length) && (List.range vt_ts.length).all (fun j => decide (offs[j]?.map (fun o => (pc : Int) + o) = vt_ts[j]?.map (fun t => (t : Int))))
      | _ => false)
  | (64, _, _, _) => decide (decode (vs_by k) pc = .ok (.idiv, 1))
  | (65, _, _, _) => decide (decode (vs_by k) pc = .ok (.ishl, 1))
  | (66, _, _, _) => decide (decode (vs_by k) pc = .ok (.ishr, 1))
  | (67, _, _, _) => decide (decode (vs_by k) pc = .ok (.i2d, 1))
  | (68, _, _, _) => decide (decode (vs_by k) pc = .ok (.ddiv, 1))
  | (69, _, _, _) => decide (decode (vs_by k) pc = .ok (.dadd, 1))
  | (70, _, _, _) => decide (decode (vs_by k) pc = .ok (.dcmp .g, 1))
  | (71, a, _, c) => (match vs_wa c with
      | .constant own idx v => decide (own = vs_own k) && decide (v = nI a) && decide (decode (vs_by k) pc = .ok (.ldc idx, 2))
      | _ => false)
  | (72, a, _, c) => (match vs_wa c with
      | .constantDouble own idx v => decide (own = vs_own k) && decide (v = UInt64.ofNat a) && decide (decode (vs_by k) pc = .ok (.ldc2_w idx, 3))
      | _ => false)
  | _ => true
/-- the words of a throw, by their places -/
def vs_ap (a : Nat) : List Nat := match a with
  | 0 => [40, 315, 324, 328, 331, 333, 316, 317, 52, 53, 318, 323, 329, 349, 305, 350, 307, 351, 309, 319, 321, 311, 345, 346, 348, 311, 336, 337, 338, 339, 297, 339, 340, 341, 342, 299, 342, 343, 344, 345, 301, 335, 294, 295, 302, 303, 304, 306, 308, 310, 314, 313, 312]
  | 1 => [40, 315, 324, 328, 331, 333, 316, 317, 52, 53, 318, 323, 329, 349, 305, 350, 307, 351, 309, 319, 321, 311, 345, 346, 348, 311, 376, 377, 378, 339, 297, 339, 340, 341, 342, 299, 342, 343, 344, 345, 301, 375, 366, 367, 368, 326, 369, 370, 371, 372, 314, 313, 373]
  | _ => [40, 315, 324, 328, 331, 333, 316, 317, 52, 53, 318, 323, 329, 349, 305, 350, 307, 351, 309, 319, 321, 311, 345, 346, 348, 311, 409, 410, 411, 339, 297, 339, 340, 341, 342, 299, 342, 343, 344, 345, 301, 408, 399, 400, 401, 327, 402, 403, 404, 405, 314, 313, 406]
def vs_ai (a : Nat) : Nat := match a with
  | 0 => 43
  | 1 => 44
  | _ => 45
noncomputable def vs_aok (a : Nat) : Bool := decide (vx_atS vs_io (vs_ic a) (vs_ex a) vs_up = (vs_ap a).map vs_wa) && (vs_ap a).all (fun i => goodWord (vs_wa i) || (vs_wa i).faceAtom) && (Cond.initialized (vs_ex a) :: vx_atS vs_io (vs_ic a) (vs_ex a) vs_up).all vx_ot && vs_wis (vs_ai a) (.initialized (vs_ex a))
noncomputable def vs_tri {α : Type} (n : Nat) : vi_Tr α n → (Nat → α → Bool) → Bool := Nat.rec (motive := fun n => vi_Tr α n → (Nat → α → Bool) → Bool) (fun t f => f 0 t) (fun n ih t f => and (ih (@Prod.fst (vi_Tr α n) (vi_Tr α n) t) (fun i => f (2 * i))) (ih (@Prod.snd (vi_Tr α n) (vi_Tr α n) t) (fun i => f (2 * i + 1)))) n
theorem vs_tri_at {α : Type} (n : Nat) : ∀ (t : vi_Tr α n) (f : Nat → α → Bool), vs_tri n t f = true → ∀ i, i < 2 ^ n → f i (vi_tg n t i) = true := by
  induction n with
  | zero => intro t f h i hi; rw [show i = 0 by simp at hi; exact hi]; exact h
  | succ n ih =>
    intro t f h i hi
    have h' : (vs_tri n (@Prod.fst (vi_Tr α n) (vi_Tr α n) t) (fun i => f (2 * i)) && vs_tri n (@Prod.snd (vi_Tr α n) (vi_Tr α n) t) (fun i => f (2 * i + 1))) = true := h
    rw [Bool.and_eq_true] at h'
    have e : 2 ^ (n + 1) = 2 * 2 ^ n := by rw [Nat.pow_succ]; omega
    rw [vb_tg_s]
    by_cases h1 : i % 2 = 0
    · rw [if_pos h1]
      have h2 := ih _ _ h'.1 (i / 2) (by omega)
      have e2 : 2 * (i / 2) = i := by omega
      rw [e2] at h2; exact h2
    · rw [if_neg h1]
      have h2 := ih _ _ h'.2 (i / 2) (by omega)
      have e2 : 2 * (i / 2) + 1 = i := by omega
      rw [e2] at h2; exact h2

end VC
