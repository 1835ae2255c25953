/-! ===== numbers; where the things lie once the object is made; what a heap says; runs that come to an end ===== -/
section VW1
def jI (z : Int) : Int32 := Int32.ofInt z
abbrev vw_in (z : Int) : Prop := -2147483648 ≤ z ∧ z < 2147483648
theorem jI_add (x y : Int) : jI x + jI y = jI (x + y) := (Int32.ofInt_add x y).symm
theorem jI_sub (x y : Int) : jI x - jI y = jI (x - y) := (Int32.ofInt_sub x y).symm
theorem jI_mul (x y : Int) : jI x * jI y = jI (x * y) := (Int32.ofInt_mul x y).symm
theorem jI_int {z : Int} (h : vw_in z) : (jI z).toInt = z := Int32.toInt_ofInt_of_le h.1 h.2
theorem jI_of (x : Int32) : x = jI x.toInt := Int32.toInt_inj.mp (jI_int ⟨Int32.le_toInt x, Int32.toInt_lt x⟩).symm
theorem vw_in_of (x : Int32) : vw_in x.toInt := ⟨Int32.le_toInt x, Int32.toInt_lt x⟩
theorem jI_lt {x y : Int} (hx : vw_in x) (hy : vw_in y) : jI x < jI y ↔ x < y := by rw [Int32.lt_iff_toInt_lt, jI_int hx, jI_int hy]
theorem jI_le {x y : Int} (hx : vw_in x) (hy : vw_in y) : jI x ≤ jI y ↔ x ≤ y := by rw [Int32.le_iff_toInt_le, jI_int hx, jI_int hy]
theorem jI_eq {x y : Int} (hx : vw_in x) (hy : vw_in y) : jI x = jI y ↔ x = y := by rw [← Int32.toInt_inj, jI_int hx, jI_int hy]
theorem jI_nat (n : Nat) : nI n = jI (n : Int) := by
  show Int32.ofNat n = Int32.ofInt (n : Int)
  rfl
theorem jI_pos {z : Int} (h : vw_in z) : jI z < 0 ↔ z < 0 := by
  have := jI_lt h (y := 0) ⟨by omega, by omega⟩
  exact this
theorem jI_clamp {z : Int} (h0 : 0 ≤ z) (h1 : z < 2147483648) : (jI z).toNatClampNeg = z.toNat := by
  have h : (z.toNat : Int) = z := Int.toNat_of_nonneg h0
  have : jI z = nI z.toNat := by rw [jI_nat, h]
  rw [this]
  exact nI_clamp (by omega)
/-- what rows hold; numbers in fields -/
abbrev vw_S : Type := (Nat → Nat → List Int) × (Nat → Nat → Int)
/-- the kinds of rows: 0 order, 1 heard, 2 waiting, 3 done, 4 undone (of a writer); 5 covered, 6 ahead (of a deed; 120 is no deed); 7 a channel; 8 no channel; 9 cuts; 10 union; 11 steps; 12 letters, 13 types, 14 the order of cells; 15 cells, 16 text, 17 known, 18 in effect, 19 erased, 20 shown, 21 deciding marks (of a view) -/
def vw_rr (k i : Nat) : Nat := match k with
  | 0 => 674 + 11 * i
  | 1 => 676 + 11 * i
  | 2 => 678 + 11 * i
  | 3 => 680 + 11 * i
  | 4 => 682 + 11 * i
  | 5 => if i = 120 then 12 else 23 + 5 * i
  | 6 => if i = 120 then 14 else 25 + 5 * i
  | 7 => 739 + 2 * i
  | 8 => 624
  | 9 => 626
  | 10 => 639
  | 11 => 671
  | 12 => 16
  | 13 => 18
  | 14 => 20
  | 15 => 642 + 15 * i
  | 16 => 644 + 15 * i
  | 17 => 646 + 15 * i
  | 18 => 648 + 15 * i
  | 19 => 650 + 15 * i
  | 20 => 652 + 15 * i
  | 21 => 654 + 15 * i
  | _ => 0
/-- a row's bound -/
def vw_cap (k : Nat) : Nat := match k with
  | 0 => 120
  | 1 => 6
  | 2 => 120
  | 3 => 9
  | 4 => 9
  | 5 => 12
  | 6 => 6
  | 7 => 270
  | 8 => 0
  | 9 => 36
  | 10 => 120
  | 11 => 721
  | 12 => 720
  | 13 => 720
  | 14 => 720
  | 15 => 720
  | 16 => 720
  | 17 => 120
  | 18 => 120
  | 19 => 720
  | 20 => 720
  | 21 => 2160
  | _ => 0
def vw_num (k : Nat) : Nat := match k with
  | 0 => 6
  | 1 => 6
  | 2 => 6
  | 3 => 6
  | 4 => 6
  | 5 => 121
  | 6 => 121
  | 7 => 36
  | 8 => 1
  | 9 => 1
  | 10 => 1
  | 11 => 1
  | 12 => 1
  | 13 => 1
  | 14 => 1
  | 15 => 2
  | 16 => 2
  | 17 => 2
  | 18 => 2
  | 19 => 2
  | 20 => 2
  | 21 => 2
  | _ => 0
/-- the deed d (120: no deed) -/
def vw_dr (d : Nat) : Nat := if d = 120 then 11 else 22 + 5 * d
def vw_cr (i : Nat) : Nat := 673 + 11 * i
def vw_vr (i : Nat) : Nat := 641 + 15 * i
/-- what lies where: (1, a row), (2, a row's ints), (3, another thing) -/
def vw_tab : List (Nat × Nat × Nat) := [
(0, 0, 0), (0, 0, 0), (0, 0, 0), (0, 0, 0), (0, 0, 0), (0, 0, 0), (0, 0, 0), (0, 0, 0), (3, 3, 0), (3, 4, 0), (3, 5, 0), (3, 0, 120), (1, 5, 120), (2, 5, 120), (1, 6, 120), (2, 6, 120), (1, 12, 0), (2, 12, 0), (1, 13, 0), (2, 13, 0),
(1, 14, 0), (2, 14, 0), (3, 0, 0), (1, 5, 0), (2, 5, 0), (1, 6, 0), (2, 6, 0), (3, 0, 1), (1, 5, 1), (2, 5, 1), (1, 6, 1), (2, 6, 1), (3, 0, 2), (1, 5, 2), (2, 5, 2), (1, 6, 2), (2, 6, 2), (3, 0, 3), (1, 5, 3), (2, 5, 3),
(1, 6, 3), (2, 6, 3), (3, 0, 4), (1, 5, 4), (2, 5, 4), (1, 6, 4), (2, 6, 4), (3, 0, 5), (1, 5, 5), (2, 5, 5), (1, 6, 5), (2, 6, 5), (3, 0, 6), (1, 5, 6), (2, 5, 6), (1, 6, 6), (2, 6, 6), (3, 0, 7), (1, 5, 7), (2, 5, 7),
(1, 6, 7), (2, 6, 7), (3, 0, 8), (1, 5, 8), (2, 5, 8), (1, 6, 8), (2, 6, 8), (3, 0, 9), (1, 5, 9), (2, 5, 9), (1, 6, 9), (2, 6, 9), (3, 0, 10), (1, 5, 10), (2, 5, 10), (1, 6, 10), (2, 6, 10), (3, 0, 11), (1, 5, 11), (2, 5, 11),
(1, 6, 11), (2, 6, 11), (3, 0, 12), (1, 5, 12), (2, 5, 12), (1, 6, 12), (2, 6, 12), (3, 0, 13), (1, 5, 13), (2, 5, 13), (1, 6, 13), (2, 6, 13), (3, 0, 14), (1, 5, 14), (2, 5, 14), (1, 6, 14), (2, 6, 14), (3, 0, 15), (1, 5, 15), (2, 5, 15),
(1, 6, 15), (2, 6, 15), (3, 0, 16), (1, 5, 16), (2, 5, 16), (1, 6, 16), (2, 6, 16), (3, 0, 17), (1, 5, 17), (2, 5, 17), (1, 6, 17), (2, 6, 17), (3, 0, 18), (1, 5, 18), (2, 5, 18), (1, 6, 18), (2, 6, 18), (3, 0, 19), (1, 5, 19), (2, 5, 19),
(1, 6, 19), (2, 6, 19), (3, 0, 20), (1, 5, 20), (2, 5, 20), (1, 6, 20), (2, 6, 20), (3, 0, 21), (1, 5, 21), (2, 5, 21), (1, 6, 21), (2, 6, 21), (3, 0, 22), (1, 5, 22), (2, 5, 22), (1, 6, 22), (2, 6, 22), (3, 0, 23), (1, 5, 23), (2, 5, 23),
(1, 6, 23), (2, 6, 23), (3, 0, 24), (1, 5, 24), (2, 5, 24), (1, 6, 24), (2, 6, 24), (3, 0, 25), (1, 5, 25), (2, 5, 25), (1, 6, 25), (2, 6, 25), (3, 0, 26), (1, 5, 26), (2, 5, 26), (1, 6, 26), (2, 6, 26), (3, 0, 27), (1, 5, 27), (2, 5, 27),
(1, 6, 27), (2, 6, 27), (3, 0, 28), (1, 5, 28), (2, 5, 28), (1, 6, 28), (2, 6, 28), (3, 0, 29), (1, 5, 29), (2, 5, 29), (1, 6, 29), (2, 6, 29), (3, 0, 30), (1, 5, 30), (2, 5, 30), (1, 6, 30), (2, 6, 30), (3, 0, 31), (1, 5, 31), (2, 5, 31),
(1, 6, 31), (2, 6, 31), (3, 0, 32), (1, 5, 32), (2, 5, 32), (1, 6, 32), (2, 6, 32), (3, 0, 33), (1, 5, 33), (2, 5, 33), (1, 6, 33), (2, 6, 33), (3, 0, 34), (1, 5, 34), (2, 5, 34), (1, 6, 34), (2, 6, 34), (3, 0, 35), (1, 5, 35), (2, 5, 35),
(1, 6, 35), (2, 6, 35), (3, 0, 36), (1, 5, 36), (2, 5, 36), (1, 6, 36), (2, 6, 36), (3, 0, 37), (1, 5, 37), (2, 5, 37), (1, 6, 37), (2, 6, 37), (3, 0, 38), (1, 5, 38), (2, 5, 38), (1, 6, 38), (2, 6, 38), (3, 0, 39), (1, 5, 39), (2, 5, 39),
(1, 6, 39), (2, 6, 39), (3, 0, 40), (1, 5, 40), (2, 5, 40), (1, 6, 40), (2, 6, 40), (3, 0, 41), (1, 5, 41), (2, 5, 41), (1, 6, 41), (2, 6, 41), (3, 0, 42), (1, 5, 42), (2, 5, 42), (1, 6, 42), (2, 6, 42), (3, 0, 43), (1, 5, 43), (2, 5, 43),
(1, 6, 43), (2, 6, 43), (3, 0, 44), (1, 5, 44), (2, 5, 44), (1, 6, 44), (2, 6, 44), (3, 0, 45), (1, 5, 45), (2, 5, 45), (1, 6, 45), (2, 6, 45), (3, 0, 46), (1, 5, 46), (2, 5, 46), (1, 6, 46), (2, 6, 46), (3, 0, 47), (1, 5, 47), (2, 5, 47),
(1, 6, 47), (2, 6, 47), (3, 0, 48), (1, 5, 48), (2, 5, 48), (1, 6, 48), (2, 6, 48), (3, 0, 49), (1, 5, 49), (2, 5, 49), (1, 6, 49), (2, 6, 49), (3, 0, 50), (1, 5, 50), (2, 5, 50), (1, 6, 50), (2, 6, 50), (3, 0, 51), (1, 5, 51), (2, 5, 51),
(1, 6, 51), (2, 6, 51), (3, 0, 52), (1, 5, 52), (2, 5, 52), (1, 6, 52), (2, 6, 52), (3, 0, 53), (1, 5, 53), (2, 5, 53), (1, 6, 53), (2, 6, 53), (3, 0, 54), (1, 5, 54), (2, 5, 54), (1, 6, 54), (2, 6, 54), (3, 0, 55), (1, 5, 55), (2, 5, 55),
(1, 6, 55), (2, 6, 55), (3, 0, 56), (1, 5, 56), (2, 5, 56), (1, 6, 56), (2, 6, 56), (3, 0, 57), (1, 5, 57), (2, 5, 57), (1, 6, 57), (2, 6, 57), (3, 0, 58), (1, 5, 58), (2, 5, 58), (1, 6, 58), (2, 6, 58), (3, 0, 59), (1, 5, 59), (2, 5, 59),
(1, 6, 59), (2, 6, 59), (3, 0, 60), (1, 5, 60), (2, 5, 60), (1, 6, 60), (2, 6, 60), (3, 0, 61), (1, 5, 61), (2, 5, 61), (1, 6, 61), (2, 6, 61), (3, 0, 62), (1, 5, 62), (2, 5, 62), (1, 6, 62), (2, 6, 62), (3, 0, 63), (1, 5, 63), (2, 5, 63),
(1, 6, 63), (2, 6, 63), (3, 0, 64), (1, 5, 64), (2, 5, 64), (1, 6, 64), (2, 6, 64), (3, 0, 65), (1, 5, 65), (2, 5, 65), (1, 6, 65), (2, 6, 65), (3, 0, 66), (1, 5, 66), (2, 5, 66), (1, 6, 66), (2, 6, 66), (3, 0, 67), (1, 5, 67), (2, 5, 67),
(1, 6, 67), (2, 6, 67), (3, 0, 68), (1, 5, 68), (2, 5, 68), (1, 6, 68), (2, 6, 68), (3, 0, 69), (1, 5, 69), (2, 5, 69), (1, 6, 69), (2, 6, 69), (3, 0, 70), (1, 5, 70), (2, 5, 70), (1, 6, 70), (2, 6, 70), (3, 0, 71), (1, 5, 71), (2, 5, 71),
(1, 6, 71), (2, 6, 71), (3, 0, 72), (1, 5, 72), (2, 5, 72), (1, 6, 72), (2, 6, 72), (3, 0, 73), (1, 5, 73), (2, 5, 73), (1, 6, 73), (2, 6, 73), (3, 0, 74), (1, 5, 74), (2, 5, 74), (1, 6, 74), (2, 6, 74), (3, 0, 75), (1, 5, 75), (2, 5, 75),
(1, 6, 75), (2, 6, 75), (3, 0, 76), (1, 5, 76), (2, 5, 76), (1, 6, 76), (2, 6, 76), (3, 0, 77), (1, 5, 77), (2, 5, 77), (1, 6, 77), (2, 6, 77), (3, 0, 78), (1, 5, 78), (2, 5, 78), (1, 6, 78), (2, 6, 78), (3, 0, 79), (1, 5, 79), (2, 5, 79),
(1, 6, 79), (2, 6, 79), (3, 0, 80), (1, 5, 80), (2, 5, 80), (1, 6, 80), (2, 6, 80), (3, 0, 81), (1, 5, 81), (2, 5, 81), (1, 6, 81), (2, 6, 81), (3, 0, 82), (1, 5, 82), (2, 5, 82), (1, 6, 82), (2, 6, 82), (3, 0, 83), (1, 5, 83), (2, 5, 83),
(1, 6, 83), (2, 6, 83), (3, 0, 84), (1, 5, 84), (2, 5, 84), (1, 6, 84), (2, 6, 84), (3, 0, 85), (1, 5, 85), (2, 5, 85), (1, 6, 85), (2, 6, 85), (3, 0, 86), (1, 5, 86), (2, 5, 86), (1, 6, 86), (2, 6, 86), (3, 0, 87), (1, 5, 87), (2, 5, 87),
(1, 6, 87), (2, 6, 87), (3, 0, 88), (1, 5, 88), (2, 5, 88), (1, 6, 88), (2, 6, 88), (3, 0, 89), (1, 5, 89), (2, 5, 89), (1, 6, 89), (2, 6, 89), (3, 0, 90), (1, 5, 90), (2, 5, 90), (1, 6, 90), (2, 6, 90), (3, 0, 91), (1, 5, 91), (2, 5, 91),
(1, 6, 91), (2, 6, 91), (3, 0, 92), (1, 5, 92), (2, 5, 92), (1, 6, 92), (2, 6, 92), (3, 0, 93), (1, 5, 93), (2, 5, 93), (1, 6, 93), (2, 6, 93), (3, 0, 94), (1, 5, 94), (2, 5, 94), (1, 6, 94), (2, 6, 94), (3, 0, 95), (1, 5, 95), (2, 5, 95),
(1, 6, 95), (2, 6, 95), (3, 0, 96), (1, 5, 96), (2, 5, 96), (1, 6, 96), (2, 6, 96), (3, 0, 97), (1, 5, 97), (2, 5, 97), (1, 6, 97), (2, 6, 97), (3, 0, 98), (1, 5, 98), (2, 5, 98), (1, 6, 98), (2, 6, 98), (3, 0, 99), (1, 5, 99), (2, 5, 99),
(1, 6, 99), (2, 6, 99), (3, 0, 100), (1, 5, 100), (2, 5, 100), (1, 6, 100), (2, 6, 100), (3, 0, 101), (1, 5, 101), (2, 5, 101), (1, 6, 101), (2, 6, 101), (3, 0, 102), (1, 5, 102), (2, 5, 102), (1, 6, 102), (2, 6, 102), (3, 0, 103), (1, 5, 103), (2, 5, 103),
(1, 6, 103), (2, 6, 103), (3, 0, 104), (1, 5, 104), (2, 5, 104), (1, 6, 104), (2, 6, 104), (3, 0, 105), (1, 5, 105), (2, 5, 105), (1, 6, 105), (2, 6, 105), (3, 0, 106), (1, 5, 106), (2, 5, 106), (1, 6, 106), (2, 6, 106), (3, 0, 107), (1, 5, 107), (2, 5, 107),
(1, 6, 107), (2, 6, 107), (3, 0, 108), (1, 5, 108), (2, 5, 108), (1, 6, 108), (2, 6, 108), (3, 0, 109), (1, 5, 109), (2, 5, 109), (1, 6, 109), (2, 6, 109), (3, 0, 110), (1, 5, 110), (2, 5, 110), (1, 6, 110), (2, 6, 110), (3, 0, 111), (1, 5, 111), (2, 5, 111),
(1, 6, 111), (2, 6, 111), (3, 0, 112), (1, 5, 112), (2, 5, 112), (1, 6, 112), (2, 6, 112), (3, 0, 113), (1, 5, 113), (2, 5, 113), (1, 6, 113), (2, 6, 113), (3, 0, 114), (1, 5, 114), (2, 5, 114), (1, 6, 114), (2, 6, 114), (3, 0, 115), (1, 5, 115), (2, 5, 115),
(1, 6, 115), (2, 6, 115), (3, 0, 116), (1, 5, 116), (2, 5, 116), (1, 6, 116), (2, 6, 116), (3, 0, 117), (1, 5, 117), (2, 5, 117), (1, 6, 117), (2, 6, 117), (3, 0, 118), (1, 5, 118), (2, 5, 118), (1, 6, 118), (2, 6, 118), (3, 0, 119), (1, 5, 119), (2, 5, 119),
(1, 6, 119), (2, 6, 119), (3, 6, 0), (3, 7, 0), (1, 8, 0), (2, 8, 0), (1, 9, 0), (2, 9, 0), (0, 0, 0), (0, 0, 0), (0, 0, 0), (0, 0, 0), (0, 0, 0), (0, 0, 0), (0, 0, 0), (0, 0, 0), (0, 0, 0), (0, 0, 0), (0, 0, 0), (1, 10, 0),
(2, 10, 0), (3, 2, 0), (1, 15, 0), (2, 15, 0), (1, 16, 0), (2, 16, 0), (1, 17, 0), (2, 17, 0), (1, 18, 0), (2, 18, 0), (1, 19, 0), (2, 19, 0), (1, 20, 0), (2, 20, 0), (1, 21, 0), (2, 21, 0), (3, 2, 1), (1, 15, 1), (2, 15, 1), (1, 16, 1),
(2, 16, 1), (1, 17, 1), (2, 17, 1), (1, 18, 1), (2, 18, 1), (1, 19, 1), (2, 19, 1), (1, 20, 1), (2, 20, 1), (1, 21, 1), (2, 21, 1), (1, 11, 0), (2, 11, 0), (3, 1, 0), (1, 0, 0), (2, 0, 0), (1, 1, 0), (2, 1, 0), (1, 2, 0), (2, 2, 0),
(1, 3, 0), (2, 3, 0), (1, 4, 0), (2, 4, 0), (3, 1, 1), (1, 0, 1), (2, 0, 1), (1, 1, 1), (2, 1, 1), (1, 2, 1), (2, 2, 1), (1, 3, 1), (2, 3, 1), (1, 4, 1), (2, 4, 1), (3, 1, 2), (1, 0, 2), (2, 0, 2), (1, 1, 2), (2, 1, 2),
(1, 2, 2), (2, 2, 2), (1, 3, 2), (2, 3, 2), (1, 4, 2), (2, 4, 2), (3, 1, 3), (1, 0, 3), (2, 0, 3), (1, 1, 3), (2, 1, 3), (1, 2, 3), (2, 2, 3), (1, 3, 3), (2, 3, 3), (1, 4, 3), (2, 4, 3), (3, 1, 4), (1, 0, 4), (2, 0, 4),
(1, 1, 4), (2, 1, 4), (1, 2, 4), (2, 2, 4), (1, 3, 4), (2, 3, 4), (1, 4, 4), (2, 4, 4), (3, 1, 5), (1, 0, 5), (2, 0, 5), (1, 1, 5), (2, 1, 5), (1, 2, 5), (2, 2, 5), (1, 3, 5), (2, 3, 5), (1, 4, 5), (2, 4, 5), (1, 7, 0),
(2, 7, 0), (1, 7, 1), (2, 7, 1), (1, 7, 2), (2, 7, 2), (1, 7, 3), (2, 7, 3), (1, 7, 4), (2, 7, 4), (1, 7, 5), (2, 7, 5), (1, 7, 6), (2, 7, 6), (1, 7, 7), (2, 7, 7), (1, 7, 8), (2, 7, 8), (1, 7, 9), (2, 7, 9), (1, 7, 10),
(2, 7, 10), (1, 7, 11), (2, 7, 11), (1, 7, 12), (2, 7, 12), (1, 7, 13), (2, 7, 13), (1, 7, 14), (2, 7, 14), (1, 7, 15), (2, 7, 15), (1, 7, 16), (2, 7, 16), (1, 7, 17), (2, 7, 17), (1, 7, 18), (2, 7, 18), (1, 7, 19), (2, 7, 19), (1, 7, 20),
(2, 7, 20), (1, 7, 21), (2, 7, 21), (1, 7, 22), (2, 7, 22), (1, 7, 23), (2, 7, 23), (1, 7, 24), (2, 7, 24), (1, 7, 25), (2, 7, 25), (1, 7, 26), (2, 7, 26), (1, 7, 27), (2, 7, 27), (1, 7, 28), (2, 7, 28), (1, 7, 29), (2, 7, 29), (1, 7, 30),
(2, 7, 30), (1, 7, 31), (2, 7, 31), (1, 7, 32), (2, 7, 32), (1, 7, 33), (2, 7, 33), (1, 7, 34), (2, 7, 34), (1, 7, 35), (2, 7, 35)]
noncomputable def vw_tb (q : Nat) : Nat × Nat × Nat := match vi_nth vw_tab q with
  | some x => x
  | none => (0, 0, 0)
noncomputable def vw_tq (k i : Nat) : Bool := and (decide (vw_tb (vw_rr k i) = (1, k, i))) (and (decide (vw_tb (vw_rr k i + 1) = (2, k, i))) (and (Nat.ble 8 (vw_rr k i)) (Nat.ble (vw_rr k i + 2) 811)))
set_option maxRecDepth 100000 in
theorem vw_tabs : vi_all 0 22 (fun k => vi_all 0 (vw_num k) (fun i => vw_tq k i)) = true := by decide +kernel
set_option maxRecDepth 100000 in
theorem vw_tabd : vi_all 0 121 (fun d => decide (vw_tb (vw_dr d) = (3, 0, d))) = true := by decide +kernel
theorem vw_tabo : vw_tb 8 = (3, 3, 0) ∧ vw_tb 9 = (3, 4, 0) ∧ vw_tb 10 = (3, 5, 0) ∧ vw_tb 622 = (3, 6, 0) ∧ vw_tb 623 = (3, 7, 0) ∧ vw_tb (vw_cr 0) = (3, 1, 0) ∧ vw_tb (vw_cr 1) = (3, 1, 1) ∧ vw_tb (vw_cr 2) = (3, 1, 2) ∧ vw_tb (vw_cr 3) = (3, 1, 3) ∧ vw_tb (vw_cr 4) = (3, 1, 4) ∧ vw_tb (vw_cr 5) = (3, 1, 5) ∧ vw_tb (vw_vr 0) = (3, 2, 0) ∧ vw_tb (vw_vr 1) = (3, 2, 1) := by decide +kernel
/-- there is such a row -/
def vw_ok (k i : Nat) : Prop := k < 22 ∧ i < vw_num k
theorem vw_row {k i : Nat} (h : vw_ok k i) : vw_tb (vw_rr k i) = (1, k, i) ∧ vw_tb (vw_rr k i + 1) = (2, k, i) ∧ 8 ≤ vw_rr k i ∧ vw_rr k i + 2 ≤ 811 := by
  have h1 := vb_all (vb_all vw_tabs k (by omega) (by have := h.1; omega)) i (by omega) (by have := h.2; omega)
  obtain ⟨a, h1⟩ := vz_and h1
  obtain ⟨b, h1⟩ := vz_and h1
  obtain ⟨c, d⟩ := vz_and h1
  exact ⟨vz_dec a, vz_dec b, Nat.le_of_ble_eq_true c, Nat.le_of_ble_eq_true d⟩
theorem vw_deed {d : Nat} (h : d ≤ 120) : vw_tb (vw_dr d) = (3, 0, d) := vz_dec (vb_all vw_tabd d (by omega) (by omega))
theorem vw_copy {i : Nat} (h : i < 6) : vw_tb (vw_cr i) = (3, 1, i) := by
  obtain ⟨-, -, -, -, -, h0, h1, h2, h3, h4, h5, -⟩ := vw_tabo
  match i, h with
  | 0, _ => exact h0
  | 1, _ => exact h1
  | 2, _ => exact h2
  | 3, _ => exact h3
  | 4, _ => exact h4
  | 5, _ => exact h5
  | n + 6, h => omega
theorem vw_view {i : Nat} (h : i < 2) : vw_tb (vw_vr i) = (3, 2, i) := by
  obtain ⟨-, -, -, -, -, -, -, -, -, -, -, h0, h1⟩ := vw_tabo
  match i, h with
  | 0, _ => exact h0
  | 1, _ => exact h1
  | n + 2, h => omega
/-- numbers: 0 came, 1 count; of a writer: 2 isThere, 3 caretCell; of a deed: 4 what, 5 author, 6 number, 7 stamp, 8 caretCell, 9 target, 10 kind, 11 isOn -/
def vw_fd (V : Nat → Nat → Int) (d : Nat) : List Value := [.int (jI (if d = 120 then -1 else (d : Int))), .ref ((V 4 d).toNat + 1), .int (jI (V 5 d)), .int (jI (V 6 d)), .int (jI (V 7 d)), .int (jI (V 8 d)), .int (jI (V 9 d)), .int (jI (V 10 d)), .int (jI (V 11 d)), .ref (vw_rr 5 d), .ref (vw_rr 6 d)]
def vw_fc (V : Nat → Nat → Int) (i : Nat) : List Value := [.int (jI (V 2 i)), .int (jI (V 3 i)), .ref (vw_rr 0 i), .ref (vw_rr 1 i), .ref (vw_rr 2 i), .ref (vw_rr 3 i), .ref (vw_rr 4 i)]
def vw_fv (i : Nat) : List Value := [.ref (vw_rr 15 i), .ref (vw_rr 16 i), .ref (vw_rr 17 i), .ref (vw_rr 18 i), .ref (vw_rr 19 i), .ref (vw_rr 20 i), .ref (vw_rr 21 i)]
def vw_fm (V : Nat → Nat → Int) : List Value := [.ref 9, .ref 622, .ref 623, .ref (vw_rr 8 0), .ref (vw_rr 9 0), .ref 628, .ref (vw_rr 10 0), .ref (vw_vr 0), .ref (vw_vr 1), .ref (vw_rr 11 0), .int (jI (V 0 0))]
def vw_fh (V : Nat → Nat → Int) : List Value := [.ref 10, .ref (vw_dr 120), .int (jI (V 1 0)), .ref (vw_rr 12 0), .ref (vw_rr 13 0), .ref (vw_rr 14 0)]
/-- a row's ints: the list ahead, whatever behind -/
def vw_hd (l : List Int) (f : Nat → Int32) : Prop := ∀ j z, l[j]? = some z → vw_in z ∧ f j = jI z
/-- the numbers are ints; what a deed is, one of five; isThere and isOn are 0 or 1 -/
def vw_nm (V : Nat → Nat → Int) : Prop := (∀ k i, vw_in (V k i)) ∧ (∀ d, 0 ≤ V 4 d ∧ V 4 d < 5) ∧ (∀ i, V 2 i = 0 ∨ V 2 i = 1) ∧ (∀ d, V 11 d = 0 ∨ V 11 d = 1)
/-- what a heap says -/
def vw_H (σ : vw_S) (H : Nat → vj_C) : Prop :=
  (∀ k i, vw_ok k i → (∃ t f, H (vw_rr k i + 1) = .inl (t, 0, vw_cap k, .inl f) ∧ vw_hd (σ.1 k i) f) ∧ H (vw_rr k i) = .inr (3, [.ref (vw_rr k i + 1), .int (jI (σ.1 k i).length)]) ∧ (σ.1 k i).length ≤ vw_cap k) ∧
  (∀ d, d ≤ 120 → H (vw_dr d) = .inr (2, vw_fd σ.2 d)) ∧ (∀ i, i < 6 → H (vw_cr i) = .inr (1, vw_fc σ.2 i)) ∧ (∀ i, i < 2 → H (vw_vr i) = .inr (4, vw_fv i)) ∧
  H 8 = .inr (5, vw_fm σ.2) ∧ H 9 = .inr (0, vw_fh σ.2) ∧
  (∃ t g, H 10 = .inl (t, 6, 120, .inr (.inr (.inr (.inr g)))) ∧ ∀ d, d < 120 → g d = some (vw_dr d)) ∧
  (∃ t g, H 622 = .inl (t, 5, 6, .inr (.inr (.inr (.inr g)))) ∧ ∀ i, i < 6 → g i = some (vw_cr i)) ∧
  (∃ t g, H 623 = .inl (t, 7, 36, .inr (.inr (.inr (.inr g)))) ∧ ∀ i, i < 36 → g i = some (vw_rr 7 i)) ∧ vw_nm σ.2
def vw_rep (σ : vw_S) (M : vj_M) : Prop := M.2.1 = 811 ∧ vw_H σ M.1
/-- a number in a field is set -/
def vw_sv (V : Nat → Nat → Int) (k i : Nat) (z : Int) : Nat → Nat → Int := fun k' i' => if k' = k ∧ i' = i then z else V k' i'
theorem vw_nm_sv {V : Nat → Nat → Int} {k i : Nat} {z : Int} (h : vw_nm V) (hz : vw_in z) (h4 : k = 4 → 0 ≤ z ∧ z < 5) (h2 : k = 2 → z = 0 ∨ z = 1) (h11 : k = 11 → z = 0 ∨ z = 1) : vw_nm (vw_sv V k i z) := by
  obtain ⟨a, b, c, d⟩ := h
  refine ⟨fun k' i' => ?_, fun e => ?_, fun e => ?_, fun e => ?_⟩
  · unfold vw_sv
    split
    · exact hz
    · exact a k' i'
  · unfold vw_sv
    by_cases q : 4 = k ∧ e = i
    · rw [if_pos q]; exact h4 q.1.symm
    · rw [if_neg q]; exact b e
  · unfold vw_sv
    by_cases q : 2 = k ∧ e = i
    · rw [if_pos q]; exact h2 q.1.symm
    · rw [if_neg q]; exact c e
  · unfold vw_sv
    by_cases q : 11 = k ∧ e = i
    · rw [if_pos q]; exact h11 q.1.symm
    · rw [if_neg q]; exact d e
/-- a row is set -/
def vw_sr (R : Nat → Nat → List Int) (k i : Nat) (l : List Int) : Nat → Nat → List Int := fun k' i' => if k' = k ∧ i' = i then l else R k' i'
theorem vw_obM {σ : vw_S} {M : vj_M} (h : vw_rep σ M) {q : Nat} (h1 : 8 ≤ q) (h2 : q < 811) : vj_obj M (.ref q) = some q := by
  show vj_ob M q = _
  unfold vj_ob
  rw [if_pos ⟨h1, by rw [h.1]; exact h2⟩]
theorem vw_tb_lt {q a b c : Nat} (h : vw_tb q = (a, b, c)) (ha : a ≠ 0) : 8 ≤ q ∧ q < 811 := by
  refine ⟨Nat.le_of_not_lt fun g => ?_, Nat.lt_of_not_le fun g => ?_⟩
  · have : ∀ j, j < 8 → vw_tb j = (0, 0, 0) := by
      intro j hj
      match j, hj with
      | 0, _ => rfl
      | 1, _ => rfl
      | 2, _ => rfl
      | 3, _ => rfl
      | 4, _ => rfl
      | 5, _ => rfl
      | 6, _ => rfl
      | 7, _ => rfl
      | n + 8, h => omega
    rw [this q g] at h
    cases h
    exact ha rfl
  · have e : vw_tb q = (0, 0, 0) := by
      unfold vw_tb
      rw [vb_nth, List.getElem?_eq_none (show vw_tab.length ≤ q from Nat.le_trans (by decide +kernel) g)]
    rw [e] at h
    cases h
    exact ha rfl
/-- one thing is put elsewhere: the rest stays -/
theorem vw_put_ne (M : vj_M) {q q' : Nat} (c : vj_C) (h : vw_tb q ≠ vw_tb q') : (vj_put M q c).1 q' = M.1 q' := by
  show (if q' = q then c else M.1 q') = _
  rw [if_neg (fun e => h (by rw [e]))]
theorem vw_put_eq (M : vj_M) (q : Nat) (c : vj_C) : (vj_put M q c).1 q = c := if_pos rfl
/-! runs that come to an end -/
section
variable {S : Type} {D : S → vj_M → Prop} {L : Nat} {xs : Nat → Int32} {σ σ' : S} {Q Q' : List Value → S → Prop} {f f' g : vj_F}
def vW {S : Type} (D : S → vj_M → Prop) (L : Nat) (xs : Nat → Int32) (f : vj_F) (σ : S) (Q : List Value → S → Prop) : Prop := ∀ M, D σ M → ∃ n v M' σ', vr_run L xs n f M = some (.inl v, M') ∧ D σ' M' ∧ M'.2 = M.2 ∧ Q v σ'
theorem vW.mono (h : vW D L xs f σ Q) (hQ : ∀ v σ', Q v σ' → Q' v σ') : vW D L xs f σ Q' := fun M hM => by
  obtain ⟨n, v, M', σ', h1, h2, h3, h4⟩ := h M hM
  exact ⟨n, v, M', σ', h1, h2, h3, hQ _ _ h4⟩
theorem vW.next (h : ∀ M, D σ M → ∃ M', vr_step L xs f M = some (.inl (f', M')) ∧ D σ' M' ∧ M'.2 = M.2) (t : vW D L xs f' σ' Q) : vW D L xs f σ Q := fun M hM => by
  obtain ⟨M', h1, h2, h3⟩ := h M hM
  obtain ⟨n, v, M2, σ2, r1, r2, r3, r4⟩ := t M' h2
  refine ⟨n + 1, v, M2, σ2, ?_, r2, r3.trans h3, r4⟩
  rw [vr_succ, h1]
  exact r1
theorem vW.step (h : ∀ M, D σ M → vr_step L xs f M = some (.inl (f', M))) (t : vW D L xs f' σ Q) : vW D L xs f σ Q := vW.next (fun M hM => ⟨M, h M hM, hM, rfl⟩) t
theorem vW.ret {v : List Value} (h : ∀ M, D σ M → vr_step L xs f M = some (.inr (.inr (.inl (v, M))))) (q : Q v σ) : vW D L xs f σ Q := fun M hM => ⟨1, v, M, σ, by rw [vr_succ, h M hM], hM, rfl, q⟩
theorem vW.call {vs : List Value} {a : Nat} (h : ∀ M, D σ M → vr_step L xs f M = some (.inr (.inl (g, vs, a, M)))) (t : vW D L xs (a, 0, vj_args (vt_mi a).2.2.1 vs, []) σ (fun v σ1 => vW D L xs (g.1, g.2.1 + 3, g.2.2.1, v ++ g.2.2.2) σ1 Q)) : vW D L xs f σ Q := fun M hM => by
  obtain ⟨n, v, M1, σ1, r1, r2, r3, r4⟩ := t M hM
  obtain ⟨n2, v2, M2, σ2, s1, s2, s3, s4⟩ := r4 M1 r2
  refine ⟨n + n2 + 1, v2, M2, σ2, ?_, s2, s3.trans r3, s4⟩
  rw [vr_succ, h M hM]
  show (match vr_run L xs (n + n2) (a, 0, vj_args (vt_mi a).2.2.1 vs, []) M with
    | some (.inl v, M2) => vr_run L xs (n + n2) (g.1, g.2.1 + 3, g.2.2.1, v ++ g.2.2.2) M2
    | some (.inr e, M2) => (match vj_catch vt_mi vt_code g e with
      | some (some g') => vr_run L xs (n + n2) g' M2
      | some none => some (.inr e, M2)
      | none => none)
    | none => none) = _
  rw [vr_more n _ _ _ r1 (n + n2) (by omega)]
  exact vr_more n2 _ _ _ s1 (n + n2) (by omega)
/-- a loop that counts -/
theorem vW.loop (P : Nat → vj_F) (Z : Nat → S) (n : Nat) (h : ∀ i, i < n → vW D L xs (P (i + 1)) (Z (i + 1)) Q → vW D L xs (P i) (Z i) Q) (t : vW D L xs (P n) (Z n) Q) : ∀ i, i ≤ n → vW D L xs (P i) (Z i) Q := by
  intro i hi
  obtain ⟨j, rfl⟩ : ∃ j, n = i + j := ⟨n - i, by omega⟩
  clear hi
  induction j generalizing i with
  | zero => exact t
  | succ j ih =>
    refine h i (by omega) (ih (i + 1) ?_ ?_)
    · rw [show i + 1 + j = i + (j + 1) by omega]; exact h
    · rw [show i + 1 + j = i + (j + 1) by omega]; exact t
end
end VW1
