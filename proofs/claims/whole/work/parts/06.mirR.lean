def f_R_no (v1 : Int32) (c_refusals : (Nat → Int32)) : Option (Int32 × (Nat → Int32)) :=
  (rd c_refusals 7 (-v1)).bind fun x1 =>
  (wr c_refusals 7 (-v1) (x1 + (1 : Int32))).bind fun x2 =>
  some (v1, x2)
def f_R_within (v0 : Int32) (v1 : Int32) (v2 : Int32) : Option Int32 :=
  if v0 < v1 then
    some (0 : Int32)
  else
    if v2 < v0 then
      some (0 : Int32)
    else
      some (1 : Int32)
def f_R_isFeet (v1 : Int32) (c_many : Int32) : Option Int32 :=
  (f_R_within v1 (0 : Int32) (c_many - (1 : Int32))).bind fun x1 =>
  (zr x1).bind fun x2 =>
  some x2
def f_R_isCell (v1 : Int32) (c_n : Int32) : Option Int32 :=
  (f_R_within v1 (0 : Int32) ((c_n * c_n) - (1 : Int32))).bind fun x1 =>
  (zr x1).bind fun x2 =>
  some x2
def f_R_isColumn (v1 : Int32) (c_n : Int32) : Option Int32 :=
  (f_R_within v1 (0 : Int32) (c_n - (1 : Int32))).bind fun x1 =>
  (zr x1).bind fun x2 =>
  some x2
def f_R_isPlace (v1 : Int32) (c_n : Int32) : Option Int32 :=
  (f_R_within v1 (-1 : Int32) (c_n - (1 : Int32))).bind fun x1 =>
  (zr x1).bind fun x2 =>
  some x2
def f_R_isShelf (v0 : Int32) : Option Int32 :=
  (f_R_within v0 (0 : Int32) (7 : Int32)).bind fun x1 =>
  (zr x1).bind fun x2 =>
  some x2
def f_R_isRow (v1 : Int32) (c_holding : (Nat → Int32)) : Option Int32 :=
  (rd c_holding 8 v1).bind fun x1 =>
  (f_R_within x1 (0 : Int32) (4 : Int32)).bind fun x2 =>
  (zr x2).bind fun x3 =>
  some x3
def f_R_row_j26 (c_holding : (Nat → Int32)) (c_rowLength : (Nat → Int32)) (c_rowOf : (Nat → Int64)) (c_refusals : (Nat → Int32)) : Option (Int32 × (Nat → Int32) × (Nat → Int32) × (Nat → Int64) × (Nat → Int32)) :=
  (f_R_no (-2 : Int32) c_refusals).bind fun x2 =>
  some (x2.1, c_holding, c_rowLength, c_rowOf, x2.2)
def f_R_row_b50 (v1 : Int32) (v4 : Int32) (c_rowOf : (Nat → Int64)) : Option ((Int32 × (Nat → Int64)) ⊕ (Nat → Int64)) :=
  if (40 : Int32) ≤ v4 then
    some (.inr c_rowOf)
  else
    (wrL c_rowOf 320 (((40 : Int32) * v1) + v4) (0 : Int64)).bind fun x7 =>
    some (.inl ((v4 + (1 : Int32)), x7))
def f_R_row_l50 (v1 : Int32) (v4 : Int32) (c_rowOf : (Nat → Int64)) : Option (Nat → Int64) :=
  iter (fun s => f_R_row_b50 v1 s.1 s.2) FUEL (v4, c_rowOf)
def f_R_row (v1 : Int32) (v2 : Int32) (v3 : Int32) (c_holding : (Nat → Int32)) (c_rowLength : (Nat → Int32)) (c_rowOf : (Nat → Int64)) (c_refusals : (Nat → Int32)) : Option (Int32 × (Nat → Int32) × (Nat → Int32) × (Nat → Int64) × (Nat → Int32)) :=
  (f_R_isShelf v1).bind fun x1 =>
  if x1 = 0 then
    f_R_row_j26 c_holding c_rowLength c_rowOf c_refusals
  else
    (f_R_within v2 (0 : Int32) (4 : Int32)).bind fun x3 =>
    if x3 = 0 then
      f_R_row_j26 c_holding c_rowLength c_rowOf c_refusals
    else
      (f_R_within v3 (0 : Int32) (40 : Int32)).bind fun x4 =>
      if x4 = 0 then
        f_R_row_j26 c_holding c_rowLength c_rowOf c_refusals
      else
        (wr c_holding 8 v1 v2).bind fun x5 =>
        (wr c_rowLength 8 v1 v3).bind fun x6 =>
        (f_R_row_l50 v1 (0 : Int32) c_rowOf).bind fun x8 =>
        some ((1 : Int32), x5, x6, x8, c_refusals)
def f_R_noRow (v1 : Int32) (c_holding : (Nat → Int32)) : Option Int32 :=
  (rd c_holding 8 v1).bind fun x1 =>
  if x1 < (10 : Int32) then
    (rd c_holding 8 v1).bind fun x2 =>
    if 0 ≤ x2 then
      some (0 : Int32)
    else
      some (-4 : Int32)
  else
    some (-3 : Int32)
def f_R_kept (v0 : Int32) (v1 : Int64) : Option Int64 :=
  if v0 = (0 : Int32) then
    some (Int32.toInt64 (i2b (Int64.toInt32 v1)))
  else
  if v0 = (1 : Int32) then
    some (Int32.toInt64 (i2s (Int64.toInt32 v1)))
  else
  if v0 = (2 : Int32) then
    some (Int32.toInt64 (Int64.toInt32 v1))
  else
  if v0 = (3 : Int32) then
    some v1
  else
  if (lg_cmp v1 (0 : Int64)) = 0 then
    some (0 : Int64)
  else
    some (1 : Int64)
def f_R_set (v1 : Int32) (v2 : Int32) (v3 : Int64) (c_holding : (Nat → Int32)) (c_rowLength : (Nat → Int32)) (c_rowOf : (Nat → Int64)) (c_refusals : (Nat → Int32)) : Option (Int32 × (Nat → Int64) × (Nat → Int32)) :=
  (f_R_isShelf v1).bind fun x1 =>
  if x1 = 0 then
    (f_R_no (-2 : Int32) c_refusals).bind fun x11 =>
    some (x11.1, c_rowOf, x11.2)
  else
    (f_R_isRow v1 c_holding).bind fun x2 =>
    if x2 = 0 then
      (f_R_noRow v1 c_holding).bind fun x9 =>
      (f_R_no x9 c_refusals).bind fun x10 =>
      some (x10.1, c_rowOf, x10.2)
    else
      (rd c_rowLength 8 v1).bind fun x3 =>
      (f_R_within v2 (0 : Int32) (x3 - (1 : Int32))).bind fun x4 =>
      if x4 = 0 then
        (f_R_no (-2 : Int32) c_refusals).bind fun x8 =>
        some (x8.1, c_rowOf, x8.2)
      else
        (rd c_holding 8 v1).bind fun x5 =>
        (f_R_kept x5 v3).bind fun x6 =>
        (wrL c_rowOf 320 (((40 : Int32) * v1) + v2) x6).bind fun x7 =>
        some ((1 : Int32), x7, c_refusals)
def f_R_copy_j14 (c_rowOf : (Nat → Int64)) (c_refusals : (Nat → Int32)) : Option (Int32 × (Nat → Int64) × (Nat → Int32)) :=
  (f_R_no (-2 : Int32) c_refusals).bind fun x2 =>
  some (x2.1, c_rowOf, x2.2)
def f_R_copy_j74 (c_rowOf : (Nat → Int64)) (c_refusals : (Nat → Int32)) : Option (Int32 × (Nat → Int64) × (Nat → Int32)) :=
  (f_R_no (-3 : Int32) c_refusals).bind fun x5 =>
  some (x5.1, c_rowOf, x5.2)
def f_R_copy_j99 (c_rowOf : (Nat → Int64)) (c_refusals : (Nat → Int32)) : Option (Int32 × (Nat → Int64) × (Nat → Int32)) :=
  (f_R_no (-4 : Int32) c_refusals).bind fun x9 =>
  some (x9.1, c_rowOf, x9.2)
def f_R_copy_j155 (c_rowOf : (Nat → Int64)) (c_refusals : (Nat → Int32)) : Option (Int32 × (Nat → Int64) × (Nat → Int32)) :=
  (f_R_no (-2 : Int32) c_refusals).bind fun x11 =>
  some (x11.1, c_rowOf, x11.2)
def f_R_copy_b225 (v1 : Int32) (v2 : Int32) (v3 : Int32) (v4 : Int32) (v5 : Int32) (v6 : Int32) (c_rowOf : (Nat → Int64)) : Option ((Int32 × (Nat → Int64)) ⊕ (Nat → Int64)) :=
  if v5 ≤ v6 then
    some (.inr c_rowOf)
  else
    (rdL c_rowOf 320 ((((40 : Int32) * v1) + v3) + v6)).bind fun x14 =>
    (wrL c_rowOf 320 ((((40 : Int32) * v2) + v4) + v6) x14).bind fun x15 =>
    some (.inl ((v6 + (1 : Int32)), x15))
def f_R_copy_l225 (v1 : Int32) (v2 : Int32) (v3 : Int32) (v4 : Int32) (v5 : Int32) (v6 : Int32) (c_rowOf : (Nat → Int64)) : Option (Nat → Int64) :=
  iter (fun s => f_R_copy_b225 v1 v2 v3 v4 v5 s.1 s.2) FUEL (v6, c_rowOf)
def f_R_copy_j222 (v1 : Int32) (v2 : Int32) (v3 : Int32) (v4 : Int32) (v5 : Int32) (c_rowOf : (Nat → Int64)) (c_refusals : (Nat → Int32)) : Option (Int32 × (Nat → Int64) × (Nat → Int32)) :=
  (f_R_copy_l225 v1 v2 v3 v4 v5 (0 : Int32) c_rowOf).bind fun x16 =>
  some (v5, x16, c_refusals)
def f_R_copy_b179 (v1 : Int32) (v2 : Int32) (v3 : Int32) (v4 : Int32) (v6 : Int32) (c_rowOf : (Nat → Int64)) : Option ((Int32 × (Nat → Int64)) ⊕ (Nat → Int64)) :=
  if v6 < 0 then
    some (.inr c_rowOf)
  else
    (rdL c_rowOf 320 ((((40 : Int32) * v1) + v3) + v6)).bind fun x17 =>
    (wrL c_rowOf 320 ((((40 : Int32) * v2) + v4) + v6) x17).bind fun x18 =>
    some (.inl ((v6 + (-1 : Int32)), x18))
def f_R_copy_l179 (v1 : Int32) (v2 : Int32) (v3 : Int32) (v4 : Int32) (v6 : Int32) (c_rowOf : (Nat → Int64)) : Option (Nat → Int64) :=
  iter (fun s => f_R_copy_b179 v1 v2 v3 v4 s.1 s.2) FUEL (v6, c_rowOf)
def f_R_copy_j81 (v1 : Int32) (v2 : Int32) (v3 : Int32) (v4 : Int32) (v5 : Int32) (c_holding : (Nat → Int32)) (c_rowLength : (Nat → Int32)) (c_rowOf : (Nat → Int64)) (c_refusals : (Nat → Int32)) : Option (Int32 × (Nat → Int64) × (Nat → Int32)) :=
  (rd c_holding 8 v1).bind fun x8 =>
  if x8 < 0 then
    f_R_copy_j99 c_rowOf c_refusals
  else
    (rd c_holding 8 v2).bind fun x10 =>
    if 0 ≤ x10 then
      if v5 < 0 then
        f_R_copy_j155 c_rowOf c_refusals
      else
        if v3 < 0 then
          f_R_copy_j155 c_rowOf c_refusals
        else
          if v4 < 0 then
            f_R_copy_j155 c_rowOf c_refusals
          else
            (rd c_rowLength 8 v1).bind fun x12 =>
            if 0 < (lg_cmp ((Int32.toInt64 v3) + (Int32.toInt64 v5)) (Int32.toInt64 x12)) then
              f_R_copy_j155 c_rowOf c_refusals
            else
              (rd c_rowLength 8 v2).bind fun x13 =>
              if (lg_cmp ((Int32.toInt64 v4) + (Int32.toInt64 v5)) (Int32.toInt64 x13)) ≤ 0 then
                if v1 = v2 then
                  if v4 ≤ v3 then
                    f_R_copy_j222 v1 v2 v3 v4 v5 c_rowOf c_refusals
                  else
                    (f_R_copy_l179 v1 v2 v3 v4 (v5 - (1 : Int32)) c_rowOf).bind fun x19 =>
                    some (v5, x19, c_refusals)
                else
                  f_R_copy_j222 v1 v2 v3 v4 v5 c_rowOf c_refusals
              else
                f_R_copy_j155 c_rowOf c_refusals
    else
      f_R_copy_j99 c_rowOf c_refusals
def f_R_copy (v1 : Int32) (v2 : Int32) (v3 : Int32) (v4 : Int32) (v5 : Int32) (c_holding : (Nat → Int32)) (c_rowLength : (Nat → Int32)) (c_rowOf : (Nat → Int64)) (c_refusals : (Nat → Int32)) : Option (Int32 × (Nat → Int64) × (Nat → Int32)) :=
  (f_R_isShelf v1).bind fun x1 =>
  if x1 = 0 then
    f_R_copy_j14 c_rowOf c_refusals
  else
    (f_R_isShelf v2).bind fun x3 =>
    if x3 = 0 then
      f_R_copy_j14 c_rowOf c_refusals
    else
      (rd c_holding 8 v1).bind fun x4 =>
      if (10 : Int32) ≤ x4 then
        f_R_copy_j74 c_rowOf c_refusals
      else
        (rd c_holding 8 v2).bind fun x6 =>
        if (10 : Int32) ≤ x6 then
          f_R_copy_j74 c_rowOf c_refusals
        else
          (f_R_isRow v1 c_holding).bind fun x7 =>
          if x7 = 0 then
            f_R_copy_j81 v1 v2 v3 v4 v5 c_holding c_rowLength c_rowOf c_refusals
          else
            (f_R_isRow v2 c_holding).bind fun x20 =>
            if x20 = 0 then
              f_R_copy_j81 v1 v2 v3 v4 v5 c_holding c_rowLength c_rowOf c_refusals
            else
              (rd c_holding 8 v1).bind fun x21 =>
              (rd c_holding 8 v2).bind fun x22 =>
              if x21 = x22 then
                f_R_copy_j81 v1 v2 v3 v4 v5 c_holding c_rowLength c_rowOf c_refusals
              else
                f_R_copy_j74 c_rowOf c_refusals
def f_R_element (v1 : Int32) (v2 : Int32) (c_holding : (Nat → Int32)) (c_rowLength : (Nat → Int32)) (c_rowOf : (Nat → Int64)) : Option Int64 :=
  (f_R_isShelf v1).bind fun x1 =>
  if x1 = 0 then
    some (0 : Int64)
  else
    (f_R_isRow v1 c_holding).bind fun x2 =>
    if x2 = 0 then
      some (0 : Int64)
    else
      (rd c_rowLength 8 v1).bind fun x3 =>
      (f_R_within v2 (0 : Int32) (x3 - (1 : Int32))).bind fun x4 =>
      if x4 = 0 then
        some (0 : Int64)
      else
        (rdL c_rowOf 320 (((40 : Int32) * v1) + v2)).bind fun x5 =>
        some x5
def f_R_holds (v1 : Int32) (c_holding : (Nat → Int32)) : Option Int32 :=
  (f_R_isShelf v1).bind fun x1 =>
  if x1 = 0 then
    some (-1 : Int32)
  else
    (rd c_holding 8 v1).bind fun x2 =>
    some x2
def f_R_show_j20 (c_holding : (Nat → Int32)) (c_refusals : (Nat → Int32)) : Option (Int32 × (Nat → Int32) × (Nat → Int32)) :=
  (f_R_no (-2 : Int32) c_refusals).bind fun x2 =>
  some (x2.1, c_holding, x2.2)
def f_R_show_j45 (t1 : Int32) (t2 : Int32) (c_holding : (Nat → Int32)) (c_refusals : (Nat → Int32)) : Option (Int32 × (Nat → Int32) × (Nat → Int32)) :=
  (wr c_holding 8 t1 t2).bind fun x3 =>
  some ((1 : Int32), x3, c_refusals)
def f_R_show_j27 (v1 : Int32) (v2 : Int32) (c_holding : (Nat → Int32)) (c_refusals : (Nat → Int32)) : Option (Int32 × (Nat → Int32) × (Nat → Int32)) :=
  if v2 = (-1 : Int32) then
    f_R_show_j45 v1 (-1 : Int32) c_holding c_refusals
  else
    f_R_show_j45 v1 ((10 : Int32) + v2) c_holding c_refusals
def f_R_show (v1 : Int32) (v2 : Int32) (c_many : Int32) (c_holding : (Nat → Int32)) (c_refusals : (Nat → Int32)) : Option (Int32 × (Nat → Int32) × (Nat → Int32)) :=
  (f_R_isShelf v1).bind fun x1 =>
  if x1 = 0 then
    f_R_show_j20 c_holding c_refusals
  else
    if v2 = (-1 : Int32) then
      f_R_show_j27 v1 v2 c_holding c_refusals
    else
      (f_R_isFeet v2 c_many).bind fun x4 =>
      if x4 = 0 then
        f_R_show_j20 c_holding c_refusals
      else
        f_R_show_j27 v1 v2 c_holding c_refusals
def f_R_isUnder_j19 (v0 : Int32) (v1 : Int32) : Option Int32 :=
  if v0 = (4 : Int32) then
    if v1 = (2 : Int32) then
      some (1 : Int32)
    else
      some (0 : Int32)
  else
    some (0 : Int32)
def f_R_isUnder (v0 : Int32) (v1 : Int32) : Option Int32 :=
  if v1 = 0 then
    some (1 : Int32)
  else
    if v0 = v1 then
      some (1 : Int32)
    else
      if v0 = (3 : Int32) then
        if v1 = (1 : Int32) then
          some (1 : Int32)
        else
          f_R_isUnder_j19 v0 v1
      else
        f_R_isUnder_j19 v0 v1
def f_R_wet (v1 : Int32) (c_rain : Int32) (c_gravel : (Nat → Int32)) : Option Int32 :=
  (rd c_gravel 36 v1).bind fun x1 =>
  some (imax (0 : Int32) (x1 - c_rain))
def f_R_crunches (v1 : Int32) (v2 : Int32) (v3 : Int32) (c_rain : Int32) (c_gravel : (Nat → Int32)) (c_kind : (Nat → Int32)) (c_own : (Nat → Int32)) : Option Int32 :=
  (f_R_wet v2 c_rain c_gravel).bind fun x1 =>
  if x1 = 0 then
    some (0 : Int32)
  else
    (rd c_own 8 v1).bind fun x2 =>
    (rd c_kind 8 v1).bind fun x3 =>
    if x3 = (1 : Int32) then
      some ((2 : Int32) * (x1 + x2))
    else
    if x3 = (2 : Int32) then
      some (imax (0 : Int32) ((x1 + x2) - (3 : Int32)))
    else
    if x3 = (3 : Int32) then
      (rm v3 (2 : Int32)).bind fun x4 =>
      some (((2 : Int32) * (x1 + x2)) + x4)
    else
    if x3 = (4 : Int32) then
      if (5 : Int32) ≤ x1 then
        some (imax (0 : Int32) ((x1 + x2) - (3 : Int32)))
      else
        some (0 : Int32)
    else
    if x3 = (5 : Int32) then
      (rm v3 (2 : Int32)).bind fun x5 =>
      if x5 = 0 then
        some (x1 + x2)
      else
        (dv (x1 + x2) (2 : Int32)).bind fun x6 =>
        some x6
    else
    some (x1 + x2)
def f_R_says_j16 (c_refusals : (Nat → Int32)) : Option (Int32 × (Nat → Int32)) :=
  (f_R_no (-2 : Int32) c_refusals).bind fun x2 =>
  some (x2.1, x2.2)
def f_R_says (v1 : Int32) (v2 : Int32) (c_rain : Int32) (c_gravel : (Nat → Int32)) (c_kind : (Nat → Int32)) (c_own : (Nat → Int32)) (c_likely : (Nat → Int32)) (c_holding : (Nat → Int32)) (c_refusals : (Nat → Int32)) : Option (Int32 × (Nat → Int32)) :=
  (f_R_isShelf v1).bind fun x1 =>
  if x1 = 0 then
    f_R_says_j16 c_refusals
  else
    (f_R_within v2 (0 : Int32) (5 : Int32)).bind fun x3 =>
    if x3 = 0 then
      f_R_says_j16 c_refusals
    else
      (f_R_isRow v1 c_holding).bind fun x4 =>
      if x4 = 0 then
        (rd c_holding 8 v1).bind fun x5 =>
        if 0 ≤ x5 then
          (rd c_holding 8 v1).bind fun x6 =>
          (rd c_kind 8 (x6 - (10 : Int32))).bind fun x7 =>
          (f_R_isUnder x7 v2).bind fun x8 =>
          if x8 = 0 then
            (f_R_no (-3 : Int32) c_refusals).bind fun x11 =>
            some (x11.1, x11.2)
          else
            if v2 = 0 then
              (rd c_likely 8 (x6 - (10 : Int32))).bind fun x10 =>
              some (x10, c_refusals)
            else
              (f_R_crunches (x6 - (10 : Int32)) (0 : Int32) (1 : Int32) c_rain c_gravel c_kind c_own).bind fun x9 =>
              some (x9, c_refusals)
        else
          (f_R_no (-4 : Int32) c_refusals).bind fun x12 =>
          some (x12.1, x12.2)
      else
        (f_R_no (-3 : Int32) c_refusals).bind fun x13 =>
        some (x13.1, x13.2)
def f_R_stepOn (v1 : Int32) (v2 : Int32) (c_n : Int32) (c_rain : Int32) (c_gravel : (Nat → Int32)) (c_kind : (Nat → Int32)) (c_own : (Nat → Int32)) : Option Int32 :=
  (dv v2 c_n).bind fun x1 =>
  (f_R_crunches v1 v2 x1 c_rain c_gravel c_kind c_own).bind fun x2 =>
  some x2
def f_R_sides_b12 (v3 : Int32) (c_gravel : (Nat → Int32)) : Option ((Int32 × (Nat → Int32)) ⊕ (Nat → Int32)) :=
  if (36 : Int32) ≤ v3 then
    some (.inr c_gravel)
  else
    (wr c_gravel 36 v3 (3 : Int32)).bind fun x1 =>
    some (.inl ((v3 + (1 : Int32)), x1))
def f_R_sides_l12 (v3 : Int32) (c_gravel : (Nat → Int32)) : Option (Nat → Int32) :=
  iter (fun s => f_R_sides_b12 s.1 s.2) FUEL (v3, c_gravel)
def f_R_sides (v1 : Int32) (c_n : Int32) (c_gravel : (Nat → Int32)) : Option (Int32 × Int32 × (Nat → Int32)) :=
  (f_R_sides_l12 (0 : Int32) c_gravel).bind fun x2 =>
  some (c_n, v1, x2)
def f_R_side (v1 : Int32) (c_n : Int32) (c_gravel : (Nat → Int32)) (c_refusals : (Nat → Int32)) : Option (Int32 × Int32 × (Nat → Int32) × (Nat → Int32)) :=
  (f_R_within v1 (2 : Int32) (6 : Int32)).bind fun x1 =>
  if x1 = 0 then
    (f_R_no (-2 : Int32) c_refusals).bind fun x2 =>
    some (x2.1, c_n, c_gravel, x2.2)
  else
    (f_R_sides v1 c_n c_gravel).bind fun x3 =>
    some (x3.1, x3.2.1, x3.2.2, c_refusals)
def f_R_gravel_j18 (c_gravel : (Nat → Int32)) (c_refusals : (Nat → Int32)) : Option (Int32 × (Nat → Int32) × (Nat → Int32)) :=
  (f_R_no (-2 : Int32) c_refusals).bind fun x2 =>
  some (x2.1, c_gravel, x2.2)
def f_R_gravel (v1 : Int32) (v2 : Int32) (c_n : Int32) (c_gravel : (Nat → Int32)) (c_refusals : (Nat → Int32)) : Option (Int32 × (Nat → Int32) × (Nat → Int32)) :=
  (f_R_isCell v1 c_n).bind fun x1 =>
  if x1 = 0 then
    f_R_gravel_j18 c_gravel c_refusals
  else
    (f_R_within v2 (0 : Int32) (9 : Int32)).bind fun x3 =>
    if x3 = 0 then
      f_R_gravel_j18 c_gravel c_refusals
    else
      (rd c_gravel 36 v1).bind fun x4 =>
      (wr c_gravel 36 v1 v2).bind fun x5 =>
      some (x4, x5, c_refusals)
def f_R_ask_j28 (c_rain : Int32) (c_ear : Int32) (c_refusals : (Nat → Int32)) : Option (Int32 × Int32 × Int32 × (Nat → Int32)) :=
  (f_R_no (-2 : Int32) c_refusals).bind fun x2 =>
  some (x2.1, c_rain, c_ear, x2.2)
def f_R_ask_j50 (v1 : Int32) (v2 : Int32) (t0 : Int32) (c_rain : Int32) (c_ear : Int32) (c_refusals : (Nat → Int32)) : Option (Int32 × Int32 × Int32 × (Nat → Int32)) :=
  if v1 = 0 then
    some (t0, v2, c_ear, c_refusals)
  else
    some (t0, c_rain, v2, c_refusals)
def f_R_ask_j22 (v1 : Int32) (v2 : Int32) (t0 : Int32) (t1 : Int32) (t2 : Int32) (c_rain : Int32) (c_ear : Int32) (c_refusals : (Nat → Int32)) : Option (Int32 × Int32 × Int32 × (Nat → Int32)) :=
  (f_R_within t0 t1 t2).bind fun x3 =>
  if x3 = 0 then
    f_R_ask_j28 c_rain c_ear c_refusals
  else
    if v1 = 0 then
      f_R_ask_j50 v1 v2 c_rain c_rain c_ear c_refusals
    else
      f_R_ask_j50 v1 v2 c_ear c_rain c_ear c_refusals
def f_R_ask (v1 : Int32) (v2 : Int32) (c_rain : Int32) (c_ear : Int32) (c_refusals : (Nat → Int32)) : Option (Int32 × Int32 × Int32 × (Nat → Int32)) :=
  (f_R_within v1 (0 : Int32) (1 : Int32)).bind fun x1 =>
  if x1 = 0 then
    f_R_ask_j28 c_rain c_ear c_refusals
  else
    if v1 = 0 then
      f_R_ask_j22 v1 v2 v2 v1 (9 : Int32) c_rain c_ear c_refusals
    else
      f_R_ask_j22 v1 v2 v2 v1 (99 : Int32) c_rain c_ear c_refusals
def f_R_newFeet (v1 : Int32) (v2 : Int32) (v3 : Int32) (c_many : Int32) (c_kind : (Nat → Int32)) (c_own : (Nat → Int32)) (c_likely : (Nat → Int32)) : Option (Int32 × Int32 × (Nat → Int32) × (Nat → Int32) × (Nat → Int32)) :=
  (wr c_kind 8 c_many v1).bind fun x1 =>
  (wr c_own 8 c_many v2).bind fun x2 =>
  (wr c_likely 8 c_many v3).bind fun x3 =>
  some (c_many, (c_many + (1 : Int32)), x1, x2, x3)
def f_R_feet_j29 (c_many : Int32) (c_kind : (Nat → Int32)) (c_own : (Nat → Int32)) (c_likely : (Nat → Int32)) (c_refusals : (Nat → Int32)) : Option (Int32 × Int32 × (Nat → Int32) × (Nat → Int32) × (Nat → Int32) × (Nat → Int32)) :=
  (f_R_no (-2 : Int32) c_refusals).bind fun x2 =>
  some (x2.1, c_many, c_kind, c_own, c_likely, x2.2)
def f_R_feet (v1 : Int32) (v2 : Int32) (v3 : Int32) (c_many : Int32) (c_kind : (Nat → Int32)) (c_own : (Nat → Int32)) (c_likely : (Nat → Int32)) (c_refusals : (Nat → Int32)) : Option (Int32 × Int32 × (Nat → Int32) × (Nat → Int32) × (Nat → Int32) × (Nat → Int32)) :=
  (f_R_within v1 (0 : Int32) (5 : Int32)).bind fun x1 =>
  if x1 = 0 then
    f_R_feet_j29 c_many c_kind c_own c_likely c_refusals
  else
    (f_R_within v2 (0 : Int32) (9 : Int32)).bind fun x3 =>
    if x3 = 0 then
      f_R_feet_j29 c_many c_kind c_own c_likely c_refusals
    else
      (f_R_within v3 (1 : Int32) (99 : Int32)).bind fun x4 =>
      if x4 = 0 then
        f_R_feet_j29 c_many c_kind c_own c_likely c_refusals
      else
        if c_many = (8 : Int32) then
          (f_R_no (-6 : Int32) c_refusals).bind fun x6 =>
          some (x6.1, c_many, c_kind, c_own, c_likely, x6.2)
        else
          (f_R_newFeet v1 v2 v3 c_many c_kind c_own c_likely).bind fun x5 =>
          some (x5.1, x5.2.1, x5.2.2.1, x5.2.2.2.1, x5.2.2.2.2, c_refusals)
def f_R_rakes_b2 (c_n : Int32) (v1 : Int32) (c_gravel : (Nat → Int32)) : Option ((Int32 × (Nat → Int32)) ⊕ (Nat → Int32)) :=
  if (c_n * c_n) ≤ v1 then
    some (.inr c_gravel)
  else
    (rd c_gravel 36 v1).bind fun x1 =>
    if x1 ≤ 0 then
      some (.inl ((v1 + (1 : Int32)), c_gravel))
    else
      (rd c_gravel 36 v1).bind fun x2 =>
      if (9 : Int32) ≤ x2 then
        some (.inl ((v1 + (1 : Int32)), c_gravel))
      else
        (rd c_gravel 36 v1).bind fun x3 =>
        (wr c_gravel 36 v1 (x3 + (1 : Int32))).bind fun x4 =>
        some (.inl ((v1 + (1 : Int32)), x4))
def f_R_rakes_l2 (c_n : Int32) (v1 : Int32) (c_gravel : (Nat → Int32)) : Option (Nat → Int32) :=
  iter (fun s => f_R_rakes_b2 c_n s.1 s.2) FUEL (v1, c_gravel)
def f_R_rakes (c_n : Int32) (c_gravel : (Nat → Int32)) : Option (Nat → Int32) :=
  (f_R_rakes_l2 c_n (0 : Int32) c_gravel).bind fun x5 =>
  some x5
def f_R_feed (v1 : Int32) (c_taped : Int32) (c_tape : (Nat → Int32)) (c_refusals : (Nat → Int32)) : Option (Int32 × Int32 × (Nat → Int32) × (Nat → Int32)) :=
  (f_R_within v1 (0 : Int32) (255 : Int32)).bind fun x1 =>
  if x1 = 0 then
    (f_R_no (-2 : Int32) c_refusals).bind fun x4 =>
    some (x4.1, c_taped, c_tape, x4.2)
  else
    if c_taped = (250 : Int32) then
      (f_R_no (-6 : Int32) c_refusals).bind fun x3 =>
      some (x3.1, c_taped, c_tape, x3.2)
    else
      (wr c_tape 250 c_taped v1).bind fun x2 =>
      some ((c_taped + (1 : Int32)), (c_taped + (1 : Int32)), x2, c_refusals)
def f_R_wipe (c_taped : Int32) : Option (Int32 × Int32) :=
  some (c_taped, (0 : Int32))
def f_R_isLetter (v0 : Int32) : Option Int32 :=
  if v0 < (97 : Int32) then
    some (0 : Int32)
  else
    if (122 : Int32) < v0 then
      some (0 : Int32)
    else
      some (1 : Int32)
def f_R_isDigit (v0 : Int32) : Option Int32 :=
  if v0 < (48 : Int32) then
    some (0 : Int32)
  else
    if (57 : Int32) < v0 then
      some (0 : Int32)
    else
      some (1 : Int32)
def f_R_next_b8 (c_taped : Int32) (c_tape : (Nat → Int32)) (c_from : Int32) : Option (Int32 ⊕ Int32) :=
  if c_taped ≤ c_from then
    some (.inr c_from)
  else
    (rd c_tape 250 c_from).bind fun x1 =>
    if x1 = (32 : Int32) then
      some (.inl (c_from + (1 : Int32)))
    else
      some (.inr c_from)
def f_R_next_l8 (c_taped : Int32) (c_tape : (Nat → Int32)) (c_from : Int32) : Option Int32 :=
  iter (fun s => f_R_next_b8 c_taped c_tape s) FUEL c_from
def f_R_next_j222 (c_to : Int32) (c_value : Int32) : Option ((Int32 × Int32) ⊕ (Int32 × Int32)) :=
  some (.inl ((c_to + (1 : Int32)), c_value))
def f_R_next_b159 (c_taped : Int32) (c_from : Int32) (c_tape : (Nat → Int32)) (c_to : Int32) (c_value : Int32) : Option ((Int32 × Int32) ⊕ (Int32 × Int32)) :=
  if c_taped ≤ c_to then
    some (.inr (c_to, c_value))
  else
    (rd c_tape 250 c_to).bind fun x6 =>
    (f_R_isDigit x6).bind fun x7 =>
    if x7 = 0 then
      some (.inr (c_to, c_value))
    else
      if (2 : Int32) ≤ (c_to - c_from) then
        f_R_next_j222 c_to c_value
      else
        (rd c_tape 250 c_to).bind fun x8 =>
        f_R_next_j222 c_to ((((10 : Int32) * c_value) + x8) - (48 : Int32))
def f_R_next_l159 (c_taped : Int32) (c_from : Int32) (c_tape : (Nat → Int32)) (c_to : Int32) (c_value : Int32) : Option (Int32 × Int32) :=
  iter (fun s => f_R_next_b159 c_taped c_from c_tape s.1 s.2) FUEL (c_to, c_value)
def f_R_next_b96 (c_taped : Int32) (c_tape : (Nat → Int32)) (c_to : Int32) : Option (Int32 ⊕ Int32) :=
  if c_taped ≤ c_to then
    some (.inr c_to)
  else
    (rd c_tape 250 c_to).bind fun x10 =>
    (f_R_isLetter x10).bind fun x11 =>
    if x11 = 0 then
      some (.inr c_to)
    else
      some (.inl (c_to + (1 : Int32)))
def f_R_next_l96 (c_taped : Int32) (c_tape : (Nat → Int32)) (c_to : Int32) : Option Int32 :=
  iter (fun s => f_R_next_b96 c_taped c_tape s) FUEL c_to
def f_R_next (c_taped : Int32) (c_from : Int32) (c_to : Int32) (c_token : Int32) (c_value : Int32) (c_tape : (Nat → Int32)) : Option (Int32 × Int32 × Int32 × Int32) :=
  (f_R_next_l8 c_taped c_tape c_to).bind fun x2 =>
  if x2 = c_taped then
    some (x2, x2, (101 : Int32), c_value)
  else
    (rd c_tape 250 x2).bind fun x3 =>
    (f_R_isLetter x3).bind fun x4 =>
    if x4 = 0 then
      (f_R_isDigit x3).bind fun x5 =>
      if x5 = 0 then
        if x3 = (59 : Int32) then
          some (x2, (x2 + (1 : Int32)), (59 : Int32), c_value)
        else
          some (x2, (x2 + (1 : Int32)), (120 : Int32), c_value)
      else
        (f_R_next_l159 c_taped x2 c_tape (x2 + (1 : Int32)) (x3 - (48 : Int32))).bind fun x9 =>
        if (x9.1 - x2) ≤ (2 : Int32) then
          some (x2, x9.1, (48 : Int32), x9.2)
        else
          some (x2, x9.1, (120 : Int32), x9.2)
    else
      (f_R_next_l96 c_taped c_tape (x2 + (1 : Int32))).bind fun x12 =>
      some (x2, x12, (119 : Int32), c_value)
def f_R_isWord_b29 (v1 : Nat) (c_from : Int32) (c_tape : (Nat → Int32)) (v2 : Int32) : Option (Int32 ⊕ (Unit ⊕ Unit)) :=
  if (slen v1) ≤ v2 then
    some (.inr (.inr ()))
  else
    (rd c_tape 250 (c_from + v2)).bind fun x1 =>
    (schr v1 v2).bind fun x2 =>
    if x1 = x2 then
      some (.inl (v2 + (1 : Int32)))
    else
      some (.inr (.inl ()))
def f_R_isWord_l29 (v1 : Nat) (c_from : Int32) (c_tape : (Nat → Int32)) (v2 : Int32) : Option (Unit ⊕ Unit) :=
  iter (fun s => f_R_isWord_b29 v1 c_from c_tape s) FUEL v2
def f_R_isWord (v1 : Nat) (c_from : Int32) (c_to : Int32) (c_token : Int32) (c_tape : (Nat → Int32)) : Option Int32 :=
  if c_token = (119 : Int32) then
    if (c_to - c_from) = (slen v1) then
      (f_R_isWord_l29 v1 c_from c_tape (0 : Int32)).bind fun x3 =>
      Sum.elim (fun x4 =>
        some (0 : Int32))
      (fun x5 =>
        some (1 : Int32)) x3
    else
      some (0 : Int32)
  else
    some (0 : Int32)
def f_R_number (v1 : Int32) (v2 : Int32) (c_taped : Int32) (c_from : Int32) (c_to : Int32) (c_token : Int32) (c_value : Int32) (c_tape : (Nat → Int32)) : Option (Int32 × Int32 × Int32 × Int32 × Int32) :=
  (f_R_next c_taped c_from c_to c_token c_value c_tape).bind fun x1 =>
  if x1.2.2.1 = (48 : Int32) then
    (f_R_within x1.2.2.2 v1 v2).bind fun x2 =>
    if x2 = 0 then
      some ((-1 : Int32), x1.1, x1.2.1, x1.2.2.1, x1.2.2.2)
    else
      some (x1.2.2.2, x1.1, x1.2.1, x1.2.2.1, x1.2.2.2)
  else
    some ((-1 : Int32), x1.1, x1.2.1, x1.2.2.1, x1.2.2.2)
def f_R_statement_j208 (v1 : Int32) (v2 : Int32) (t0 : Int32) (c_n : Int32) (c_rain : Int32) (c_ear : Int32) (c_many : Int32) (c_from : Int32) (c_to : Int32) (c_token : Int32) (c_value : Int32) (c_gravel : (Nat → Int32)) (c_kind : (Nat → Int32)) (c_own : (Nat → Int32)) (c_likely : (Nat → Int32)) : Option (Int32 × Int32 × Int32 × Int32 × Int32 × Int32 × Int32 × Int32 × Int32 × (Nat → Int32) × (Nat → Int32) × (Nat → Int32) × (Nat → Int32)) :=
  if t0 = (-1 : Int32) then
    some ((0 : Int32), c_n, c_rain, c_ear, c_many, c_from, c_to, c_token, c_value, c_gravel, c_kind, c_own, c_likely)
  else
    (f_R_newFeet v1 v2 t0 c_many c_kind c_own c_likely).bind fun x13 =>
    some ((1 : Int32), c_n, c_rain, c_ear, x13.2.1, c_from, c_to, c_token, c_value, c_gravel, x13.2.2.1, x13.2.2.2.1, x13.2.2.2.2)
def f_R_statement_j191 (v1 : Int32) (t0 : Int32) (c_n : Int32) (c_rain : Int32) (c_ear : Int32) (c_many : Int32) (c_taped : Int32) (c_from : Int32) (c_to : Int32) (c_token : Int32) (c_value : Int32) (c_gravel : (Nat → Int32)) (c_kind : (Nat → Int32)) (c_own : (Nat → Int32)) (c_likely : (Nat → Int32)) (c_tape : (Nat → Int32)) : Option (Int32 × Int32 × Int32 × Int32 × Int32 × Int32 × Int32 × Int32 × Int32 × (Nat → Int32) × (Nat → Int32) × (Nat → Int32) × (Nat → Int32)) :=
  if t0 = (-1 : Int32) then
    f_R_statement_j208 v1 t0 (-1 : Int32) c_n c_rain c_ear c_many c_from c_to c_token c_value c_gravel c_kind c_own c_likely
  else
    (f_R_number (1 : Int32) (99 : Int32) c_taped c_from c_to c_token c_value c_tape).bind fun x12 =>
    f_R_statement_j208 v1 t0 x12.1 c_n c_rain c_ear c_many x12.2.1 x12.2.2.1 x12.2.2.2.1 x12.2.2.2.2 c_gravel c_kind c_own c_likely
def f_R_statement_j74 (v1 : Int32) (t0 : Int32) (c_n : Int32) (c_rain : Int32) (c_ear : Int32) (c_many : Int32) (c_from : Int32) (c_to : Int32) (c_token : Int32) (c_value : Int32) (c_gravel : (Nat → Int32)) (c_kind : (Nat → Int32)) (c_own : (Nat → Int32)) (c_likely : (Nat → Int32)) : Option (Int32 × Int32 × Int32 × Int32 × Int32 × Int32 × Int32 × Int32 × Int32 × (Nat → Int32) × (Nat → Int32) × (Nat → Int32) × (Nat → Int32)) :=
  if t0 = (-1 : Int32) then
    some ((0 : Int32), c_n, c_rain, c_ear, c_many, c_from, c_to, c_token, c_value, c_gravel, c_kind, c_own, c_likely)
  else
    (wr c_gravel 36 v1 t0).bind fun x19 =>
    some ((1 : Int32), c_n, c_rain, c_ear, c_many, c_from, c_to, c_token, c_value, x19, c_kind, c_own, c_likely)
def f_R_statement (c_n : Int32) (c_rain : Int32) (c_ear : Int32) (c_many : Int32) (c_taped : Int32) (c_from : Int32) (c_to : Int32) (c_token : Int32) (c_value : Int32) (c_gravel : (Nat → Int32)) (c_kind : (Nat → Int32)) (c_own : (Nat → Int32)) (c_likely : (Nat → Int32)) (c_tape : (Nat → Int32)) : Option (Int32 × Int32 × Int32 × Int32 × Int32 × Int32 × Int32 × Int32 × Int32 × (Nat → Int32) × (Nat → Int32) × (Nat → Int32) × (Nat → Int32)) :=
  (f_R_isWord 2 c_from c_to c_token c_tape).bind fun x1 =>
  if x1 = 0 then
    (f_R_isWord 3 c_from c_to c_token c_tape).bind fun x2 =>
    if x2 = 0 then
      (f_R_isWord 4 c_from c_to c_token c_tape).bind fun x3 =>
      if x3 = 0 then
        (f_R_isWord 1 c_from c_to c_token c_tape).bind fun x4 =>
        if x4 = 0 then
          (f_R_isWord 0 c_from c_to c_token c_tape).bind fun x5 =>
          if x5 = 0 then
            (f_R_isWord 5 c_from c_to c_token c_tape).bind fun x6 =>
            if x6 = 0 then
              (f_R_isWord 6 c_from c_to c_token c_tape).bind fun x7 =>
              if x7 = 0 then
                some ((0 : Int32), c_n, c_rain, c_ear, c_many, c_from, c_to, c_token, c_value, c_gravel, c_kind, c_own, c_likely)
              else
                (f_R_number (1 : Int32) (99 : Int32) c_taped c_from c_to c_token c_value c_tape).bind fun x8 =>
                if x8.1 = (-1 : Int32) then
                  some ((0 : Int32), c_n, c_rain, c_ear, c_many, x8.2.1, x8.2.2.1, x8.2.2.2.1, x8.2.2.2.2, c_gravel, c_kind, c_own, c_likely)
                else
                  some ((1 : Int32), c_n, c_rain, x8.1, c_many, x8.2.1, x8.2.2.1, x8.2.2.2.1, x8.2.2.2.2, c_gravel, c_kind, c_own, c_likely)
            else
              (f_R_number (0 : Int32) (9 : Int32) c_taped c_from c_to c_token c_value c_tape).bind fun x9 =>
              if x9.1 = (-1 : Int32) then
                some ((0 : Int32), c_n, c_rain, c_ear, c_many, x9.2.1, x9.2.2.1, x9.2.2.2.1, x9.2.2.2.2, c_gravel, c_kind, c_own, c_likely)
              else
                some ((1 : Int32), c_n, x9.1, c_ear, c_many, x9.2.1, x9.2.2.1, x9.2.2.2.1, x9.2.2.2.2, c_gravel, c_kind, c_own, c_likely)
          else
            if c_many = (8 : Int32) then
              some ((0 : Int32), c_n, c_rain, c_ear, c_many, c_from, c_to, c_token, c_value, c_gravel, c_kind, c_own, c_likely)
            else
              (f_R_number (0 : Int32) (5 : Int32) c_taped c_from c_to c_token c_value c_tape).bind fun x10 =>
              if x10.1 = (-1 : Int32) then
                f_R_statement_j191 x10.1 (-1 : Int32) c_n c_rain c_ear c_many c_taped x10.2.1 x10.2.2.1 x10.2.2.2.1 x10.2.2.2.2 c_gravel c_kind c_own c_likely c_tape
              else
                (f_R_number (0 : Int32) (9 : Int32) c_taped x10.2.1 x10.2.2.1 x10.2.2.2.1 x10.2.2.2.2 c_tape).bind fun x11 =>
                f_R_statement_j191 x10.1 x11.1 c_n c_rain c_ear c_many c_taped x11.2.1 x11.2.2.1 x11.2.2.2.1 x11.2.2.2.2 c_gravel c_kind c_own c_likely c_tape
        else
          (f_R_rakes c_n c_gravel).bind fun x14 =>
          some ((1 : Int32), c_n, c_rain, c_ear, c_many, c_from, c_to, c_token, c_value, x14, c_kind, c_own, c_likely)
      else
        (f_R_number (0 : Int32) ((c_n * c_n) - (1 : Int32)) c_taped c_from c_to c_token c_value c_tape).bind fun x15 =>
        if x15.1 = (-1 : Int32) then
          some ((0 : Int32), c_n, c_rain, c_ear, c_many, x15.2.1, x15.2.2.1, x15.2.2.2.1, x15.2.2.2.2, c_gravel, c_kind, c_own, c_likely)
        else
          (wr c_gravel 36 x15.1 (0 : Int32)).bind fun x16 =>
          some ((1 : Int32), c_n, c_rain, c_ear, c_many, x15.2.1, x15.2.2.1, x15.2.2.2.1, x15.2.2.2.2, x16, c_kind, c_own, c_likely)
    else
      (f_R_number (0 : Int32) ((c_n * c_n) - (1 : Int32)) c_taped c_from c_to c_token c_value c_tape).bind fun x17 =>
      if x17.1 = (-1 : Int32) then
        f_R_statement_j74 x17.1 (-1 : Int32) c_n c_rain c_ear c_many x17.2.1 x17.2.2.1 x17.2.2.2.1 x17.2.2.2.2 c_gravel c_kind c_own c_likely
      else
        (f_R_number (0 : Int32) (9 : Int32) c_taped x17.2.1 x17.2.2.1 x17.2.2.2.1 x17.2.2.2.2 c_tape).bind fun x18 =>
        f_R_statement_j74 x17.1 x18.1 c_n c_rain c_ear c_many x18.2.1 x18.2.2.1 x18.2.2.2.1 x18.2.2.2.2 c_gravel c_kind c_own c_likely
  else
    (f_R_number (2 : Int32) (6 : Int32) c_taped c_from c_to c_token c_value c_tape).bind fun x20 =>
    if x20.1 = (-1 : Int32) then
      some ((0 : Int32), c_n, c_rain, c_ear, c_many, x20.2.1, x20.2.2.1, x20.2.2.2.1, x20.2.2.2.2, c_gravel, c_kind, c_own, c_likely)
    else
      (f_R_sides x20.1 c_n c_gravel).bind fun x21 =>
      some ((1 : Int32), x21.2.1, c_rain, c_ear, c_many, x20.2.1, x20.2.2.1, x20.2.2.2.1, x20.2.2.2.2, x21.2.2, c_kind, c_own, c_likely)
def f_R_keep_b2 (c_gravel : (Nat → Int32)) (v2 : Int32) (c_p1 : (Nat → Int32)) : Option ((Int32 × (Nat → Int32)) ⊕ (Nat → Int32)) :=
  if (36 : Int32) ≤ v2 then
    some (.inr c_p1)
  else
    (rd c_gravel 36 v2).bind fun x1 =>
    (wr c_p1 65 v2 x1).bind fun x2 =>
    some (.inl ((v2 + (1 : Int32)), x2))
def f_R_keep_l2 (c_gravel : (Nat → Int32)) (v2 : Int32) (c_p1 : (Nat → Int32)) : Option (Nat → Int32) :=
  iter (fun s => f_R_keep_b2 c_gravel s.1 s.2) FUEL (v2, c_p1)
def f_R_keep_b25 (c_kind : (Nat → Int32)) (c_own : (Nat → Int32)) (c_likely : (Nat → Int32)) (v2 : Int32) (c_p1 : (Nat → Int32)) : Option ((Int32 × (Nat → Int32)) ⊕ (Nat → Int32)) :=
  if (8 : Int32) ≤ v2 then
    some (.inr c_p1)
  else
    (rd c_kind 8 v2).bind fun x4 =>
    (wr c_p1 65 ((36 : Int32) + v2) x4).bind fun x5 =>
    (rd c_own 8 v2).bind fun x6 =>
    (wr x5 65 ((44 : Int32) + v2) x6).bind fun x7 =>
    (rd c_likely 8 v2).bind fun x8 =>
    (wr x7 65 ((52 : Int32) + v2) x8).bind fun x9 =>
    some (.inl ((v2 + (1 : Int32)), x9))
def f_R_keep_l25 (c_kind : (Nat → Int32)) (c_own : (Nat → Int32)) (c_likely : (Nat → Int32)) (v2 : Int32) (c_p1 : (Nat → Int32)) : Option (Nat → Int32) :=
  iter (fun s => f_R_keep_b25 c_kind c_own c_likely s.1 s.2) FUEL (v2, c_p1)
def f_R_keep (c_n : Int32) (c_rain : Int32) (c_ear : Int32) (c_many : Int32) (c_seed : Int32) (c_gravel : (Nat → Int32)) (c_kind : (Nat → Int32)) (c_own : (Nat → Int32)) (c_likely : (Nat → Int32)) (c_p1 : (Nat → Int32)) : Option (Nat → Int32) :=
  (f_R_keep_l2 c_gravel (0 : Int32) c_p1).bind fun x3 =>
  (f_R_keep_l25 c_kind c_own c_likely (0 : Int32) x3).bind fun x10 =>
  (wr x10 65 (60 : Int32) c_n).bind fun x11 =>
  (wr x11 65 (61 : Int32) c_rain).bind fun x12 =>
  (wr x12 65 (62 : Int32) c_ear).bind fun x13 =>
  (wr x13 65 (63 : Int32) c_many).bind fun x14 =>
  (wr x14 65 (64 : Int32) c_seed).bind fun x15 =>
  some x15
def f_R_again_b2 (c_p1 : (Nat → Int32)) (v2 : Int32) (c_gravel : (Nat → Int32)) : Option ((Int32 × (Nat → Int32)) ⊕ (Nat → Int32)) :=
  if (36 : Int32) ≤ v2 then
    some (.inr c_gravel)
  else
    (rd c_p1 65 v2).bind fun x1 =>
    (wr c_gravel 36 v2 x1).bind fun x2 =>
    some (.inl ((v2 + (1 : Int32)), x2))
def f_R_again_l2 (c_p1 : (Nat → Int32)) (v2 : Int32) (c_gravel : (Nat → Int32)) : Option (Nat → Int32) :=
  iter (fun s => f_R_again_b2 c_p1 s.1 s.2) FUEL (v2, c_gravel)
def f_R_again_b25 (c_p1 : (Nat → Int32)) (v2 : Int32) (c_kind : (Nat → Int32)) (c_own : (Nat → Int32)) (c_likely : (Nat → Int32)) : Option ((Int32 × (Nat → Int32) × (Nat → Int32) × (Nat → Int32)) ⊕ ((Nat → Int32) × (Nat → Int32) × (Nat → Int32))) :=
  if (8 : Int32) ≤ v2 then
    some (.inr (c_kind, c_own, c_likely))
  else
    (rd c_p1 65 ((36 : Int32) + v2)).bind fun x4 =>
    (wr c_kind 8 v2 x4).bind fun x5 =>
    (rd c_p1 65 ((44 : Int32) + v2)).bind fun x6 =>
    (wr c_own 8 v2 x6).bind fun x7 =>
    (rd c_p1 65 ((52 : Int32) + v2)).bind fun x8 =>
    (wr c_likely 8 v2 x8).bind fun x9 =>
    some (.inl ((v2 + (1 : Int32)), x5, x7, x9))
def f_R_again_l25 (c_p1 : (Nat → Int32)) (v2 : Int32) (c_kind : (Nat → Int32)) (c_own : (Nat → Int32)) (c_likely : (Nat → Int32)) : Option ((Nat → Int32) × (Nat → Int32) × (Nat → Int32)) :=
  iter (fun s => f_R_again_b25 c_p1 s.1 s.2.1 s.2.2.1 s.2.2.2) FUEL (v2, c_kind, c_own, c_likely)
def f_R_again (c_n : Int32) (c_rain : Int32) (c_ear : Int32) (c_many : Int32) (c_seed : Int32) (c_gravel : (Nat → Int32)) (c_kind : (Nat → Int32)) (c_own : (Nat → Int32)) (c_likely : (Nat → Int32)) (c_p1 : (Nat → Int32)) : Option (Int32 × Int32 × Int32 × Int32 × Int32 × (Nat → Int32) × (Nat → Int32) × (Nat → Int32) × (Nat → Int32)) :=
  (f_R_again_l2 c_p1 (0 : Int32) c_gravel).bind fun x3 =>
  (f_R_again_l25 c_p1 (0 : Int32) c_kind c_own c_likely).bind fun x10 =>
  (rd c_p1 65 (60 : Int32)).bind fun x11 =>
  (rd c_p1 65 (61 : Int32)).bind fun x12 =>
  (rd c_p1 65 (62 : Int32)).bind fun x13 =>
  (rd c_p1 65 (63 : Int32)).bind fun x14 =>
  (rd c_p1 65 (64 : Int32)).bind fun x15 =>
  some (x11, x12, x13, x14, x15, x3, x10.1, x10.2.1, x10.2.2)
def f_R_drive_b17 (c_taped : Int32) (c_tape : (Nat → Int32)) (v1 : Int32) (v2 : Int32) (c_n : Int32) (c_rain : Int32) (c_ear : Int32) (c_many : Int32) (c_from : Int32) (c_to : Int32) (c_token : Int32) (c_value : Int32) (c_gravel : (Nat → Int32)) (c_kind : (Nat → Int32)) (c_own : (Nat → Int32)) (c_likely : (Nat → Int32)) : Option ((Int32 × Int32 × Int32 × Int32 × Int32 × Int32 × Int32 × Int32 × Int32 × Int32 × (Nat → Int32) × (Nat → Int32) × (Nat → Int32) × (Nat → Int32)) ⊕ ((Int32 × Int32 × Int32 × Int32 × Int32 × Int32 × Int32 × Int32 × Int32 × (Nat → Int32) × (Nat → Int32) × (Nat → Int32) × (Nat → Int32)) ⊕ (Int32 × Int32 × Int32 × Int32 × Int32 × Int32 × Int32 × Int32 × (Nat → Int32) × (Nat → Int32) × (Nat → Int32) × (Nat → Int32)))) :=
  if v2 = 0 then
    some (.inr (.inr (c_n, c_rain, c_ear, c_many, c_from, c_to, c_token, c_value, c_gravel, c_kind, c_own, c_likely)))
  else
    (f_R_next c_taped c_from c_to c_token c_value c_tape).bind fun x2 =>
    (f_R_statement c_n c_rain c_ear c_many c_taped x2.1 x2.2.1 x2.2.2.1 x2.2.2.2 c_gravel c_kind c_own c_likely c_tape).bind fun x3 =>
    if x3.1 = 0 then
      some (.inl (v1, x3.1, x3.2.1, x3.2.2.1, x3.2.2.2.1, x3.2.2.2.2.1, x3.2.2.2.2.2.1, x3.2.2.2.2.2.2.1, x3.2.2.2.2.2.2.2.1, x3.2.2.2.2.2.2.2.2.1, x3.2.2.2.2.2.2.2.2.2.1, x3.2.2.2.2.2.2.2.2.2.2.1, x3.2.2.2.2.2.2.2.2.2.2.2.1, x3.2.2.2.2.2.2.2.2.2.2.2.2))
    else
      (f_R_next c_taped x3.2.2.2.2.2.1 x3.2.2.2.2.2.2.1 x3.2.2.2.2.2.2.2.1 x3.2.2.2.2.2.2.2.2.1 c_tape).bind fun x4 =>
      if x4.2.2.1 = (101 : Int32) then
        some (.inr (.inl ((v1 + (1 : Int32)), x3.2.1, x3.2.2.1, x3.2.2.2.1, x3.2.2.2.2.1, x4.1, x4.2.1, x4.2.2.1, x4.2.2.2, x3.2.2.2.2.2.2.2.2.2.1, x3.2.2.2.2.2.2.2.2.2.2.1, x3.2.2.2.2.2.2.2.2.2.2.2.1, x3.2.2.2.2.2.2.2.2.2.2.2.2)))
      else
        if x4.2.2.1 = (59 : Int32) then
          some (.inl ((v1 + (1 : Int32)), (1 : Int32), x3.2.1, x3.2.2.1, x3.2.2.2.1, x3.2.2.2.2.1, x4.1, x4.2.1, x4.2.2.1, x4.2.2.2, x3.2.2.2.2.2.2.2.2.2.1, x3.2.2.2.2.2.2.2.2.2.2.1, x3.2.2.2.2.2.2.2.2.2.2.2.1, x3.2.2.2.2.2.2.2.2.2.2.2.2))
        else
          some (.inl ((v1 + (1 : Int32)), (0 : Int32), x3.2.1, x3.2.2.1, x3.2.2.2.1, x3.2.2.2.2.1, x4.1, x4.2.1, x4.2.2.1, x4.2.2.2, x3.2.2.2.2.2.2.2.2.2.1, x3.2.2.2.2.2.2.2.2.2.2.1, x3.2.2.2.2.2.2.2.2.2.2.2.1, x3.2.2.2.2.2.2.2.2.2.2.2.2))
def f_R_drive_l17 (c_taped : Int32) (c_tape : (Nat → Int32)) (v1 : Int32) (v2 : Int32) (c_n : Int32) (c_rain : Int32) (c_ear : Int32) (c_many : Int32) (c_from : Int32) (c_to : Int32) (c_token : Int32) (c_value : Int32) (c_gravel : (Nat → Int32)) (c_kind : (Nat → Int32)) (c_own : (Nat → Int32)) (c_likely : (Nat → Int32)) : Option ((Int32 × Int32 × Int32 × Int32 × Int32 × Int32 × Int32 × Int32 × Int32 × (Nat → Int32) × (Nat → Int32) × (Nat → Int32) × (Nat → Int32)) ⊕ (Int32 × Int32 × Int32 × Int32 × Int32 × Int32 × Int32 × Int32 × (Nat → Int32) × (Nat → Int32) × (Nat → Int32) × (Nat → Int32))) :=
  iter (fun s => f_R_drive_b17 c_taped c_tape s.1 s.2.1 s.2.2.1 s.2.2.2.1 s.2.2.2.2.1 s.2.2.2.2.2.1 s.2.2.2.2.2.2.1 s.2.2.2.2.2.2.2.1 s.2.2.2.2.2.2.2.2.1 s.2.2.2.2.2.2.2.2.2.1 s.2.2.2.2.2.2.2.2.2.2.1 s.2.2.2.2.2.2.2.2.2.2.2.1 s.2.2.2.2.2.2.2.2.2.2.2.2.1 s.2.2.2.2.2.2.2.2.2.2.2.2.2) FUEL (v1, v2, c_n, c_rain, c_ear, c_many, c_from, c_to, c_token, c_value, c_gravel, c_kind, c_own, c_likely)
def f_R_drive (c_n : Int32) (c_rain : Int32) (c_ear : Int32) (c_many : Int32) (c_seed : Int32) (c_taped : Int32) (c_from : Int32) (c_to : Int32) (c_token : Int32) (c_value : Int32) (c_gravel : (Nat → Int32)) (c_kind : (Nat → Int32)) (c_own : (Nat → Int32)) (c_likely : (Nat → Int32)) (c_tape : (Nat → Int32)) (c_refusals : (Nat → Int32)) (c_ahead : (Nat → Int32)) : Option (Int32 × Int32 × Int32 × Int32 × Int32 × Int32 × Int32 × Int32 × Int32 × Int32 × Int32 × (Nat → Int32) × (Nat → Int32) × (Nat → Int32) × (Nat → Int32) × (Nat → Int32) × (Nat → Int32)) :=
  (f_R_keep c_n c_rain c_ear c_many c_seed c_gravel c_kind c_own c_likely c_ahead).bind fun x1 =>
  (f_R_drive_l17 c_taped c_tape (0 : Int32) (1 : Int32) c_n c_rain c_ear c_many c_from (0 : Int32) c_token c_value c_gravel c_kind c_own c_likely).bind fun x5 =>
  Sum.elim (fun x6 =>
    some (x6.1, x6.2.1, x6.2.2.1, x6.2.2.2.1, x6.2.2.2.2.1, c_seed, (0 : Int32), x6.2.2.2.2.2.1, x6.2.2.2.2.2.2.1, x6.2.2.2.2.2.2.2.1, x6.2.2.2.2.2.2.2.2.1, x6.2.2.2.2.2.2.2.2.2.1, x6.2.2.2.2.2.2.2.2.2.2.1, x6.2.2.2.2.2.2.2.2.2.2.2.1, x6.2.2.2.2.2.2.2.2.2.2.2.2, c_refusals, x1))
  (fun x7 =>
    (f_R_again x7.1 x7.2.1 x7.2.2.1 x7.2.2.2.1 c_seed x7.2.2.2.2.2.2.2.2.1 x7.2.2.2.2.2.2.2.2.2.1 x7.2.2.2.2.2.2.2.2.2.2.1 x7.2.2.2.2.2.2.2.2.2.2.2 x1).bind fun x8 =>
    (f_R_no (-2 : Int32) c_refusals).bind fun x9 =>
    some (((-20 : Int32) - x7.2.2.2.2.1), x8.1, x8.2.1, x8.2.2.1, x8.2.2.2.1, x8.2.2.2.2.1, (0 : Int32), x7.2.2.2.2.1, x7.2.2.2.2.2.1, x7.2.2.2.2.2.2.1, x7.2.2.2.2.2.2.2.1, x8.2.2.2.2.2.1, x8.2.2.2.2.2.2.1, x8.2.2.2.2.2.2.2.1, x8.2.2.2.2.2.2.2.2, x9.2, x1)) x5
def f_R_feetOf_j17 (c_refusals : (Nat → Int32)) : Option (Int32 × (Nat → Int32)) :=
  (f_R_no (-2 : Int32) c_refusals).bind fun x2 =>
  some (x2.1, x2.2)
def f_R_feetOf (v1 : Int32) (v2 : Int32) (c_many : Int32) (c_kind : (Nat → Int32)) (c_own : (Nat → Int32)) (c_likely : (Nat → Int32)) (c_refusals : (Nat → Int32)) : Option (Int32 × (Nat → Int32)) :=
  (f_R_isFeet v1 c_many).bind fun x1 =>
  if x1 = 0 then
    f_R_feetOf_j17 c_refusals
  else
    (f_R_within v2 (0 : Int32) (2 : Int32)).bind fun x3 =>
    if x3 = 0 then
      f_R_feetOf_j17 c_refusals
    else
      if v2 = 0 then
        (rd c_kind 8 v1).bind fun x6 =>
        some (x6, c_refusals)
      else
        if v2 = (1 : Int32) then
          (rd c_own 8 v1).bind fun x5 =>
          some (x5, c_refusals)
        else
          (rd c_likely 8 v1).bind fun x4 =>
          some (x4, c_refusals)
def f_R_cellOf_j17 (c_refusals : (Nat → Int32)) : Option (Int32 × (Nat → Int32)) :=
  (f_R_no (-2 : Int32) c_refusals).bind fun x2 =>
  some (x2.1, x2.2)
def f_R_cellOf (v1 : Int32) (v2 : Int32) (c_n : Int32) (c_rain : Int32) (c_gravel : (Nat → Int32)) (c_refusals : (Nat → Int32)) : Option (Int32 × (Nat → Int32)) :=
  (f_R_isCell v1 c_n).bind fun x1 =>
  if x1 = 0 then
    f_R_cellOf_j17 c_refusals
  else
    (f_R_within v2 (0 : Int32) (1 : Int32)).bind fun x3 =>
    if x3 = 0 then
      f_R_cellOf_j17 c_refusals
    else
      if v2 = 0 then
        (rd c_gravel 36 v1).bind fun x5 =>
        some (x5, c_refusals)
      else
        (f_R_wet v1 c_rain c_gravel).bind fun x4 =>
        some (x4, c_refusals)
def f_R_crunch_j35 (c_refusals : (Nat → Int32)) : Option (Int32 × (Nat → Int32)) :=
  (f_R_no (-2 : Int32) c_refusals).bind fun x2 =>
  some (x2.1, x2.2)
def f_R_crunch (v1 : Int32) (v2 : Int32) (v3 : Int32) (c_n : Int32) (c_rain : Int32) (c_many : Int32) (c_gravel : (Nat → Int32)) (c_kind : (Nat → Int32)) (c_own : (Nat → Int32)) (c_refusals : (Nat → Int32)) : Option (Int32 × (Nat → Int32)) :=
  (f_R_isFeet v1 c_many).bind fun x1 =>
  if x1 = 0 then
    f_R_crunch_j35 c_refusals
  else
    (f_R_isCell v2 c_n).bind fun x3 =>
    if x3 = 0 then
      f_R_crunch_j35 c_refusals
    else
      (f_R_within v3 (0 : Int32) (5 : Int32)).bind fun x4 =>
      if x4 = 0 then
        f_R_crunch_j35 c_refusals
      else
        (f_R_crunches v1 v2 v3 c_rain c_gravel c_kind c_own).bind fun x5 =>
        some (x5, c_refusals)
def f_R_costs_b2 (v1 : Int32) (c_n : Int32) (c_rain : Int32) (c_gravel : (Nat → Int32)) (c_kind : (Nat → Int32)) (c_own : (Nat → Int32)) (v2 : Int32) (c_cost : (Nat → Int32)) (c_may : (Nat → Int32)) : Option ((Int32 × (Nat → Int32) × (Nat → Int32)) ⊕ ((Nat → Int32) × (Nat → Int32))) :=
  if (c_n * c_n) ≤ v2 then
    some (.inr (c_cost, c_may))
  else
    (f_R_stepOn v1 v2 c_n c_rain c_gravel c_kind c_own).bind fun x1 =>
    (wr c_cost 36 v2 x1).bind fun x2 =>
    (wr c_may 36 v2 (vp_nar .boolean (1 : Int32))).bind fun x3 =>
    some (.inl ((v2 + (1 : Int32)), x2, x3))
def f_R_costs_l2 (v1 : Int32) (c_n : Int32) (c_rain : Int32) (c_gravel : (Nat → Int32)) (c_kind : (Nat → Int32)) (c_own : (Nat → Int32)) (v2 : Int32) (c_cost : (Nat → Int32)) (c_may : (Nat → Int32)) : Option ((Nat → Int32) × (Nat → Int32)) :=
  iter (fun s => f_R_costs_b2 v1 c_n c_rain c_gravel c_kind c_own s.1 s.2.1 s.2.2) FUEL (v2, c_cost, c_may)
def f_R_costs (v1 : Int32) (c_n : Int32) (c_rain : Int32) (c_gravel : (Nat → Int32)) (c_kind : (Nat → Int32)) (c_own : (Nat → Int32)) (c_cost : (Nat → Int32)) (c_may : (Nat → Int32)) : Option ((Nat → Int32) × (Nat → Int32)) :=
  (f_R_costs_l2 v1 c_n c_rain c_gravel c_kind c_own (0 : Int32) c_cost c_may).bind fun x4 =>
  some (x4.1, x4.2)
def f_R_isNext (v1 : Int32) (v2 : Int32) (c_n : Int32) : Option Int32 :=
  (dv v2 c_n).bind fun x1 =>
  (dv v1 c_n).bind fun x2 =>
  if x1 = (x2 + (1 : Int32)) then
    (rm v2 c_n).bind fun x3 =>
    (rm v1 c_n).bind fun x4 =>
    (f_JM_abs0 (x3 - x4)).bind fun x5 =>
    if (2 : Int32) ≤ x5 then
      some (0 : Int32)
    else
      some (1 : Int32)
  else
    some (0 : Int32)
def f_R_count_b57 (v2 : Int32) (c_n : Int32) (c_may : (Nat → Int32)) (v3 : Int32) (c_rest : (Nat → Int32)) : Option ((Int32 × (Nat → Int32)) ⊕ (Nat → Int32)) :=
  if (c_n * c_n) ≤ v3 then
    some (.inr c_rest)
  else
    (rd c_may 36 v2).bind fun x3 =>
    if x3 = 0 then
      some (.inr c_rest)
    else
      (f_R_isNext v2 v3 c_n).bind fun x4 =>
      if x4 = 0 then
        some (.inl ((v3 + (1 : Int32)), c_rest))
      else
        (rd c_rest 36 v2).bind fun x5 =>
        (rd c_rest 36 v3).bind fun x6 =>
        (wr c_rest 36 v2 (x5 + x6)).bind fun x7 =>
        some (.inl ((v3 + (1 : Int32)), x7))
def f_R_count_l57 (v2 : Int32) (c_n : Int32) (c_may : (Nat → Int32)) (v3 : Int32) (c_rest : (Nat → Int32)) : Option (Nat → Int32) :=
  iter (fun s => f_R_count_b57 v2 c_n c_may s.1 s.2) FUEL (v3, c_rest)
def f_R_count_j52 (v1 : Int32) (v2 : Int32) (t1 : Int32) (t2 : Int32) (c_n : Int32) (c_may : (Nat → Int32)) (c_rest : (Nat → Int32)) : Option ((Int32 × Int32 × (Nat → Int32)) ⊕ (Int32 × (Nat → Int32))) :=
  (wr c_rest 36 t1 t2).bind fun x2 =>
  (f_R_count_l57 v2 c_n c_may (v2 + (1 : Int32)) x2).bind fun x8 =>
  if c_n ≤ v2 then
    some (.inl (v1, (v2 + (-1 : Int32)), x8))
  else
    (rd x8 36 v2).bind fun x9 =>
    some (.inl ((v1 + x9), (v2 + (-1 : Int32)), x8))
def f_R_count_j51 (v1 : Int32) (v2 : Int32) (t1 : Int32) (c_n : Int32) (c_may : (Nat → Int32)) (c_rest : (Nat → Int32)) : Option ((Int32 × Int32 × (Nat → Int32)) ⊕ (Int32 × (Nat → Int32))) :=
  f_R_count_j52 v1 v2 t1 (0 : Int32) c_n c_may c_rest
def f_R_count_b14 (c_n : Int32) (c_may : (Nat → Int32)) (v1 : Int32) (v2 : Int32) (c_rest : (Nat → Int32)) : Option ((Int32 × Int32 × (Nat → Int32)) ⊕ (Int32 × (Nat → Int32))) :=
  if v2 < 0 then
    some (.inr (v1, c_rest))
  else
    (rd c_may 36 v2).bind fun x1 =>
    if x1 = 0 then
      f_R_count_j51 v1 v2 v2 c_n c_may c_rest
    else
      (dv v2 c_n).bind fun x10 =>
      if x10 = (c_n - (1 : Int32)) then
        f_R_count_j52 v1 v2 v2 (1 : Int32) c_n c_may c_rest
      else
        f_R_count_j51 v1 v2 v2 c_n c_may c_rest
def f_R_count_l14 (c_n : Int32) (c_may : (Nat → Int32)) (v1 : Int32) (v2 : Int32) (c_rest : (Nat → Int32)) : Option (Int32 × (Nat → Int32)) :=
  iter (fun s => f_R_count_b14 c_n c_may s.1 s.2.1 s.2.2) FUEL (v1, v2, c_rest)
def f_R_count (c_n : Int32) (c_may : (Nat → Int32)) (c_rest : (Nat → Int32)) : Option (Int32 × (Nat → Int32)) :=
  (f_R_count_l14 c_n c_may (0 : Int32) ((c_n * c_n) - (1 : Int32)) c_rest).bind fun x11 =>
  some (x11.1, x11.2)
def f_R_first_b22 (v1 : Int32) (c_n : Int32) (c_rest : (Nat → Int32)) (c_way : (Nat → Int32)) (v2 : Int32) : Option (Int32 ⊕ Int32) :=
  (rd c_rest 36 v2).bind fun x2 =>
  if x2 = 0 then
    some (.inl (v2 + (1 : Int32)))
  else
    if v1 ≤ 0 then
      some (.inr v2)
    else
      (rd c_way 6 (v1 - (1 : Int32))).bind fun x3 =>
      (f_R_isNext x3 v2 c_n).bind fun x4 =>
      if x4 = 0 then
        some (.inl (v2 + (1 : Int32)))
      else
        some (.inr v2)
def f_R_first_l22 (v1 : Int32) (c_n : Int32) (c_rest : (Nat → Int32)) (c_way : (Nat → Int32)) (v2 : Int32) : Option Int32 :=
  iter (fun s => f_R_first_b22 v1 c_n c_rest c_way s) FUEL v2
def f_R_first_b7 (c_n : Int32) (c_rest : (Nat → Int32)) (v1 : Int32) (c_way : (Nat → Int32)) : Option ((Int32 × (Nat → Int32)) ⊕ (Nat → Int32)) :=
  if c_n ≤ v1 then
    some (.inr c_way)
  else
    (f_R_first_l22 v1 c_n c_rest c_way (v1 * c_n)).bind fun x5 =>
    (wr c_way 6 v1 x5).bind fun x6 =>
    some (.inl ((v1 + (1 : Int32)), x6))
def f_R_first_l7 (c_n : Int32) (c_rest : (Nat → Int32)) (v1 : Int32) (c_way : (Nat → Int32)) : Option (Nat → Int32) :=
  iter (fun s => f_R_first_b7 c_n c_rest s.1 s.2) FUEL (v1, c_way)
def f_R_first (c_n : Int32) (c_may : (Nat → Int32)) (c_rest : (Nat → Int32)) (c_way : (Nat → Int32)) : Option ((Nat → Int32) × (Nat → Int32)) :=
  (f_R_count c_n c_may c_rest).bind fun x1 =>
  (f_R_first_l7 c_n x1.2 (0 : Int32) c_way).bind fun x7 =>
  some (x1.2, x7)
def f_R_sums_j81 (v2 : Int32) (v4 : Int32) (c_rest : (Nat → Int32)) : Option ((Int32 × Int32 × (Nat → Int32)) ⊕ (Nat → Int32)) :=
  (rd c_rest 36 v4).bind fun x3 =>
  (wr c_rest 36 v2 x3).bind fun x4 =>
  some (.inl ((1 : Int32), (v4 + (1 : Int32)), x4))
def f_R_sums_b30 (v1 : Int32) (v2 : Int32) (c_n : Int32) (v3 : Int32) (v4 : Int32) (c_rest : (Nat → Int32)) : Option ((Int32 × Int32 × (Nat → Int32)) ⊕ (Nat → Int32)) :=
  if (c_n * c_n) ≤ v4 then
    some (.inr c_rest)
  else
    (f_R_isNext v2 v4 c_n).bind fun x2 =>
    if x2 = 0 then
      some (.inl (v3, (v4 + (1 : Int32)), c_rest))
    else
      if v3 = 0 then
        f_R_sums_j81 v2 v4 c_rest
      else
        (rd c_rest 36 v4).bind fun x5 =>
        (rd c_rest 36 v2).bind fun x6 =>
        if (v1 * x5) < (v1 * x6) then
          f_R_sums_j81 v2 v4 c_rest
        else
          some (.inl (v3, (v4 + (1 : Int32)), c_rest))
def f_R_sums_l30 (v1 : Int32) (v2 : Int32) (c_n : Int32) (v3 : Int32) (v4 : Int32) (c_rest : (Nat → Int32)) : Option (Nat → Int32) :=
  iter (fun s => f_R_sums_b30 v1 v2 c_n s.1 s.2.1 s.2.2) FUEL (v3, v4, c_rest)
def f_R_sums_b12 (v1 : Int32) (c_n : Int32) (c_cost : (Nat → Int32)) (v2 : Int32) (c_rest : (Nat → Int32)) : Option ((Int32 × (Nat → Int32)) ⊕ (Nat → Int32)) :=
  if v2 < 0 then
    some (.inr c_rest)
  else
    (wr c_rest 36 v2 (0 : Int32)).bind fun x1 =>
    (f_R_sums_l30 v1 v2 c_n (0 : Int32) (v2 + (1 : Int32)) x1).bind fun x7 =>
    (rd x7 36 v2).bind fun x8 =>
    (rd c_cost 36 v2).bind fun x9 =>
    (wr x7 36 v2 (x8 + x9)).bind fun x10 =>
    some (.inl ((v2 + (-1 : Int32)), x10))
def f_R_sums_l12 (v1 : Int32) (c_n : Int32) (c_cost : (Nat → Int32)) (v2 : Int32) (c_rest : (Nat → Int32)) : Option (Nat → Int32) :=
  iter (fun s => f_R_sums_b12 v1 c_n c_cost s.1 s.2) FUEL (v2, c_rest)
def f_R_sums_j183 (v1 : Int32) (v3 : Int32) (v4 : Int32) (c_rest : (Nat → Int32)) : Option ((Int32 × Int32) ⊕ Int32) :=
  if v3 = (-1 : Int32) then
    some (.inl (v4, (v4 + (1 : Int32))))
  else
    (rd c_rest 36 v4).bind fun x12 =>
    (rd c_rest 36 v3).bind fun x13 =>
    if (v1 * x13) ≤ (v1 * x12) then
      some (.inl (v3, (v4 + (1 : Int32))))
    else
      some (.inl (v4, (v4 + (1 : Int32))))
def f_R_sums_b143 (v1 : Int32) (v2 : Int32) (c_n : Int32) (c_rest : (Nat → Int32)) (c_way : (Nat → Int32)) (v3 : Int32) (v4 : Int32) : Option ((Int32 × Int32) ⊕ Int32) :=
  if ((v2 * c_n) + c_n) ≤ v4 then
    some (.inr v3)
  else
    if v2 ≤ 0 then
      f_R_sums_j183 v1 v3 v4 c_rest
    else
      (rd c_way 6 (v2 - (1 : Int32))).bind fun x14 =>
      (f_R_isNext x14 v4 c_n).bind fun x15 =>
      if x15 = 0 then
        some (.inl (v3, (v4 + (1 : Int32))))
      else
        f_R_sums_j183 v1 v3 v4 c_rest
def f_R_sums_l143 (v1 : Int32) (v2 : Int32) (c_n : Int32) (c_rest : (Nat → Int32)) (c_way : (Nat → Int32)) (v3 : Int32) (v4 : Int32) : Option Int32 :=
  iter (fun s => f_R_sums_b143 v1 v2 c_n c_rest c_way s.1 s.2) FUEL (v3, v4)
def f_R_sums_b125 (v1 : Int32) (c_n : Int32) (c_rest : (Nat → Int32)) (v2 : Int32) (c_way : (Nat → Int32)) : Option ((Int32 × (Nat → Int32)) ⊕ (Nat → Int32)) :=
  if c_n ≤ v2 then
    some (.inr c_way)
  else
    (f_R_sums_l143 v1 v2 c_n c_rest c_way (-1 : Int32) (v2 * c_n)).bind fun x16 =>
    (wr c_way 6 v2 x16).bind fun x17 =>
    some (.inl ((v2 + (1 : Int32)), x17))
def f_R_sums_l125 (v1 : Int32) (c_n : Int32) (c_rest : (Nat → Int32)) (v2 : Int32) (c_way : (Nat → Int32)) : Option (Nat → Int32) :=
  iter (fun s => f_R_sums_b125 v1 c_n c_rest s.1 s.2) FUEL (v2, c_way)
def f_R_sums (v1 : Int32) (c_n : Int32) (c_cost : (Nat → Int32)) (c_rest : (Nat → Int32)) (c_way : (Nat → Int32)) : Option (Int32 × (Nat → Int32) × (Nat → Int32)) :=
  (f_R_sums_l12 v1 c_n c_cost ((c_n * c_n) - (1 : Int32)) c_rest).bind fun x11 =>
  (f_R_sums_l125 v1 c_n x11 (0 : Int32) c_way).bind fun x18 =>
  (rd x18 6 (0 : Int32)).bind fun x19 =>
  (rd x11 36 x19).bind fun x20 =>
  some (x20, x11, x18)
def f_R_quiet (v1 : Int32) (c_n : Int32) (c_rain : Int32) (c_gravel : (Nat → Int32)) (c_kind : (Nat → Int32)) (c_own : (Nat → Int32)) (c_cost : (Nat → Int32)) (c_may : (Nat → Int32)) (c_rest : (Nat → Int32)) (c_way : (Nat → Int32)) : Option (Int32 × (Nat → Int32) × (Nat → Int32) × (Nat → Int32) × (Nat → Int32)) :=
  (f_R_costs v1 c_n c_rain c_gravel c_kind c_own c_cost c_may).bind fun x1 =>
  (f_R_sums (1 : Int32) c_n x1.1 c_rest c_way).bind fun x2 =>
  some (x2.1, x1.1, x1.2, x2.2.1, x2.2.2)
def f_R_quietest_j16 (c_refusals : (Nat → Int32)) (c_cost : (Nat → Int32)) (c_may : (Nat → Int32)) (c_rest : (Nat → Int32)) (c_way : (Nat → Int32)) : Option (Int32 × (Nat → Int32) × (Nat → Int32) × (Nat → Int32) × (Nat → Int32) × (Nat → Int32)) :=
  (f_R_no (-2 : Int32) c_refusals).bind fun x2 =>
  some (x2.1, x2.2, c_cost, c_may, c_rest, c_way)
def f_R_quietest (v1 : Int32) (v2 : Int32) (c_n : Int32) (c_rain : Int32) (c_many : Int32) (c_gravel : (Nat → Int32)) (c_kind : (Nat → Int32)) (c_own : (Nat → Int32)) (c_refusals : (Nat → Int32)) (c_cost : (Nat → Int32)) (c_may : (Nat → Int32)) (c_rest : (Nat → Int32)) (c_way : (Nat → Int32)) : Option (Int32 × (Nat → Int32) × (Nat → Int32) × (Nat → Int32) × (Nat → Int32) × (Nat → Int32)) :=
  (f_R_isFeet v1 c_many).bind fun x1 =>
  if x1 = 0 then
    f_R_quietest_j16 c_refusals c_cost c_may c_rest c_way
  else
    (f_R_isPlace v2 c_n).bind fun x3 =>
    if x3 = 0 then
      f_R_quietest_j16 c_refusals c_cost c_may c_rest c_way
    else
      (f_R_quiet v1 c_n c_rain c_gravel c_kind c_own c_cost c_may c_rest c_way).bind fun x4 =>
      if v2 = (-1 : Int32) then
        some (x4.1, c_refusals, x4.2.1, x4.2.2.1, x4.2.2.2.1, x4.2.2.2.2)
      else
        (rd x4.2.2.2.2 6 v2).bind fun x5 =>
        some (x5, c_refusals, x4.2.1, x4.2.2.1, x4.2.2.2.1, x4.2.2.2.2)
def f_R_loudest_j16 (c_refusals : (Nat → Int32)) (c_cost : (Nat → Int32)) (c_may : (Nat → Int32)) (c_rest : (Nat → Int32)) (c_way : (Nat → Int32)) : Option (Int32 × (Nat → Int32) × (Nat → Int32) × (Nat → Int32) × (Nat → Int32) × (Nat → Int32)) :=
  (f_R_no (-2 : Int32) c_refusals).bind fun x2 =>
  some (x2.1, x2.2, c_cost, c_may, c_rest, c_way)
def f_R_loudest (v1 : Int32) (v2 : Int32) (c_n : Int32) (c_rain : Int32) (c_many : Int32) (c_gravel : (Nat → Int32)) (c_kind : (Nat → Int32)) (c_own : (Nat → Int32)) (c_refusals : (Nat → Int32)) (c_cost : (Nat → Int32)) (c_may : (Nat → Int32)) (c_rest : (Nat → Int32)) (c_way : (Nat → Int32)) : Option (Int32 × (Nat → Int32) × (Nat → Int32) × (Nat → Int32) × (Nat → Int32) × (Nat → Int32)) :=
  (f_R_isFeet v1 c_many).bind fun x1 =>
  if x1 = 0 then
    f_R_loudest_j16 c_refusals c_cost c_may c_rest c_way
  else
    (f_R_isPlace v2 c_n).bind fun x3 =>
    if x3 = 0 then
      f_R_loudest_j16 c_refusals c_cost c_may c_rest c_way
    else
      (f_R_costs v1 c_n c_rain c_gravel c_kind c_own c_cost c_may).bind fun x4 =>
      (f_R_sums (-1 : Int32) c_n x4.1 c_rest c_way).bind fun x5 =>
      if v2 = (-1 : Int32) then
        some (x5.1, c_refusals, x4.1, x4.2, x5.2.1, x5.2.2)
      else
        (rd x5.2.2 6 v2).bind fun x6 =>
        some (x6, c_refusals, x4.1, x4.2, x5.2.1, x5.2.2)
def f_R_upTo_j35 (v2 : Int32) (t1 : Int32) (t2 : Int32) (c_may : (Nat → Int32)) : Option ((Int32 × (Nat → Int32)) ⊕ (Nat → Int32)) :=
  (wr c_may 36 t1 (vp_nar .boolean t2)).bind fun x2 =>
  some (.inl ((v2 + (1 : Int32)), x2))
def f_R_upTo_b2 (v1 : Int32) (c_n : Int32) (c_cost : (Nat → Int32)) (v2 : Int32) (c_may : (Nat → Int32)) : Option ((Int32 × (Nat → Int32)) ⊕ (Nat → Int32)) :=
  if (c_n * c_n) ≤ v2 then
    some (.inr c_may)
  else
    (rd c_cost 36 v2).bind fun x1 =>
    if v1 < x1 then
      f_R_upTo_j35 v2 v2 (0 : Int32) c_may
    else
      f_R_upTo_j35 v2 v2 (1 : Int32) c_may
def f_R_upTo_l2 (v1 : Int32) (c_n : Int32) (c_cost : (Nat → Int32)) (v2 : Int32) (c_may : (Nat → Int32)) : Option (Nat → Int32) :=
  iter (fun s => f_R_upTo_b2 v1 c_n c_cost s.1 s.2) FUEL (v2, c_may)
def f_R_upTo (v1 : Int32) (c_n : Int32) (c_cost : (Nat → Int32)) (c_may : (Nat → Int32)) (c_rest : (Nat → Int32)) : Option (Int32 × (Nat → Int32) × (Nat → Int32)) :=
  (f_R_upTo_l2 v1 c_n c_cost (0 : Int32) c_may).bind fun x3 =>
  (f_R_count c_n x3 c_rest).bind fun x4 =>
  some (x4.1, x3, x4.2)
def f_R_softest_j16 (c_refusals : (Nat → Int32)) (c_cost : (Nat → Int32)) (c_may : (Nat → Int32)) (c_rest : (Nat → Int32)) (c_way : (Nat → Int32)) : Option (Int32 × (Nat → Int32) × (Nat → Int32) × (Nat → Int32) × (Nat → Int32) × (Nat → Int32)) :=
  (f_R_no (-2 : Int32) c_refusals).bind fun x2 =>
  some (x2.1, x2.2, c_cost, c_may, c_rest, c_way)
def f_R_softest_b30 (c_n : Int32) (c_cost : (Nat → Int32)) (v3 : Int32) (c_may : (Nat → Int32)) (c_rest : (Nat → Int32)) : Option ((Int32 × (Nat → Int32) × (Nat → Int32)) ⊕ (Int32 × (Nat → Int32) × (Nat → Int32))) :=
  (f_R_upTo v3 c_n c_cost c_may c_rest).bind fun x5 =>
  if x5.1 = 0 then
    some (.inl ((v3 + (1 : Int32)), x5.2.1, x5.2.2))
  else
    some (.inr (v3, x5.2.1, x5.2.2))
def f_R_softest_l30 (c_n : Int32) (c_cost : (Nat → Int32)) (v3 : Int32) (c_may : (Nat → Int32)) (c_rest : (Nat → Int32)) : Option (Int32 × (Nat → Int32) × (Nat → Int32)) :=
  iter (fun s => f_R_softest_b30 c_n c_cost s.1 s.2.1 s.2.2) FUEL (v3, c_may, c_rest)
def f_R_softest (v1 : Int32) (v2 : Int32) (c_n : Int32) (c_rain : Int32) (c_many : Int32) (c_gravel : (Nat → Int32)) (c_kind : (Nat → Int32)) (c_own : (Nat → Int32)) (c_refusals : (Nat → Int32)) (c_cost : (Nat → Int32)) (c_may : (Nat → Int32)) (c_rest : (Nat → Int32)) (c_way : (Nat → Int32)) : Option (Int32 × (Nat → Int32) × (Nat → Int32) × (Nat → Int32) × (Nat → Int32) × (Nat → Int32)) :=
  (f_R_isFeet v1 c_many).bind fun x1 =>
  if x1 = 0 then
    f_R_softest_j16 c_refusals c_cost c_may c_rest c_way
  else
    (f_R_isPlace v2 c_n).bind fun x3 =>
    if x3 = 0 then
      f_R_softest_j16 c_refusals c_cost c_may c_rest c_way
    else
      (f_R_costs v1 c_n c_rain c_gravel c_kind c_own c_cost c_may).bind fun x4 =>
      (f_R_softest_l30 c_n x4.1 (0 : Int32) x4.2 c_rest).bind fun x6 =>
      (f_R_first c_n x6.2.1 x6.2.2 c_way).bind fun x7 =>
      if v2 = (-1 : Int32) then
        some (x6.1, c_refusals, x4.1, x6.2.1, x7.1, x7.2)
      else
        (rd x7.2 6 v2).bind fun x8 =>
        some (x8, c_refusals, x4.1, x6.2.1, x7.1, x7.2)
def f_R_unheardBy (v1 : Int32) (c_n : Int32) (c_rain : Int32) (c_ear : Int32) (c_gravel : (Nat → Int32)) (c_kind : (Nat → Int32)) (c_own : (Nat → Int32)) (c_cost : (Nat → Int32)) (c_may : (Nat → Int32)) (c_rest : (Nat → Int32)) : Option (Int32 × (Nat → Int32) × (Nat → Int32) × (Nat → Int32)) :=
  (f_R_costs v1 c_n c_rain c_gravel c_kind c_own c_cost c_may).bind fun x1 =>
  (f_R_upTo (c_ear - (1 : Int32)) c_n x1.1 x1.2 c_rest).bind fun x2 =>
  some (x2.1, x1.1, x2.2.1, x2.2.2)
def f_R_unheard_j16 (c_refusals : (Nat → Int32)) (c_cost : (Nat → Int32)) (c_may : (Nat → Int32)) (c_rest : (Nat → Int32)) (c_way : (Nat → Int32)) : Option (Int32 × (Nat → Int32) × (Nat → Int32) × (Nat → Int32) × (Nat → Int32) × (Nat → Int32)) :=
  (f_R_no (-2 : Int32) c_refusals).bind fun x2 =>
  some (x2.1, x2.2, c_cost, c_may, c_rest, c_way)
def f_R_unheard (v1 : Int32) (v2 : Int32) (c_n : Int32) (c_rain : Int32) (c_ear : Int32) (c_many : Int32) (c_gravel : (Nat → Int32)) (c_kind : (Nat → Int32)) (c_own : (Nat → Int32)) (c_refusals : (Nat → Int32)) (c_cost : (Nat → Int32)) (c_may : (Nat → Int32)) (c_rest : (Nat → Int32)) (c_way : (Nat → Int32)) : Option (Int32 × (Nat → Int32) × (Nat → Int32) × (Nat → Int32) × (Nat → Int32) × (Nat → Int32)) :=
  (f_R_isFeet v1 c_many).bind fun x1 =>
  if x1 = 0 then
    f_R_unheard_j16 c_refusals c_cost c_may c_rest c_way
  else
    (f_R_isPlace v2 c_n).bind fun x3 =>
    if x3 = 0 then
      f_R_unheard_j16 c_refusals c_cost c_may c_rest c_way
    else
      (f_R_unheardBy v1 c_n c_rain c_ear c_gravel c_kind c_own c_cost c_may c_rest).bind fun x4 =>
      if v2 = (-1 : Int32) then
        some (x4.1, c_refusals, x4.2.1, x4.2.2.1, x4.2.2.2, c_way)
      else
        if x4.1 = 0 then
          (f_R_no (-5 : Int32) c_refusals).bind fun x7 =>
          some (x7.1, x7.2, x4.2.1, x4.2.2.1, x4.2.2.2, c_way)
        else
          (f_R_first c_n x4.2.2.1 x4.2.2.2 c_way).bind fun x5 =>
          (rd x5.2 6 v2).bind fun x6 =>
          some (x6, c_refusals, x4.2.1, x4.2.2.1, x5.1, x5.2)
def f_R_isSo_j13 (v2 : Int32) (t0 : Int32) (c_cost : (Nat → Int32)) (c_may : (Nat → Int32)) (c_rest : (Nat → Int32)) : Option (Int32 × (Nat → Int32) × (Nat → Int32) × (Nat → Int32)) :=
  if t0 = v2 then
    some ((1 : Int32), c_cost, c_may, c_rest)
  else
    some ((0 : Int32), c_cost, c_may, c_rest)
def f_R_isSo (v1 : Int32) (v2 : Int32) (c_n : Int32) (c_rain : Int32) (c_ear : Int32) (c_gravel : (Nat → Int32)) (c_kind : (Nat → Int32)) (c_own : (Nat → Int32)) (c_cost : (Nat → Int32)) (c_may : (Nat → Int32)) (c_rest : (Nat → Int32)) : Option (Int32 × (Nat → Int32) × (Nat → Int32) × (Nat → Int32)) :=
  (f_R_unheardBy v1 c_n c_rain c_ear c_gravel c_kind c_own c_cost c_may c_rest).bind fun x1 =>
  if x1.1 ≤ 0 then
    f_R_isSo_j13 v2 (0 : Int32) x1.2.1 x1.2.2.1 x1.2.2.2
  else
    f_R_isSo_j13 v2 (1 : Int32) x1.2.1 x1.2.2.1 x1.2.2.2
def f_R_fewest_b14 (v1 : Int32) (v2 : Int32) (v3 : Int32) (c_n : Int32) (c_rain : Int32) (c_ear : Int32) (c_kind : (Nat → Int32)) (c_own : (Nat → Int32)) (v4 : Int32) (c_gravel : (Nat → Int32)) (c_cost : (Nat → Int32)) (c_may : (Nat → Int32)) (c_rest : (Nat → Int32)) : Option ((Int32 × (Nat → Int32) × (Nat → Int32) × (Nat → Int32) × (Nat → Int32)) ⊕ ((Int32 × (Nat → Int32) × (Nat → Int32) × (Nat → Int32) × (Nat → Int32)) ⊕ ((Nat → Int32) × (Nat → Int32) × (Nat → Int32) × (Nat → Int32)))) :=
  if (c_n * c_n) ≤ v4 then
    some (.inr (.inr (c_gravel, c_cost, c_may, c_rest)))
  else
    (rd c_gravel 36 v4).bind fun x2 =>
    (wr c_gravel 36 v4 v2).bind fun x3 =>
    (f_R_isSo v1 v3 c_n c_rain c_ear x3 c_kind c_own c_cost c_may c_rest).bind fun x4 =>
    (wr x3 36 v4 x2).bind fun x5 =>
    if x4.1 = 0 then
      some (.inl ((v4 + (1 : Int32)), x5, x4.2.1, x4.2.2.1, x4.2.2.2))
    else
      some (.inr (.inl (v4, x5, x4.2.1, x4.2.2.1, x4.2.2.2)))
def f_R_fewest_l14 (v1 : Int32) (v2 : Int32) (v3 : Int32) (c_n : Int32) (c_rain : Int32) (c_ear : Int32) (c_kind : (Nat → Int32)) (c_own : (Nat → Int32)) (v4 : Int32) (c_gravel : (Nat → Int32)) (c_cost : (Nat → Int32)) (c_may : (Nat → Int32)) (c_rest : (Nat → Int32)) : Option ((Int32 × (Nat → Int32) × (Nat → Int32) × (Nat → Int32) × (Nat → Int32)) ⊕ ((Nat → Int32) × (Nat → Int32) × (Nat → Int32) × (Nat → Int32))) :=
  iter (fun s => f_R_fewest_b14 v1 v2 v3 c_n c_rain c_ear c_kind c_own s.1 s.2.1 s.2.2.1 s.2.2.2.1 s.2.2.2.2) FUEL (v4, c_gravel, c_cost, c_may, c_rest)
def f_R_fewest_b106 (v1 : Int32) (v2 : Int32) (v3 : Int32) (v4 : Int32) (c_n : Int32) (c_rain : Int32) (c_ear : Int32) (c_kind : (Nat → Int32)) (c_own : (Nat → Int32)) (v5 : Int32) (c_gravel : (Nat → Int32)) (c_cost : (Nat → Int32)) (c_may : (Nat → Int32)) (c_rest : (Nat → Int32)) : Option ((Int32 × (Nat → Int32) × (Nat → Int32) × (Nat → Int32) × (Nat → Int32)) ⊕ ((Int32 × (Nat → Int32) × (Nat → Int32) × (Nat → Int32) × (Nat → Int32)) ⊕ ((Nat → Int32) × (Nat → Int32) × (Nat → Int32) × (Nat → Int32)))) :=
  if (c_n * c_n) ≤ v5 then
    some (.inr (.inr (c_gravel, c_cost, c_may, c_rest)))
  else
    (rd c_gravel 36 v4).bind fun x9 =>
    (rd c_gravel 36 v5).bind fun x10 =>
    (wr c_gravel 36 v4 v2).bind fun x11 =>
    (wr x11 36 v5 v2).bind fun x12 =>
    (f_R_isSo v1 v3 c_n c_rain c_ear x12 c_kind c_own c_cost c_may c_rest).bind fun x13 =>
    (wr x12 36 v4 x9).bind fun x14 =>
    (wr x14 36 v5 x10).bind fun x15 =>
    if x13.1 = 0 then
      some (.inl ((v5 + (1 : Int32)), x15, x13.2.1, x13.2.2.1, x13.2.2.2))
    else
      some (.inr (.inl (v5, x15, x13.2.1, x13.2.2.1, x13.2.2.2)))
def f_R_fewest_l106 (v1 : Int32) (v2 : Int32) (v3 : Int32) (v4 : Int32) (c_n : Int32) (c_rain : Int32) (c_ear : Int32) (c_kind : (Nat → Int32)) (c_own : (Nat → Int32)) (v5 : Int32) (c_gravel : (Nat → Int32)) (c_cost : (Nat → Int32)) (c_may : (Nat → Int32)) (c_rest : (Nat → Int32)) : Option ((Int32 × (Nat → Int32) × (Nat → Int32) × (Nat → Int32) × (Nat → Int32)) ⊕ ((Nat → Int32) × (Nat → Int32) × (Nat → Int32) × (Nat → Int32))) :=
  iter (fun s => f_R_fewest_b106 v1 v2 v3 v4 c_n c_rain c_ear c_kind c_own s.1 s.2.1 s.2.2.1 s.2.2.2.1 s.2.2.2.2) FUEL (v5, c_gravel, c_cost, c_may, c_rest)
def f_R_fewest_b86 (v1 : Int32) (v2 : Int32) (v3 : Int32) (c_n : Int32) (c_rain : Int32) (c_ear : Int32) (c_kind : (Nat → Int32)) (c_own : (Nat → Int32)) (v4 : Int32) (c_gravel : (Nat → Int32)) (c_cost : (Nat → Int32)) (c_may : (Nat → Int32)) (c_rest : (Nat → Int32)) : Option ((Int32 × (Nat → Int32) × (Nat → Int32) × (Nat → Int32) × (Nat → Int32)) ⊕ ((Int32 × Int32 × (Nat → Int32) × (Nat → Int32) × (Nat → Int32) × (Nat → Int32)) ⊕ ((Nat → Int32) × (Nat → Int32) × (Nat → Int32) × (Nat → Int32)))) :=
  if (c_n * c_n) ≤ v4 then
    some (.inr (.inr (c_gravel, c_cost, c_may, c_rest)))
  else
    (f_R_fewest_l106 v1 v2 v3 v4 c_n c_rain c_ear c_kind c_own (v4 + (1 : Int32)) c_gravel c_cost c_may c_rest).bind fun x16 =>
    Sum.elim (fun x17 =>
      some (.inr (.inl (v4, x17.1, x17.2.1, x17.2.2.1, x17.2.2.2.1, x17.2.2.2.2))))
    (fun x18 =>
      some (.inl ((v4 + (1 : Int32)), x18.1, x18.2.1, x18.2.2.1, x18.2.2.2))) x16
def f_R_fewest_l86 (v1 : Int32) (v2 : Int32) (v3 : Int32) (c_n : Int32) (c_rain : Int32) (c_ear : Int32) (c_kind : (Nat → Int32)) (c_own : (Nat → Int32)) (v4 : Int32) (c_gravel : (Nat → Int32)) (c_cost : (Nat → Int32)) (c_may : (Nat → Int32)) (c_rest : (Nat → Int32)) : Option ((Int32 × Int32 × (Nat → Int32) × (Nat → Int32) × (Nat → Int32) × (Nat → Int32)) ⊕ ((Nat → Int32) × (Nat → Int32) × (Nat → Int32) × (Nat → Int32))) :=
  iter (fun s => f_R_fewest_b86 v1 v2 v3 c_n c_rain c_ear c_kind c_own s.1 s.2.1 s.2.2.1 s.2.2.2.1 s.2.2.2.2) FUEL (v4, c_gravel, c_cost, c_may, c_rest)
def f_R_fewest (v1 : Int32) (v2 : Int32) (v3 : Int32) (c_n : Int32) (c_rain : Int32) (c_ear : Int32) (c_gravel : (Nat → Int32)) (c_kind : (Nat → Int32)) (c_own : (Nat → Int32)) (c_cost : (Nat → Int32)) (c_may : (Nat → Int32)) (c_rest : (Nat → Int32)) : Option (Int32 × (Nat → Int32) × (Nat → Int32) × (Nat → Int32) × (Nat → Int32)) :=
  (f_R_isSo v1 v3 c_n c_rain c_ear c_gravel c_kind c_own c_cost c_may c_rest).bind fun x1 =>
  if x1.1 = 0 then
    (f_R_fewest_l14 v1 v2 v3 c_n c_rain c_ear c_kind c_own (0 : Int32) c_gravel x1.2.1 x1.2.2.1 x1.2.2.2).bind fun x6 =>
    Sum.elim (fun x7 =>
      some (((10000 : Int32) + ((100 : Int32) * x7.1)), x7.2.1, x7.2.2.1, x7.2.2.2.1, x7.2.2.2.2))
    (fun x8 =>
      (f_R_fewest_l86 v1 v2 v3 c_n c_rain c_ear c_kind c_own (0 : Int32) x8.1 x8.2.1 x8.2.2.1 x8.2.2.2).bind fun x19 =>
      Sum.elim (fun x20 =>
        some ((((20000 : Int32) + ((100 : Int32) * x20.1)) + x20.2.1), x20.2.2.1, x20.2.2.2.1, x20.2.2.2.2.1, x20.2.2.2.2.2))
      (fun x21 =>
        some ((-1 : Int32), x21.1, x21.2.1, x21.2.2.1, x21.2.2.2)) x19) x6
  else
    some ((0 : Int32), c_gravel, x1.2.1, x1.2.2.1, x1.2.2.2)
def f_R_cellsOf_j14 (c_gravel : (Nat → Int32)) (c_refusals : (Nat → Int32)) (c_cost : (Nat → Int32)) (c_may : (Nat → Int32)) (c_rest : (Nat → Int32)) : Option (Int32 × (Nat → Int32) × (Nat → Int32) × (Nat → Int32) × (Nat → Int32) × (Nat → Int32)) :=
  (f_R_no (-2 : Int32) c_refusals).bind fun x2 =>
  some (x2.1, c_gravel, x2.2, c_cost, c_may, c_rest)
def f_R_cellsOf_j70 (c_gravel : (Nat → Int32)) (c_refusals : (Nat → Int32)) (c_cost : (Nat → Int32)) (c_may : (Nat → Int32)) (c_rest : (Nat → Int32)) : Option (Int32 × (Nat → Int32) × (Nat → Int32) × (Nat → Int32) × (Nat → Int32) × (Nat → Int32)) :=
  (f_R_no (-5 : Int32) c_refusals).bind fun x4 =>
  some (x4.1, c_gravel, x4.2, c_cost, c_may, c_rest)
def f_R_cellsOf (v1 : Int32) (v2 : Int32) (v3 : Int32) (v4 : Int32) (c_n : Int32) (c_rain : Int32) (c_ear : Int32) (c_many : Int32) (c_gravel : (Nat → Int32)) (c_kind : (Nat → Int32)) (c_own : (Nat → Int32)) (c_refusals : (Nat → Int32)) (c_cost : (Nat → Int32)) (c_may : (Nat → Int32)) (c_rest : (Nat → Int32)) : Option (Int32 × (Nat → Int32) × (Nat → Int32) × (Nat → Int32) × (Nat → Int32) × (Nat → Int32)) :=
  (f_R_isFeet v1 c_many).bind fun x1 =>
  if x1 = 0 then
    f_R_cellsOf_j14 c_gravel c_refusals c_cost c_may c_rest
  else
    if (-1 : Int32) ≤ v4 then
      (f_R_fewest v1 v2 v3 c_n c_rain c_ear c_gravel c_kind c_own c_cost c_may c_rest).bind fun x3 =>
      if v4 = (-1 : Int32) then
        if x3.1 = (-1 : Int32) then
          some ((-1 : Int32), x3.2.1, c_refusals, x3.2.2.1, x3.2.2.2.1, x3.2.2.2.2)
        else
          (dv x3.1 (10000 : Int32)).bind fun x9 =>
          some (x9, x3.2.1, c_refusals, x3.2.2.1, x3.2.2.2.1, x3.2.2.2.2)
      else
        if x3.1 = (-1 : Int32) then
          f_R_cellsOf_j70 x3.2.1 c_refusals x3.2.2.1 x3.2.2.2.1 x3.2.2.2.2
        else
          (dv x3.1 (10000 : Int32)).bind fun x5 =>
          if v4 < x5 then
            if v4 = 0 then
              (dv x3.1 (100 : Int32)).bind fun x7 =>
              (rm x7 (100 : Int32)).bind fun x8 =>
              some (x8, x3.2.1, c_refusals, x3.2.2.1, x3.2.2.2.1, x3.2.2.2.2)
            else
              (rm x3.1 (100 : Int32)).bind fun x6 =>
              some (x6, x3.2.1, c_refusals, x3.2.2.1, x3.2.2.2.1, x3.2.2.2.2)
          else
            f_R_cellsOf_j70 x3.2.1 c_refusals x3.2.2.1 x3.2.2.2.1 x3.2.2.2.2
    else
      f_R_cellsOf_j14 c_gravel c_refusals c_cost c_may c_rest
def f_R_raked (v1 : Int32) (v2 : Int32) (c_n : Int32) (c_rain : Int32) (c_ear : Int32) (c_many : Int32) (c_gravel : (Nat → Int32)) (c_kind : (Nat → Int32)) (c_own : (Nat → Int32)) (c_refusals : (Nat → Int32)) (c_cost : (Nat → Int32)) (c_may : (Nat → Int32)) (c_rest : (Nat → Int32)) : Option (Int32 × (Nat → Int32) × (Nat → Int32) × (Nat → Int32) × (Nat → Int32) × (Nat → Int32)) :=
  (f_R_cellsOf v1 (9 : Int32) (0 : Int32) v2 c_n c_rain c_ear c_many c_gravel c_kind c_own c_refusals c_cost c_may c_rest).bind fun x1 =>
  some (x1.1, x1.2.1, x1.2.2.1, x1.2.2.2.1, x1.2.2.2.2.1, x1.2.2.2.2.2)
def f_R_planks (v1 : Int32) (v2 : Int32) (c_n : Int32) (c_rain : Int32) (c_ear : Int32) (c_many : Int32) (c_gravel : (Nat → Int32)) (c_kind : (Nat → Int32)) (c_own : (Nat → Int32)) (c_refusals : (Nat → Int32)) (c_cost : (Nat → Int32)) (c_may : (Nat → Int32)) (c_rest : (Nat → Int32)) : Option (Int32 × (Nat → Int32) × (Nat → Int32) × (Nat → Int32) × (Nat → Int32) × (Nat → Int32)) :=
  (f_R_cellsOf v1 (0 : Int32) (1 : Int32) v2 c_n c_rain c_ear c_many c_gravel c_kind c_own c_refusals c_cost c_may c_rest).bind fun x1 =>
  some (x1.1, x1.2.1, x1.2.2.1, x1.2.2.2.1, x1.2.2.2.2.1, x1.2.2.2.2.2)
def f_R_ways_b2 (c_n : Int32) (v1 : Int32) (c_may : (Nat → Int32)) : Option ((Int32 × (Nat → Int32)) ⊕ (Nat → Int32)) :=
  if (c_n * c_n) ≤ v1 then
    some (.inr c_may)
  else
    (wr c_may 36 v1 (vp_nar .boolean (1 : Int32))).bind fun x1 =>
    some (.inl ((v1 + (1 : Int32)), x1))
def f_R_ways_l2 (c_n : Int32) (v1 : Int32) (c_may : (Nat → Int32)) : Option (Nat → Int32) :=
  iter (fun s => f_R_ways_b2 c_n s.1 s.2) FUEL (v1, c_may)
def f_R_ways (c_n : Int32) (c_may : (Nat → Int32)) (c_rest : (Nat → Int32)) : Option (Int32 × (Nat → Int32) × (Nat → Int32)) :=
  (f_R_ways_l2 c_n (0 : Int32) c_may).bind fun x2 =>
  (f_R_count c_n x2 c_rest).bind fun x3 =>
  some (x3.1, x2, x3.2)
def f_R_through_j60 (v2 : Int32) (t1 : Int32) (t2 : Int32) (c_may : (Nat → Int32)) : Option ((Int32 × (Nat → Int32)) ⊕ (Nat → Int32)) :=
  (wr c_may 36 t1 (vp_nar .boolean t2)).bind fun x4 =>
  some (.inl ((v2 + (1 : Int32)), x4))
def f_R_through_j55 (v2 : Int32) (t1 : Int32) (c_may : (Nat → Int32)) : Option ((Int32 × (Nat → Int32)) ⊕ (Nat → Int32)) :=
  f_R_through_j60 v2 t1 (1 : Int32) c_may
def f_R_through_b17 (v1 : Int32) (c_n : Int32) (v2 : Int32) (c_may : (Nat → Int32)) : Option ((Int32 × (Nat → Int32)) ⊕ (Nat → Int32)) :=
  if (c_n * c_n) ≤ v2 then
    some (.inr c_may)
  else
    (dv v2 c_n).bind fun x2 =>
    (dv v1 c_n).bind fun x3 =>
    if x2 = x3 then
      if v2 = v1 then
        f_R_through_j55 v2 v2 c_may
      else
        f_R_through_j60 v2 v2 (0 : Int32) c_may
    else
      f_R_through_j55 v2 v2 c_may
def f_R_through_l17 (v1 : Int32) (c_n : Int32) (v2 : Int32) (c_may : (Nat → Int32)) : Option (Nat → Int32) :=
  iter (fun s => f_R_through_b17 v1 c_n s.1 s.2) FUEL (v2, c_may)
def f_R_through (v1 : Int32) (c_n : Int32) (c_refusals : (Nat → Int32)) (c_may : (Nat → Int32)) (c_rest : (Nat → Int32)) : Option (Int32 × (Nat → Int32) × (Nat → Int32) × (Nat → Int32)) :=
  (f_R_isCell v1 c_n).bind fun x1 =>
  if x1 = 0 then
    (f_R_no (-2 : Int32) c_refusals).bind fun x7 =>
    some (x7.1, x7.2, c_may, c_rest)
  else
    (f_R_through_l17 v1 c_n (0 : Int32) c_may).bind fun x5 =>
    (f_R_count c_n x5 c_rest).bind fun x6 =>
    some (x6.1, c_refusals, x5, x6.2)
def f_R_dry_b26 (v1 : Int32) (c_n : Int32) (c_ear : Int32) (c_gravel : (Nat → Int32)) (c_kind : (Nat → Int32)) (c_own : (Nat → Int32)) (v3 : Int32) (v4 : Int32) (c_rain : Int32) (c_cost : (Nat → Int32)) (c_may : (Nat → Int32)) (c_rest : (Nat → Int32)) : Option ((Int32 × Int32 × Int32 × (Nat → Int32) × (Nat → Int32) × (Nat → Int32)) ⊕ (Int32 × Int32 × (Nat → Int32) × (Nat → Int32) × (Nat → Int32))) :=
  if v4 < 0 then
    some (.inr (v3, c_rain, c_cost, c_may, c_rest))
  else
    (f_R_isSo v1 (1 : Int32) c_n v4 c_ear c_gravel c_kind c_own c_cost c_may c_rest).bind fun x2 =>
    if x2.1 = 0 then
      some (.inl (v3, (v4 + (-1 : Int32)), v4, x2.2.1, x2.2.2.1, x2.2.2.2))
    else
      some (.inl (v4, (v4 + (-1 : Int32)), v4, x2.2.1, x2.2.2.1, x2.2.2.2))
def f_R_dry_l26 (v1 : Int32) (c_n : Int32) (c_ear : Int32) (c_gravel : (Nat → Int32)) (c_kind : (Nat → Int32)) (c_own : (Nat → Int32)) (v3 : Int32) (v4 : Int32) (c_rain : Int32) (c_cost : (Nat → Int32)) (c_may : (Nat → Int32)) (c_rest : (Nat → Int32)) : Option (Int32 × Int32 × (Nat → Int32) × (Nat → Int32) × (Nat → Int32)) :=
  iter (fun s => f_R_dry_b26 v1 c_n c_ear c_gravel c_kind c_own s.1 s.2.1 s.2.2.1 s.2.2.2.1 s.2.2.2.2.1 s.2.2.2.2.2) FUEL (v3, v4, c_rain, c_cost, c_may, c_rest)
def f_R_dry (v1 : Int32) (c_n : Int32) (c_rain : Int32) (c_ear : Int32) (c_many : Int32) (c_gravel : (Nat → Int32)) (c_kind : (Nat → Int32)) (c_own : (Nat → Int32)) (c_refusals : (Nat → Int32)) (c_cost : (Nat → Int32)) (c_may : (Nat → Int32)) (c_rest : (Nat → Int32)) : Option (Int32 × Int32 × (Nat → Int32) × (Nat → Int32) × (Nat → Int32) × (Nat → Int32)) :=
  (f_R_isFeet v1 c_many).bind fun x1 =>
  if x1 = 0 then
    (f_R_no (-2 : Int32) c_refusals).bind fun x4 =>
    some (x4.1, c_rain, x4.2, c_cost, c_may, c_rest)
  else
    (f_R_dry_l26 v1 c_n c_ear c_gravel c_kind c_own (-1 : Int32) (9 : Int32) c_rain c_cost c_may c_rest).bind fun x3 =>
    some (x3.1, c_rain, c_refusals, x3.2.2.1, x3.2.2.2.1, x3.2.2.2.2)
def f_R_mean_b19 (v1 : Int32) (c_n : Int32) (c_rain : Int32) (c_gravel : (Nat → Int32)) (c_kind : (Nat → Int32)) (c_own : (Nat → Int32)) (v2 : Int32) (v3 : Int32) (c_refusals : (Nat → Int32)) (c_may : (Nat → Int32)) (c_rest : (Nat → Int32)) : Option ((Int32 × Int32 × (Nat → Int32) × (Nat → Int32) × (Nat → Int32)) ⊕ (Int32 × (Nat → Int32) × (Nat → Int32) × (Nat → Int32))) :=
  if (c_n * c_n) ≤ v3 then
    some (.inr (v2, c_refusals, c_may, c_rest))
  else
    (f_R_stepOn v1 v3 c_n c_rain c_gravel c_kind c_own).bind fun x2 =>
    (f_R_through v3 c_n c_refusals c_may c_rest).bind fun x3 =>
    some (.inl ((v2 + (x2 * x3.1)), (v3 + (1 : Int32)), x3.2.1, x3.2.2.1, x3.2.2.2))
def f_R_mean_l19 (v1 : Int32) (c_n : Int32) (c_rain : Int32) (c_gravel : (Nat → Int32)) (c_kind : (Nat → Int32)) (c_own : (Nat → Int32)) (v2 : Int32) (v3 : Int32) (c_refusals : (Nat → Int32)) (c_may : (Nat → Int32)) (c_rest : (Nat → Int32)) : Option (Int32 × (Nat → Int32) × (Nat → Int32) × (Nat → Int32)) :=
  iter (fun s => f_R_mean_b19 v1 c_n c_rain c_gravel c_kind c_own s.1 s.2.1 s.2.2.1 s.2.2.2.1 s.2.2.2.2) FUEL (v2, v3, c_refusals, c_may, c_rest)
def f_R_mean (v1 : Int32) (c_n : Int32) (c_rain : Int32) (c_many : Int32) (c_gravel : (Nat → Int32)) (c_kind : (Nat → Int32)) (c_own : (Nat → Int32)) (c_refusals : (Nat → Int32)) (c_may : (Nat → Int32)) (c_rest : (Nat → Int32)) : Option (Int32 × (Nat → Int32) × (Nat → Int32) × (Nat → Int32)) :=
  (f_R_isFeet v1 c_many).bind fun x1 =>
  if x1 = 0 then
    (f_R_no (-2 : Int32) c_refusals).bind fun x7 =>
    some (x7.1, x7.2, c_may, c_rest)
  else
    (f_R_mean_l19 v1 c_n c_rain c_gravel c_kind c_own (0 : Int32) (0 : Int32) c_refusals c_may c_rest).bind fun x4 =>
    (f_R_ways c_n x4.2.2.1 x4.2.2.2).bind fun x5 =>
    (dvL ((1000 : Int64) * (Int32.toInt64 x4.1)) (Int32.toInt64 x5.1)).bind fun x6 =>
    some ((Int64.toInt32 x6), x4.2.1, x5.2.1, x5.2.2)
def f_R_heardOn_b19 (v1 : Int32) (c_n : Int32) (c_rain : Int32) (c_ear : Int32) (c_many : Int32) (c_gravel : (Nat → Int32)) (c_kind : (Nat → Int32)) (c_own : (Nat → Int32)) (v2 : Int32) (v3 : Int32) : Option ((Int32 × Int32) ⊕ Int32) :=
  if c_many ≤ v3 then
    some (.inr v2)
  else
    (f_R_stepOn v3 v1 c_n c_rain c_gravel c_kind c_own).bind fun x2 =>
    if x2 < c_ear then
      some (.inl (v2, (v3 + (1 : Int32))))
    else
      some (.inl ((v2 ||| ((1 : Int32) <<< (v3 &&& 31))), (v3 + (1 : Int32))))
def f_R_heardOn_l19 (v1 : Int32) (c_n : Int32) (c_rain : Int32) (c_ear : Int32) (c_many : Int32) (c_gravel : (Nat → Int32)) (c_kind : (Nat → Int32)) (c_own : (Nat → Int32)) (v2 : Int32) (v3 : Int32) : Option Int32 :=
  iter (fun s => f_R_heardOn_b19 v1 c_n c_rain c_ear c_many c_gravel c_kind c_own s.1 s.2) FUEL (v2, v3)
def f_R_heardOn (v1 : Int32) (c_n : Int32) (c_rain : Int32) (c_ear : Int32) (c_many : Int32) (c_gravel : (Nat → Int32)) (c_kind : (Nat → Int32)) (c_own : (Nat → Int32)) (c_refusals : (Nat → Int32)) : Option (Int32 × (Nat → Int32)) :=
  (f_R_isCell v1 c_n).bind fun x1 =>
  if x1 = 0 then
    (f_R_no (-2 : Int32) c_refusals).bind fun x4 =>
    some (x4.1, x4.2)
  else
    (f_R_heardOn_l19 v1 c_n c_rain c_ear c_many c_gravel c_kind c_own (0 : Int32) (0 : Int32)).bind fun x3 =>
    some (x3, c_refusals)
def f_R_silent_b4 (c_n : Int32) (c_rain : Int32) (c_gravel : (Nat → Int32)) (v1 : Int32) (v2 : Int32) : Option ((Int32 × Int32) ⊕ Int32) :=
  if (c_n * c_n) ≤ v2 then
    some (.inr v1)
  else
    (f_R_wet v2 c_rain c_gravel).bind fun x1 =>
    if x1 = 0 then
      some (.inl ((v1 + (1 : Int32)), (v2 + (1 : Int32))))
    else
      some (.inl (v1, (v2 + (1 : Int32))))
def f_R_silent_l4 (c_n : Int32) (c_rain : Int32) (c_gravel : (Nat → Int32)) (v1 : Int32) (v2 : Int32) : Option Int32 :=
  iter (fun s => f_R_silent_b4 c_n c_rain c_gravel s.1 s.2) FUEL (v1, v2)
def f_R_silent (c_n : Int32) (c_rain : Int32) (c_gravel : (Nat → Int32)) : Option Int32 :=
  (f_R_silent_l4 c_n c_rain c_gravel (0 : Int32) (0 : Int32)).bind fun x2 =>
  some x2
def f_R_heardBy_b19 (v1 : Int32) (c_n : Int32) (c_rain : Int32) (c_ear : Int32) (c_gravel : (Nat → Int32)) (c_kind : (Nat → Int32)) (c_own : (Nat → Int32)) (v2 : Int32) (v3 : Int32) : Option ((Int32 × Int32) ⊕ Int32) :=
  if (c_n * c_n) ≤ v3 then
    some (.inr v2)
  else
    (f_R_stepOn v1 v3 c_n c_rain c_gravel c_kind c_own).bind fun x2 =>
    if x2 < c_ear then
      some (.inl (v2, (v3 + (1 : Int32))))
    else
      some (.inl ((v2 + (1 : Int32)), (v3 + (1 : Int32))))
def f_R_heardBy_l19 (v1 : Int32) (c_n : Int32) (c_rain : Int32) (c_ear : Int32) (c_gravel : (Nat → Int32)) (c_kind : (Nat → Int32)) (c_own : (Nat → Int32)) (v2 : Int32) (v3 : Int32) : Option Int32 :=
  iter (fun s => f_R_heardBy_b19 v1 c_n c_rain c_ear c_gravel c_kind c_own s.1 s.2) FUEL (v2, v3)
def f_R_heardBy (v1 : Int32) (c_n : Int32) (c_rain : Int32) (c_ear : Int32) (c_many : Int32) (c_gravel : (Nat → Int32)) (c_kind : (Nat → Int32)) (c_own : (Nat → Int32)) (c_refusals : (Nat → Int32)) : Option (Int32 × (Nat → Int32)) :=
  (f_R_isFeet v1 c_many).bind fun x1 =>
  if x1 = 0 then
    (f_R_no (-2 : Int32) c_refusals).bind fun x4 =>
    some (x4.1, x4.2)
  else
    (f_R_heardBy_l19 v1 c_n c_rain c_ear c_gravel c_kind c_own (0 : Int32) (0 : Int32)).bind fun x3 =>
    some (x3, c_refusals)
def f_R_gapOf_b3 (v1 : Int32) (v2 : Int32) (v3 : Int32) (c_n : Int32) (c_rain : Int32) (c_gravel : (Nat → Int32)) (c_kind : (Nat → Int32)) (c_own : (Nat → Int32)) (v4 : Int32) : Option (Int32 ⊕ (Int32 ⊕ Unit)) :=
  if c_n ≤ v4 then
    some (.inr (.inr ()))
  else
    (f_R_crunches v1 ((v4 * c_n) + v3) v4 c_rain c_gravel c_kind c_own).bind fun x1 =>
    (f_R_crunches v2 ((v4 * c_n) + v3) v4 c_rain c_gravel c_kind c_own).bind fun x2 =>
    if x1 = x2 then
      some (.inl (v4 + (1 : Int32)))
    else
      some (.inr (.inl v4))
def f_R_gapOf_l3 (v1 : Int32) (v2 : Int32) (v3 : Int32) (c_n : Int32) (c_rain : Int32) (c_gravel : (Nat → Int32)) (c_kind : (Nat → Int32)) (c_own : (Nat → Int32)) (v4 : Int32) : Option (Int32 ⊕ Unit) :=
  iter (fun s => f_R_gapOf_b3 v1 v2 v3 c_n c_rain c_gravel c_kind c_own s) FUEL v4
def f_R_gapOf (v1 : Int32) (v2 : Int32) (v3 : Int32) (c_n : Int32) (c_rain : Int32) (c_gravel : (Nat → Int32)) (c_kind : (Nat → Int32)) (c_own : (Nat → Int32)) : Option Int32 :=
  (f_R_gapOf_l3 v1 v2 v3 c_n c_rain c_gravel c_kind c_own (0 : Int32)).bind fun x3 =>
  Sum.elim (fun x4 =>
    some x4)
  (fun x5 =>
    some (-1 : Int32)) x3
def f_R_areTwo (v1 : Int32) (v2 : Int32) (c_many : Int32) : Option Int32 :=
  (f_R_isFeet v1 c_many).bind fun x1 =>
  if x1 = 0 then
    some (0 : Int32)
  else
    (f_R_isFeet v2 c_many).bind fun x2 =>
    if x2 = 0 then
      some (0 : Int32)
    else
      if v1 = v2 then
        some (0 : Int32)
      else
        some (1 : Int32)
def f_R_gap_j27 (c_refusals : (Nat → Int32)) : Option (Int32 × (Nat → Int32)) :=
  (f_R_no (-2 : Int32) c_refusals).bind fun x2 =>
  some (x2.1, x2.2)
def f_R_gap (v1 : Int32) (v2 : Int32) (v3 : Int32) (c_n : Int32) (c_rain : Int32) (c_many : Int32) (c_gravel : (Nat → Int32)) (c_kind : (Nat → Int32)) (c_own : (Nat → Int32)) (c_refusals : (Nat → Int32)) : Option (Int32 × (Nat → Int32)) :=
  (f_R_areTwo v1 v2 c_many).bind fun x1 =>
  if x1 = 0 then
    f_R_gap_j27 c_refusals
  else
    (f_R_isColumn v3 c_n).bind fun x3 =>
    if x3 = 0 then
      f_R_gap_j27 c_refusals
    else
      (f_R_gapOf v1 v2 v3 c_n c_rain c_gravel c_kind c_own).bind fun x4 =>
      some (x4, c_refusals)
def f_R_confused_b30 (v1 : Int32) (v3 : Int32) (c_n : Int32) (c_rain : Int32) (c_gravel : (Nat → Int32)) (c_kind : (Nat → Int32)) (c_own : (Nat → Int32)) (v2 : Int32) (v4 : Int32) : Option ((Int32 × Int32) ⊕ Int32) :=
  if c_n ≤ v4 then
    some (.inr v2)
  else
    if v3 = v1 then
      some (.inl (v2, (v4 + (1 : Int32))))
    else
      (f_R_gapOf v3 v1 v4 c_n c_rain c_gravel c_kind c_own).bind fun x2 =>
      if x2 = (-1 : Int32) then
        some (.inl ((v2 ||| ((1 : Int32) <<< (v3 &&& 31))), (v4 + (1 : Int32))))
      else
        some (.inl (v2, (v4 + (1 : Int32))))
def f_R_confused_l30 (v1 : Int32) (v3 : Int32) (c_n : Int32) (c_rain : Int32) (c_gravel : (Nat → Int32)) (c_kind : (Nat → Int32)) (c_own : (Nat → Int32)) (v2 : Int32) (v4 : Int32) : Option Int32 :=
  iter (fun s => f_R_confused_b30 v1 v3 c_n c_rain c_gravel c_kind c_own s.1 s.2) FUEL (v2, v4)
def f_R_confused_b19 (v1 : Int32) (c_n : Int32) (c_rain : Int32) (c_many : Int32) (c_gravel : (Nat → Int32)) (c_kind : (Nat → Int32)) (c_own : (Nat → Int32)) (v2 : Int32) (v3 : Int32) : Option ((Int32 × Int32) ⊕ Int32) :=
  if c_many ≤ v3 then
    some (.inr v2)
  else
    (f_R_confused_l30 v1 v3 c_n c_rain c_gravel c_kind c_own v2 (0 : Int32)).bind fun x3 =>
    some (.inl (x3, (v3 + (1 : Int32))))
def f_R_confused_l19 (v1 : Int32) (c_n : Int32) (c_rain : Int32) (c_many : Int32) (c_gravel : (Nat → Int32)) (c_kind : (Nat → Int32)) (c_own : (Nat → Int32)) (v2 : Int32) (v3 : Int32) : Option Int32 :=
  iter (fun s => f_R_confused_b19 v1 c_n c_rain c_many c_gravel c_kind c_own s.1 s.2) FUEL (v2, v3)
def f_R_confused (v1 : Int32) (c_n : Int32) (c_rain : Int32) (c_many : Int32) (c_gravel : (Nat → Int32)) (c_kind : (Nat → Int32)) (c_own : (Nat → Int32)) (c_refusals : (Nat → Int32)) : Option (Int32 × (Nat → Int32)) :=
  (f_R_isFeet v1 c_many).bind fun x1 =>
  if x1 = 0 then
    (f_R_no (-2 : Int32) c_refusals).bind fun x5 =>
    some (x5.1, x5.2)
  else
    (f_R_confused_l19 v1 c_n c_rain c_many c_gravel c_kind c_own (0 : Int32) (0 : Int32)).bind fun x4 =>
    some (x4, c_refusals)
def f_R_straight_b5 (v1 : Int32) (v2 : Int32) (c_n : Int32) (c_rain : Int32) (c_gravel : (Nat → Int32)) (c_kind : (Nat → Int32)) (c_own : (Nat → Int32)) (v3 : Int32) (v4 : Int32) : Option ((Int32 × Int32) ⊕ Int32) :=
  if c_n ≤ v4 then
    some (.inr v3)
  else
    (f_R_crunches v1 ((v4 * c_n) + v2) v4 c_rain c_gravel c_kind c_own).bind fun x1 =>
    some (.inl ((v3 + x1), (v4 + (1 : Int32))))
def f_R_straight_l5 (v1 : Int32) (v2 : Int32) (c_n : Int32) (c_rain : Int32) (c_gravel : (Nat → Int32)) (c_kind : (Nat → Int32)) (c_own : (Nat → Int32)) (v3 : Int32) (v4 : Int32) : Option Int32 :=
  iter (fun s => f_R_straight_b5 v1 v2 c_n c_rain c_gravel c_kind c_own s.1 s.2) FUEL (v3, v4)
def f_R_straight (v1 : Int32) (v2 : Int32) (c_n : Int32) (c_rain : Int32) (c_gravel : (Nat → Int32)) (c_kind : (Nat → Int32)) (c_own : (Nat → Int32)) : Option Int32 :=
  (f_R_straight_l5 v1 v2 c_n c_rain c_gravel c_kind c_own (0 : Int32) (0 : Int32)).bind fun x2 =>
  some x2
def f_R_column_b19 (v1 : Int32) (c_n : Int32) (c_rain : Int32) (c_gravel : (Nat → Int32)) (c_kind : (Nat → Int32)) (c_own : (Nat → Int32)) (v2 : Int32) (v3 : Int32) : Option ((Int32 × Int32) ⊕ Int32) :=
  if c_n ≤ v3 then
    some (.inr v2)
  else
    (f_R_straight v1 v3 c_n c_rain c_gravel c_kind c_own).bind fun x2 =>
    (f_R_straight v1 v2 c_n c_rain c_gravel c_kind c_own).bind fun x3 =>
    if x3 ≤ x2 then
      some (.inl (v2, (v3 + (1 : Int32))))
    else
      some (.inl (v3, (v3 + (1 : Int32))))
def f_R_column_l19 (v1 : Int32) (c_n : Int32) (c_rain : Int32) (c_gravel : (Nat → Int32)) (c_kind : (Nat → Int32)) (c_own : (Nat → Int32)) (v2 : Int32) (v3 : Int32) : Option Int32 :=
  iter (fun s => f_R_column_b19 v1 c_n c_rain c_gravel c_kind c_own s.1 s.2) FUEL (v2, v3)
def f_R_column (v1 : Int32) (c_n : Int32) (c_rain : Int32) (c_many : Int32) (c_gravel : (Nat → Int32)) (c_kind : (Nat → Int32)) (c_own : (Nat → Int32)) (c_refusals : (Nat → Int32)) : Option (Int32 × (Nat → Int32)) :=
  (f_R_isFeet v1 c_many).bind fun x1 =>
  if x1 = 0 then
    (f_R_no (-2 : Int32) c_refusals).bind fun x5 =>
    some (x5.1, x5.2)
  else
    (f_R_column_l19 v1 c_n c_rain c_gravel c_kind c_own (0 : Int32) (1 : Int32)).bind fun x4 =>
    some (x4, c_refusals)
def f_R_allLikely_b4 (c_many : Int32) (c_likely : (Nat → Int32)) (v1 : Int32) (v2 : Int32) : Option ((Int32 × Int32) ⊕ Int32) :=
  if c_many ≤ v2 then
    some (.inr v1)
  else
    (rd c_likely 8 v2).bind fun x1 =>
    some (.inl ((v1 + x1), (v2 + (1 : Int32))))
def f_R_allLikely_l4 (c_many : Int32) (c_likely : (Nat → Int32)) (v1 : Int32) (v2 : Int32) : Option Int32 :=
  iter (fun s => f_R_allLikely_b4 c_many c_likely s.1 s.2) FUEL (v1, v2)
def f_R_allLikely (c_many : Int32) (c_likely : (Nat → Int32)) : Option Int32 :=
  (f_R_allLikely_l4 c_many c_likely (0 : Int32) (0 : Int32)).bind fun x2 =>
  some x2
def f_R_odds (v1 : Int32) (c_many : Int32) (c_likely : (Nat → Int32)) (c_refusals : (Nat → Int32)) : Option (Int32 × (Nat → Int32)) :=
  (f_R_isFeet v1 c_many).bind fun x1 =>
  if x1 = 0 then
    (f_R_no (-2 : Int32) c_refusals).bind fun x2 =>
    some (x2.1, x2.2)
  else
    (rd c_likely 8 v1).bind fun x3 =>
    (f_R_allLikely c_many c_likely).bind fun x4 =>
    (dv ((1000 : Int32) * x3) x4).bind fun x5 =>
    some (x5, c_refusals)
def f_R_worst_b19 (v1 : Int32) (c_n : Int32) (c_rain : Int32) (c_gravel : (Nat → Int32)) (c_kind : (Nat → Int32)) (c_own : (Nat → Int32)) (v2 : Int32) (v3 : Int32) : Option ((Int32 × Int32) ⊕ Int32) :=
  if (c_n * c_n) ≤ v3 then
    some (.inr v2)
  else
    (f_R_stepOn v1 v3 c_n c_rain c_gravel c_kind c_own).bind fun x2 =>
    (f_R_stepOn v1 v2 c_n c_rain c_gravel c_kind c_own).bind fun x3 =>
    if x2 ≤ x3 then
      some (.inl (v2, (v3 + (1 : Int32))))
    else
      some (.inl (v3, (v3 + (1 : Int32))))
def f_R_worst_l19 (v1 : Int32) (c_n : Int32) (c_rain : Int32) (c_gravel : (Nat → Int32)) (c_kind : (Nat → Int32)) (c_own : (Nat → Int32)) (v2 : Int32) (v3 : Int32) : Option Int32 :=
  iter (fun s => f_R_worst_b19 v1 c_n c_rain c_gravel c_kind c_own s.1 s.2) FUEL (v2, v3)
def f_R_worst (v1 : Int32) (c_n : Int32) (c_rain : Int32) (c_many : Int32) (c_gravel : (Nat → Int32)) (c_kind : (Nat → Int32)) (c_own : (Nat → Int32)) (c_refusals : (Nat → Int32)) : Option (Int32 × (Nat → Int32)) :=
  (f_R_isFeet v1 c_many).bind fun x1 =>
  if x1 = 0 then
    (f_R_no (-2 : Int32) c_refusals).bind fun x5 =>
    some (x5.1, x5.2)
  else
    (f_R_worst_l19 v1 c_n c_rain c_gravel c_kind c_own (0 : Int32) (1 : Int32)).bind fun x4 =>
    some (x4, c_refusals)
def f_R_ranked_b30 (v2 : Int32) (c_n : Int32) (c_rain : Int32) (c_many : Int32) (c_gravel : (Nat → Int32)) (c_kind : (Nat → Int32)) (c_own : (Nat → Int32)) (v3 : Int32) (v4 : Int32) (c_cost : (Nat → Int32)) (c_may : (Nat → Int32)) (c_rest : (Nat → Int32)) (c_way : (Nat → Int32)) : Option ((Int32 × Int32 × (Nat → Int32) × (Nat → Int32) × (Nat → Int32) × (Nat → Int32)) ⊕ (Int32 × (Nat → Int32) × (Nat → Int32) × (Nat → Int32) × (Nat → Int32))) :=
  if c_many ≤ v4 then
    some (.inr (v3, c_cost, c_may, c_rest, c_way))
  else
    (f_R_quiet v4 c_n c_rain c_gravel c_kind c_own c_cost c_may c_rest c_way).bind fun x2 =>
    (f_R_quiet v2 c_n c_rain c_gravel c_kind c_own x2.2.1 x2.2.2.1 x2.2.2.2.1 x2.2.2.2.2).bind fun x3 =>
    if x2.1 < x3.1 then
      some (.inl ((v3 + (1 : Int32)), (v4 + (1 : Int32)), x3.2.1, x3.2.2.1, x3.2.2.2.1, x3.2.2.2.2))
    else
      (f_R_quiet v4 c_n c_rain c_gravel c_kind c_own x3.2.1 x3.2.2.1 x3.2.2.2.1 x3.2.2.2.2).bind fun x4 =>
      (f_R_quiet v2 c_n c_rain c_gravel c_kind c_own x4.2.1 x4.2.2.1 x4.2.2.2.1 x4.2.2.2.2).bind fun x5 =>
      if x4.1 = x5.1 then
        if v2 ≤ v4 then
          some (.inl (v3, (v4 + (1 : Int32)), x5.2.1, x5.2.2.1, x5.2.2.2.1, x5.2.2.2.2))
        else
          some (.inl ((v3 + (1 : Int32)), (v4 + (1 : Int32)), x5.2.1, x5.2.2.1, x5.2.2.2.1, x5.2.2.2.2))
      else
        some (.inl (v3, (v4 + (1 : Int32)), x5.2.1, x5.2.2.1, x5.2.2.2.1, x5.2.2.2.2))
def f_R_ranked_l30 (v2 : Int32) (c_n : Int32) (c_rain : Int32) (c_many : Int32) (c_gravel : (Nat → Int32)) (c_kind : (Nat → Int32)) (c_own : (Nat → Int32)) (v3 : Int32) (v4 : Int32) (c_cost : (Nat → Int32)) (c_may : (Nat → Int32)) (c_rest : (Nat → Int32)) (c_way : (Nat → Int32)) : Option (Int32 × (Nat → Int32) × (Nat → Int32) × (Nat → Int32) × (Nat → Int32)) :=
  iter (fun s => f_R_ranked_b30 v2 c_n c_rain c_many c_gravel c_kind c_own s.1 s.2.1 s.2.2.1 s.2.2.2.1 s.2.2.2.2.1 s.2.2.2.2.2) FUEL (v3, v4, c_cost, c_may, c_rest, c_way)
def f_R_ranked_b17 (v1 : Int32) (c_n : Int32) (c_rain : Int32) (c_many : Int32) (c_gravel : (Nat → Int32)) (c_kind : (Nat → Int32)) (c_own : (Nat → Int32)) (v2 : Int32) (c_cost : (Nat → Int32)) (c_may : (Nat → Int32)) (c_rest : (Nat → Int32)) (c_way : (Nat → Int32)) : Option ((Int32 × (Nat → Int32) × (Nat → Int32) × (Nat → Int32) × (Nat → Int32)) ⊕ ((Int32 × (Nat → Int32) × (Nat → Int32) × (Nat → Int32) × (Nat → Int32)) ⊕ ((Nat → Int32) × (Nat → Int32) × (Nat → Int32) × (Nat → Int32)))) :=
  if c_many ≤ v2 then
    some (.inr (.inr (c_cost, c_may, c_rest, c_way)))
  else
    (f_R_ranked_l30 v2 c_n c_rain c_many c_gravel c_kind c_own (0 : Int32) (0 : Int32) c_cost c_may c_rest c_way).bind fun x6 =>
    if x6.1 = v1 then
      some (.inr (.inl (v2, x6.2.1, x6.2.2.1, x6.2.2.2.1, x6.2.2.2.2)))
    else
      some (.inl ((v2 + (1 : Int32)), x6.2.1, x6.2.2.1, x6.2.2.2.1, x6.2.2.2.2))
def f_R_ranked_l17 (v1 : Int32) (c_n : Int32) (c_rain : Int32) (c_many : Int32) (c_gravel : (Nat → Int32)) (c_kind : (Nat → Int32)) (c_own : (Nat → Int32)) (v2 : Int32) (c_cost : (Nat → Int32)) (c_may : (Nat → Int32)) (c_rest : (Nat → Int32)) (c_way : (Nat → Int32)) : Option ((Int32 × (Nat → Int32) × (Nat → Int32) × (Nat → Int32) × (Nat → Int32)) ⊕ ((Nat → Int32) × (Nat → Int32) × (Nat → Int32) × (Nat → Int32))) :=
  iter (fun s => f_R_ranked_b17 v1 c_n c_rain c_many c_gravel c_kind c_own s.1 s.2.1 s.2.2.1 s.2.2.2.1 s.2.2.2.2) FUEL (v2, c_cost, c_may, c_rest, c_way)
def f_R_ranked (v1 : Int32) (c_n : Int32) (c_rain : Int32) (c_many : Int32) (c_gravel : (Nat → Int32)) (c_kind : (Nat → Int32)) (c_own : (Nat → Int32)) (c_refusals : (Nat → Int32)) (c_cost : (Nat → Int32)) (c_may : (Nat → Int32)) (c_rest : (Nat → Int32)) (c_way : (Nat → Int32)) : Option (Int32 × (Nat → Int32) × (Nat → Int32) × (Nat → Int32) × (Nat → Int32) × (Nat → Int32)) :=
  (f_R_isFeet v1 c_many).bind fun x1 =>
  if x1 = 0 then
    (f_R_no (-2 : Int32) c_refusals).bind fun x10 =>
    some (x10.1, x10.2, c_cost, c_may, c_rest, c_way)
  else
    (f_R_ranked_l17 v1 c_n c_rain c_many c_gravel c_kind c_own (0 : Int32) c_cost c_may c_rest c_way).bind fun x7 =>
    Sum.elim (fun x8 =>
      some (x8.1, c_refusals, x8.2.1, x8.2.2.1, x8.2.2.2.1, x8.2.2.2.2))
    (fun x9 =>
      some ((-1 : Int32), c_refusals, x9.1, x9.2.1, x9.2.2.1, x9.2.2.2)) x7
def f_R_noHeard (v1 : Int32) (c_n : Int32) (c_holding : (Nat → Int32)) (c_rowLength : (Nat → Int32)) : Option Int32 :=
  (f_R_isRow v1 c_holding).bind fun x1 =>
  if x1 = 0 then
    (f_R_noRow v1 c_holding).bind fun x3 =>
    some x3
  else
    (rd c_rowLength 8 v1).bind fun x2 =>
    if c_n ≤ x2 then
      some (0 : Int32)
    else
      some (-2 : Int32)
def f_R_toldAt (v1 : Int32) (v2 : Int32) (c_rowOf : (Nat → Int64)) : Option Int64 :=
  (rdL c_rowOf 320 (((40 : Int32) * v1) + v2)).bind fun x1 =>
  some x1
def f_R_fits_b3 (v1 : Int32) (v2 : Int32) (v3 : Int32) (c_n : Int32) (c_rain : Int32) (c_gravel : (Nat → Int32)) (c_kind : (Nat → Int32)) (c_own : (Nat → Int32)) (c_rowOf : (Nat → Int64)) (v4 : Int32) : Option (Int32 ⊕ Int32) :=
  if c_n ≤ v4 then
    some (.inr v4)
  else
    (f_R_toldAt v1 v4 c_rowOf).bind fun x1 =>
    (f_R_crunches v2 ((v4 * c_n) + v3) v4 c_rain c_gravel c_kind c_own).bind fun x2 =>
    if (lg_cmp x1 (Int32.toInt64 x2)) = 0 then
      some (.inl (v4 + (1 : Int32)))
    else
      some (.inr v4)
def f_R_fits_l3 (v1 : Int32) (v2 : Int32) (v3 : Int32) (c_n : Int32) (c_rain : Int32) (c_gravel : (Nat → Int32)) (c_kind : (Nat → Int32)) (c_own : (Nat → Int32)) (c_rowOf : (Nat → Int64)) (v4 : Int32) : Option Int32 :=
  iter (fun s => f_R_fits_b3 v1 v2 v3 c_n c_rain c_gravel c_kind c_own c_rowOf s) FUEL v4
def f_R_fits (v1 : Int32) (v2 : Int32) (v3 : Int32) (c_n : Int32) (c_rain : Int32) (c_gravel : (Nat → Int32)) (c_kind : (Nat → Int32)) (c_own : (Nat → Int32)) (c_rowOf : (Nat → Int64)) : Option Int32 :=
  (f_R_fits_l3 v1 v2 v3 c_n c_rain c_gravel c_kind c_own c_rowOf (0 : Int32)).bind fun x3 =>
  some x3
def f_R_fitting_b5 (v1 : Int32) (v2 : Int32) (c_n : Int32) (c_rain : Int32) (c_many : Int32) (c_gravel : (Nat → Int32)) (c_kind : (Nat → Int32)) (c_own : (Nat → Int32)) (c_rowOf : (Nat → Int64)) (v3 : Int32) (v4 : Int32) : Option ((Int32 × Int32) ⊕ Int32) :=
  if c_many ≤ v4 then
    some (.inr v3)
  else
    (f_R_fits v1 v4 v2 c_n c_rain c_gravel c_kind c_own c_rowOf).bind fun x1 =>
    if x1 = c_n then
      some (.inl ((v3 ||| ((1 : Int32) <<< (v4 &&& 31))), (v4 + (1 : Int32))))
    else
      some (.inl (v3, (v4 + (1 : Int32))))
def f_R_fitting_l5 (v1 : Int32) (v2 : Int32) (c_n : Int32) (c_rain : Int32) (c_many : Int32) (c_gravel : (Nat → Int32)) (c_kind : (Nat → Int32)) (c_own : (Nat → Int32)) (c_rowOf : (Nat → Int64)) (v3 : Int32) (v4 : Int32) : Option Int32 :=
  iter (fun s => f_R_fitting_b5 v1 v2 c_n c_rain c_many c_gravel c_kind c_own c_rowOf s.1 s.2) FUEL (v3, v4)
def f_R_fitting (v1 : Int32) (v2 : Int32) (c_n : Int32) (c_rain : Int32) (c_many : Int32) (c_gravel : (Nat → Int32)) (c_kind : (Nat → Int32)) (c_own : (Nat → Int32)) (c_rowOf : (Nat → Int64)) : Option Int32 :=
  (f_R_fitting_l5 v1 v2 c_n c_rain c_many c_gravel c_kind c_own c_rowOf (0 : Int32) (0 : Int32)).bind fun x2 =>
  some x2
def f_R_likeliest_b4 (v1 : Int32) (c_many : Int32) (c_likely : (Nat → Int32)) (v2 : Int32) (v3 : Int32) : Option ((Int32 × Int32) ⊕ Int32) :=
  if c_many ≤ v3 then
    some (.inr v2)
  else
    if ((v1 >>> (v3 &&& 31)) &&& (1 : Int32)) = (1 : Int32) then
      if v2 = (-1 : Int32) then
        some (.inl (v3, (v3 + (1 : Int32))))
      else
        (rd c_likely 8 v3).bind fun x1 =>
        (rd c_likely 8 v2).bind fun x2 =>
        if x1 ≤ x2 then
          some (.inl (v2, (v3 + (1 : Int32))))
        else
          some (.inl (v3, (v3 + (1 : Int32))))
    else
      some (.inl (v2, (v3 + (1 : Int32))))
def f_R_likeliest_l4 (v1 : Int32) (c_many : Int32) (c_likely : (Nat → Int32)) (v2 : Int32) (v3 : Int32) : Option Int32 :=
  iter (fun s => f_R_likeliest_b4 v1 c_many c_likely s.1 s.2) FUEL (v2, v3)
def f_R_likeliest (v1 : Int32) (c_many : Int32) (c_likely : (Nat → Int32)) : Option Int32 :=
  (f_R_likeliest_l4 v1 c_many c_likely (-1 : Int32) (0 : Int32)).bind fun x3 =>
  some x3
def f_R_sure_b16 (v1 : Int32) (v2 : Int32) (v3 : Int32) (c_n : Int32) (c_rain : Int32) (c_many : Int32) (c_gravel : (Nat → Int32)) (c_kind : (Nat → Int32)) (c_own : (Nat → Int32)) (c_rowOf : (Nat → Int64)) (v4 : Int32) (v5 : Int32) : Option ((Int32 × Int32) ⊕ Int32) :=
  if c_many ≤ v5 then
    some (.inr v4)
  else
    (f_R_fits v1 v5 v2 c_n c_rain c_gravel c_kind c_own c_rowOf).bind fun x1 =>
    if x1 < v3 then
      some (.inl (v4, (v5 + (1 : Int32))))
    else
      some (.inl ((v4 + (1 : Int32)), (v5 + (1 : Int32))))
def f_R_sure_l16 (v1 : Int32) (v2 : Int32) (v3 : Int32) (c_n : Int32) (c_rain : Int32) (c_many : Int32) (c_gravel : (Nat → Int32)) (c_kind : (Nat → Int32)) (c_own : (Nat → Int32)) (c_rowOf : (Nat → Int64)) (v4 : Int32) (v5 : Int32) : Option Int32 :=
  iter (fun s => f_R_sure_b16 v1 v2 v3 c_n c_rain c_many c_gravel c_kind c_own c_rowOf s.1 s.2) FUEL (v4, v5)
def f_R_sure_b2 (v1 : Int32) (v2 : Int32) (c_n : Int32) (c_rain : Int32) (c_many : Int32) (c_gravel : (Nat → Int32)) (c_kind : (Nat → Int32)) (c_own : (Nat → Int32)) (c_rowOf : (Nat → Int64)) (v3 : Int32) : Option (Int32 ⊕ (Int32 ⊕ Unit)) :=
  if c_n < v3 then
    some (.inr (.inr ()))
  else
    (f_R_sure_l16 v1 v2 v3 c_n c_rain c_many c_gravel c_kind c_own c_rowOf (0 : Int32) (0 : Int32)).bind fun x2 =>
    if x2 = (1 : Int32) then
      some (.inr (.inl v3))
    else
      some (.inl (v3 + (1 : Int32)))
def f_R_sure_l2 (v1 : Int32) (v2 : Int32) (c_n : Int32) (c_rain : Int32) (c_many : Int32) (c_gravel : (Nat → Int32)) (c_kind : (Nat → Int32)) (c_own : (Nat → Int32)) (c_rowOf : (Nat → Int64)) (v3 : Int32) : Option (Int32 ⊕ Unit) :=
  iter (fun s => f_R_sure_b2 v1 v2 c_n c_rain c_many c_gravel c_kind c_own c_rowOf s) FUEL v3
def f_R_sure (v1 : Int32) (v2 : Int32) (c_n : Int32) (c_rain : Int32) (c_many : Int32) (c_gravel : (Nat → Int32)) (c_kind : (Nat → Int32)) (c_own : (Nat → Int32)) (c_rowOf : (Nat → Int64)) : Option Int32 :=
  (f_R_sure_l2 v1 v2 c_n c_rain c_many c_gravel c_kind c_own c_rowOf (1 : Int32)).bind fun x3 =>
  Sum.elim (fun x4 =>
    some x4)
  (fun x5 =>
    some (-1 : Int32)) x3
def f_R_who_j24 (c_refusals : (Nat → Int32)) : Option (Int32 × (Nat → Int32)) :=
  (f_R_no (-2 : Int32) c_refusals).bind fun x2 =>
  some (x2.1, x2.2)
def f_R_who_b116 (v5 : Int32) (c_many : Int32) (c_likely : (Nat → Int32)) (v6 : Int32) (v7 : Int32) : Option ((Int32 × Int32) ⊕ Int32) :=
  if c_many ≤ v7 then
    some (.inr v6)
  else
    if ((v5 >>> (v7 &&& 31)) &&& (1 : Int32)) = (1 : Int32) then
      (rd c_likely 8 v7).bind fun x7 =>
      some (.inl ((v6 + x7), (v7 + (1 : Int32))))
    else
      some (.inl (v6, (v7 + (1 : Int32))))
def f_R_who_l116 (v5 : Int32) (c_many : Int32) (c_likely : (Nat → Int32)) (v6 : Int32) (v7 : Int32) : Option Int32 :=
  iter (fun s => f_R_who_b116 v5 c_many c_likely s.1 s.2) FUEL (v6, v7)
def f_R_who (v1 : Int32) (v2 : Int32) (v3 : Int32) (c_n : Int32) (c_rain : Int32) (c_many : Int32) (c_gravel : (Nat → Int32)) (c_kind : (Nat → Int32)) (c_own : (Nat → Int32)) (c_likely : (Nat → Int32)) (c_holding : (Nat → Int32)) (c_rowLength : (Nat → Int32)) (c_rowOf : (Nat → Int64)) (c_refusals : (Nat → Int32)) : Option (Int32 × (Nat → Int32)) :=
  (f_R_isShelf v1).bind fun x1 =>
  if x1 = 0 then
    f_R_who_j24 c_refusals
  else
    (f_R_isColumn v2 c_n).bind fun x3 =>
    if x3 = 0 then
      f_R_who_j24 c_refusals
    else
      (f_R_within v3 (0 : Int32) (3 : Int32)).bind fun x4 =>
      if x4 = 0 then
        f_R_who_j24 c_refusals
      else
        (f_R_noHeard v1 c_n c_holding c_rowLength).bind fun x5 =>
        if 0 ≤ x5 then
          (f_R_fitting v1 v2 c_n c_rain c_many c_gravel c_kind c_own c_rowOf).bind fun x6 =>
          if v3 = 0 then
            some (x6, c_refusals)
          else
            if v3 = (1 : Int32) then
              (f_R_likeliest x6 c_many c_likely).bind fun x14 =>
              some (x14, c_refusals)
            else
              if v3 = (3 : Int32) then
                if x6 = 0 then
                  some ((-1 : Int32), c_refusals)
                else
                  (f_R_sure v1 v2 c_n c_rain c_many c_gravel c_kind c_own c_rowOf).bind fun x13 =>
                  some (x13, c_refusals)
              else
                if x6 = 0 then
                  (f_R_no (-5 : Int32) c_refusals).bind fun x12 =>
                  some (x12.1, x12.2)
                else
                  (f_R_who_l116 x6 c_many c_likely (0 : Int32) (0 : Int32)).bind fun x8 =>
                  (f_R_likeliest x6 c_many c_likely).bind fun x9 =>
                  (rd c_likely 8 x9).bind fun x10 =>
                  (dv ((1000 : Int32) * x10) x8).bind fun x11 =>
                  some (x11, c_refusals)
        else
          (f_R_no x5 c_refusals).bind fun x15 =>
          some (x15.1, x15.2)
def f_R_apartOn_b18 (v1 : Int32) (v3 : Int32) (c_n : Int32) (c_rain : Int32) (c_many : Int32) (c_gravel : (Nat → Int32)) (c_kind : (Nat → Int32)) (c_own : (Nat → Int32)) (v4 : Int32) (v5 : Int32) : Option ((Int32 × Int32) ⊕ Int32) :=
  if c_many ≤ v5 then
    some (.inr v4)
  else
    if v5 = v3 then
      some (.inl (v4, (v5 + (1 : Int32))))
    else
      (f_R_gapOf v3 v5 v1 c_n c_rain c_gravel c_kind c_own).bind fun x1 =>
      if x1 = (-1 : Int32) then
        some (.inl ((0 : Int32), (v5 + (1 : Int32))))
      else
        some (.inl (v4, (v5 + (1 : Int32))))
def f_R_apartOn_l18 (v1 : Int32) (v3 : Int32) (c_n : Int32) (c_rain : Int32) (c_many : Int32) (c_gravel : (Nat → Int32)) (c_kind : (Nat → Int32)) (c_own : (Nat → Int32)) (v4 : Int32) (v5 : Int32) : Option Int32 :=
  iter (fun s => f_R_apartOn_b18 v1 v3 c_n c_rain c_many c_gravel c_kind c_own s.1 s.2) FUEL (v4, v5)
def f_R_apartOn_b4 (v1 : Int32) (c_n : Int32) (c_rain : Int32) (c_many : Int32) (c_gravel : (Nat → Int32)) (c_kind : (Nat → Int32)) (c_own : (Nat → Int32)) (v2 : Int32) (v3 : Int32) : Option ((Int32 × Int32) ⊕ Int32) :=
  if c_many ≤ v3 then
    some (.inr v2)
  else
    (f_R_apartOn_l18 v1 v3 c_n c_rain c_many c_gravel c_kind c_own (1 : Int32) (0 : Int32)).bind fun x2 =>
    if x2 = 0 then
      some (.inl (v2, (v3 + (1 : Int32))))
    else
      some (.inl ((v2 + (1 : Int32)), (v3 + (1 : Int32))))
def f_R_apartOn_l4 (v1 : Int32) (c_n : Int32) (c_rain : Int32) (c_many : Int32) (c_gravel : (Nat → Int32)) (c_kind : (Nat → Int32)) (c_own : (Nat → Int32)) (v2 : Int32) (v3 : Int32) : Option Int32 :=
  iter (fun s => f_R_apartOn_b4 v1 c_n c_rain c_many c_gravel c_kind c_own s.1 s.2) FUEL (v2, v3)
def f_R_apartOn (v1 : Int32) (c_n : Int32) (c_rain : Int32) (c_many : Int32) (c_gravel : (Nat → Int32)) (c_kind : (Nat → Int32)) (c_own : (Nat → Int32)) : Option Int32 :=
  (f_R_apartOn_l4 v1 c_n c_rain c_many c_gravel c_kind c_own (0 : Int32) (0 : Int32)).bind fun x3 =>
  some x3
def f_R_apart (v1 : Int32) (c_n : Int32) (c_rain : Int32) (c_many : Int32) (c_gravel : (Nat → Int32)) (c_kind : (Nat → Int32)) (c_own : (Nat → Int32)) (c_refusals : (Nat → Int32)) : Option (Int32 × (Nat → Int32)) :=
  (f_R_isColumn v1 c_n).bind fun x1 =>
  if x1 = 0 then
    (f_R_no (-2 : Int32) c_refusals).bind fun x2 =>
    some (x2.1, x2.2)
  else
    (f_R_apartOn v1 c_n c_rain c_many c_gravel c_kind c_own).bind fun x3 =>
    some (x3, c_refusals)
def f_R_mostApart_b4 (c_n : Int32) (c_rain : Int32) (c_many : Int32) (c_gravel : (Nat → Int32)) (c_kind : (Nat → Int32)) (c_own : (Nat → Int32)) (v1 : Int32) (v2 : Int32) : Option ((Int32 × Int32) ⊕ Int32) :=
  if c_n ≤ v2 then
    some (.inr v1)
  else
    (f_R_apartOn v2 c_n c_rain c_many c_gravel c_kind c_own).bind fun x1 =>
    (f_R_apartOn v1 c_n c_rain c_many c_gravel c_kind c_own).bind fun x2 =>
    if x1 ≤ x2 then
      some (.inl (v1, (v2 + (1 : Int32))))
    else
      some (.inl (v2, (v2 + (1 : Int32))))
def f_R_mostApart_l4 (c_n : Int32) (c_rain : Int32) (c_many : Int32) (c_gravel : (Nat → Int32)) (c_kind : (Nat → Int32)) (c_own : (Nat → Int32)) (v1 : Int32) (v2 : Int32) : Option Int32 :=
  iter (fun s => f_R_mostApart_b4 c_n c_rain c_many c_gravel c_kind c_own s.1 s.2) FUEL (v1, v2)
def f_R_mostApart (c_n : Int32) (c_rain : Int32) (c_many : Int32) (c_gravel : (Nat → Int32)) (c_kind : (Nat → Int32)) (c_own : (Nat → Int32)) : Option Int32 :=
  (f_R_mostApart_l4 c_n c_rain c_many c_gravel c_kind c_own (0 : Int32) (1 : Int32)).bind fun x3 =>
  some x3
def f_R_telling_b36 (c_n : Int32) (c_many : Int32) (c_gravel : (Nat → Int32)) (c_kind : (Nat → Int32)) (c_own : (Nat → Int32)) (v3 : Int32) (v4 : Int32) (c_rain : Int32) : Option ((Int32 × Int32 × Int32) ⊕ (Int32 × Int32)) :=
  if v4 < 0 then
    some (.inr (v3, c_rain))
  else
    (f_R_mostApart c_n v4 c_many c_gravel c_kind c_own).bind fun x2 =>
    (f_R_apartOn x2 c_n v4 c_many c_gravel c_kind c_own).bind fun x3 =>
    if x3 = c_many then
      some (.inl (v4, (v4 + (-1 : Int32)), v4))
    else
      some (.inl (v3, (v4 + (-1 : Int32)), v4))
def f_R_telling_l36 (c_n : Int32) (c_many : Int32) (c_gravel : (Nat → Int32)) (c_kind : (Nat → Int32)) (c_own : (Nat → Int32)) (v3 : Int32) (v4 : Int32) (c_rain : Int32) : Option (Int32 × Int32) :=
  iter (fun s => f_R_telling_b36 c_n c_many c_gravel c_kind c_own s.1 s.2.1 s.2.2) FUEL (v3, v4, c_rain)
def f_R_telling (v1 : Int32) (c_n : Int32) (c_rain : Int32) (c_many : Int32) (c_gravel : (Nat → Int32)) (c_kind : (Nat → Int32)) (c_own : (Nat → Int32)) (c_refusals : (Nat → Int32)) : Option (Int32 × Int32 × (Nat → Int32)) :=
  (f_R_within v1 (0 : Int32) (1 : Int32)).bind fun x1 =>
  if x1 = 0 then
    (f_R_no (-2 : Int32) c_refusals).bind fun x6 =>
    some (x6.1, c_rain, x6.2)
  else
    if v1 = 0 then
      (f_R_mostApart c_n c_rain c_many c_gravel c_kind c_own).bind fun x5 =>
      some (x5, c_rain, c_refusals)
    else
      (f_R_telling_l36 c_n c_many c_gravel c_kind c_own (-1 : Int32) (9 : Int32) c_rain).bind fun x4 =>
      some (x4.1, c_rain, c_refusals)
def f_R_as_j26 (c_refusals : (Nat → Int32)) (c_may : (Nat → Int32)) (c_rest : (Nat → Int32)) (c_way : (Nat → Int32)) : Option (Int32 × (Nat → Int32) × (Nat → Int32) × (Nat → Int32) × (Nat → Int32)) :=
  (f_R_no (-2 : Int32) c_refusals).bind fun x2 =>
  some (x2.1, x2.2, c_may, c_rest, c_way)
def f_R_as_j97 (v5 : Int32) (t1 : Int32) (t2 : Int32) (c_may : (Nat → Int32)) : Option ((Int32 × (Nat → Int32)) ⊕ (Nat → Int32)) :=
  (wr c_may 36 t1 (vp_nar .boolean t2)).bind fun x9 =>
  some (.inl ((v5 + (1 : Int32)), x9))
def f_R_as_b36 (v1 : Int32) (v2 : Int32) (v3 : Int32) (c_n : Int32) (c_rain : Int32) (c_gravel : (Nat → Int32)) (c_kind : (Nat → Int32)) (c_own : (Nat → Int32)) (v5 : Int32) (c_may : (Nat → Int32)) : Option ((Int32 × (Nat → Int32)) ⊕ (Nat → Int32)) :=
  if (c_n * c_n) ≤ v5 then
    some (.inr c_may)
  else
    (f_R_stepOn v1 v5 c_n c_rain c_gravel c_kind c_own).bind fun x5 =>
    (dv v5 c_n).bind fun x6 =>
    (dv v5 c_n).bind fun x7 =>
    (f_R_crunches v2 ((x6 * c_n) + v3) x7 c_rain c_gravel c_kind c_own).bind fun x8 =>
    if x5 = x8 then
      f_R_as_j97 v5 v5 (1 : Int32) c_may
    else
      f_R_as_j97 v5 v5 (0 : Int32) c_may
def f_R_as_l36 (v1 : Int32) (v2 : Int32) (v3 : Int32) (c_n : Int32) (c_rain : Int32) (c_gravel : (Nat → Int32)) (c_kind : (Nat → Int32)) (c_own : (Nat → Int32)) (v5 : Int32) (c_may : (Nat → Int32)) : Option (Nat → Int32) :=
  iter (fun s => f_R_as_b36 v1 v2 v3 c_n c_rain c_gravel c_kind c_own s.1 s.2) FUEL (v5, c_may)
def f_R_as (v1 : Int32) (v2 : Int32) (v3 : Int32) (v4 : Int32) (c_n : Int32) (c_rain : Int32) (c_many : Int32) (c_gravel : (Nat → Int32)) (c_kind : (Nat → Int32)) (c_own : (Nat → Int32)) (c_refusals : (Nat → Int32)) (c_may : (Nat → Int32)) (c_rest : (Nat → Int32)) (c_way : (Nat → Int32)) : Option (Int32 × (Nat → Int32) × (Nat → Int32) × (Nat → Int32) × (Nat → Int32)) :=
  (f_R_areTwo v1 v2 c_many).bind fun x1 =>
  if x1 = 0 then
    f_R_as_j26 c_refusals c_may c_rest c_way
  else
    (f_R_isColumn v3 c_n).bind fun x3 =>
    if x3 = 0 then
      f_R_as_j26 c_refusals c_may c_rest c_way
    else
      (f_R_isPlace v4 c_n).bind fun x4 =>
      if x4 = 0 then
        f_R_as_j26 c_refusals c_may c_rest c_way
      else
        (f_R_as_l36 v1 v2 v3 c_n c_rain c_gravel c_kind c_own (0 : Int32) c_may).bind fun x10 =>
        (f_R_count c_n x10 c_rest).bind fun x11 =>
        if v4 = (-1 : Int32) then
          some (x11.1, c_refusals, x10, x11.2, c_way)
        else
          if x11.1 = 0 then
            (f_R_no (-5 : Int32) c_refusals).bind fun x14 =>
            some (x14.1, x14.2, x10, x11.2, c_way)
          else
            (f_R_first c_n x10 x11.2 c_way).bind fun x12 =>
            (rd x12.2 6 v4).bind fun x13 =>
            some (x13, c_refusals, x10, x12.1, x12.2)
def f_R_two_j38 (c_refusals : (Nat → Int32)) : Option (Int32 × (Nat → Int32)) :=
  (f_R_no (-2 : Int32) c_refusals).bind fun x2 =>
  some (x2.1, x2.2)
def f_R_two_b111 (v1 : Int32) (v2 : Int32) (v3 : Int32) (v8 : Int32) (v9 : Int32) (c_n : Int32) (c_rain : Int32) (c_gravel : (Nat → Int32)) (c_kind : (Nat → Int32)) (c_own : (Nat → Int32)) (c_rowOf : (Nat → Int64)) (v10 : Int32) (v11 : Int32) : Option ((Int32 × Int32) ⊕ Int32) :=
  if c_n ≤ v11 then
    some (.inr v10)
  else
    (f_R_toldAt v1 v11 c_rowOf).bind fun x7 =>
    (f_R_crunches v8 ((v11 * c_n) + v2) v11 c_rain c_gravel c_kind c_own).bind fun x8 =>
    (f_R_crunches v9 ((v11 * c_n) + v3) v11 c_rain c_gravel c_kind c_own).bind fun x9 =>
    if (lg_cmp x7 (Int32.toInt64 (x8 + x9))) = 0 then
      some (.inl (v10, (v11 + (1 : Int32))))
    else
      some (.inl ((0 : Int32), (v11 + (1 : Int32))))
def f_R_two_l111 (v1 : Int32) (v2 : Int32) (v3 : Int32) (v8 : Int32) (v9 : Int32) (c_n : Int32) (c_rain : Int32) (c_gravel : (Nat → Int32)) (c_kind : (Nat → Int32)) (c_own : (Nat → Int32)) (c_rowOf : (Nat → Int64)) (v10 : Int32) (v11 : Int32) : Option Int32 :=
  iter (fun s => f_R_two_b111 v1 v2 v3 v8 v9 c_n c_rain c_gravel c_kind c_own c_rowOf s.1 s.2) FUEL (v10, v11)
def f_R_two_j106 (v1 : Int32) (v2 : Int32) (v3 : Int32) (v6 : Int32) (v7 : Int32) (v8 : Int32) (v9 : Int32) (t0 : Int32) (c_n : Int32) (c_rain : Int32) (c_gravel : (Nat → Int32)) (c_kind : (Nat → Int32)) (c_own : (Nat → Int32)) (c_rowOf : (Nat → Int64)) : Option ((Int32 × Int32 × Int32) ⊕ (Int32 × Int32)) :=
  (f_R_two_l111 v1 v2 v3 v8 v9 c_n c_rain c_gravel c_kind c_own c_rowOf t0 (0 : Int32)).bind fun x10 =>
  if x10 = 0 then
    some (.inl (v6, v7, (v9 + (1 : Int32))))
  else
    if v7 = (-1 : Int32) then
      some (.inl ((v6 + (1 : Int32)), (((10 : Int32) * v8) + v9), (v9 + (1 : Int32))))
    else
      some (.inl ((v6 + (1 : Int32)), v7, (v9 + (1 : Int32))))
def f_R_two_b85 (v1 : Int32) (v2 : Int32) (v3 : Int32) (v8 : Int32) (c_n : Int32) (c_rain : Int32) (c_many : Int32) (c_gravel : (Nat → Int32)) (c_kind : (Nat → Int32)) (c_own : (Nat → Int32)) (c_rowOf : (Nat → Int64)) (v6 : Int32) (v7 : Int32) (v9 : Int32) : Option ((Int32 × Int32 × Int32) ⊕ (Int32 × Int32)) :=
  if c_many ≤ v9 then
    some (.inr (v6, v7))
  else
    if v8 = v9 then
      f_R_two_j106 v1 v2 v3 v6 v7 v8 v9 (0 : Int32) c_n c_rain c_gravel c_kind c_own c_rowOf
    else
      f_R_two_j106 v1 v2 v3 v6 v7 v8 v9 (1 : Int32) c_n c_rain c_gravel c_kind c_own c_rowOf
def f_R_two_l85 (v1 : Int32) (v2 : Int32) (v3 : Int32) (v8 : Int32) (c_n : Int32) (c_rain : Int32) (c_many : Int32) (c_gravel : (Nat → Int32)) (c_kind : (Nat → Int32)) (c_own : (Nat → Int32)) (c_rowOf : (Nat → Int64)) (v6 : Int32) (v7 : Int32) (v9 : Int32) : Option (Int32 × Int32) :=
  iter (fun s => f_R_two_b85 v1 v2 v3 v8 c_n c_rain c_many c_gravel c_kind c_own c_rowOf s.1 s.2.1 s.2.2) FUEL (v6, v7, v9)
def f_R_two_b73 (v1 : Int32) (v2 : Int32) (v3 : Int32) (c_n : Int32) (c_rain : Int32) (c_many : Int32) (c_gravel : (Nat → Int32)) (c_kind : (Nat → Int32)) (c_own : (Nat → Int32)) (c_rowOf : (Nat → Int64)) (v6 : Int32) (v7 : Int32) (v8 : Int32) : Option ((Int32 × Int32 × Int32) ⊕ (Int32 × Int32)) :=
  if c_many ≤ v8 then
    some (.inr (v6, v7))
  else
    (f_R_two_l85 v1 v2 v3 v8 c_n c_rain c_many c_gravel c_kind c_own c_rowOf v6 v7 (0 : Int32)).bind fun x11 =>
    some (.inl (x11.1, x11.2, (v8 + (1 : Int32))))
def f_R_two_l73 (v1 : Int32) (v2 : Int32) (v3 : Int32) (c_n : Int32) (c_rain : Int32) (c_many : Int32) (c_gravel : (Nat → Int32)) (c_kind : (Nat → Int32)) (c_own : (Nat → Int32)) (c_rowOf : (Nat → Int64)) (v6 : Int32) (v7 : Int32) (v8 : Int32) : Option (Int32 × Int32) :=
  iter (fun s => f_R_two_b73 v1 v2 v3 c_n c_rain c_many c_gravel c_kind c_own c_rowOf s.1 s.2.1 s.2.2) FUEL (v6, v7, v8)
def f_R_two (v1 : Int32) (v2 : Int32) (v3 : Int32) (v4 : Int32) (c_n : Int32) (c_rain : Int32) (c_many : Int32) (c_gravel : (Nat → Int32)) (c_kind : (Nat → Int32)) (c_own : (Nat → Int32)) (c_holding : (Nat → Int32)) (c_rowLength : (Nat → Int32)) (c_rowOf : (Nat → Int64)) (c_refusals : (Nat → Int32)) : Option (Int32 × (Nat → Int32)) :=
  (f_R_isShelf v1).bind fun x1 =>
  if x1 = 0 then
    f_R_two_j38 c_refusals
  else
    (f_R_isColumn v2 c_n).bind fun x3 =>
    if x3 = 0 then
      f_R_two_j38 c_refusals
    else
      (f_R_isColumn v3 c_n).bind fun x4 =>
      if x4 = 0 then
        f_R_two_j38 c_refusals
      else
        (f_R_within v4 (0 : Int32) (1 : Int32)).bind fun x5 =>
        if x5 = 0 then
          f_R_two_j38 c_refusals
        else
          if v2 = v3 then
            f_R_two_j38 c_refusals
          else
            (f_R_noHeard v1 c_n c_holding c_rowLength).bind fun x6 =>
            if 0 ≤ x6 then
              (f_R_two_l73 v1 v2 v3 c_n c_rain c_many c_gravel c_kind c_own c_rowOf (0 : Int32) (-1 : Int32) (0 : Int32)).bind fun x12 =>
              if v4 = 0 then
                some (x12.1, c_refusals)
              else
                some (x12.2, c_refusals)
            else
              (f_R_no x6 c_refusals).bind fun x13 =>
              some (x13.1, x13.2)
def f_R_meant_j33 (c_kind : (Nat → Int32)) (c_own : (Nat → Int32)) (c_refusals : (Nat → Int32)) : Option (Int32 × (Nat → Int32) × (Nat → Int32) × (Nat → Int32)) :=
  (f_R_no (-2 : Int32) c_refusals).bind fun x2 =>
  some (x2.1, c_kind, c_own, x2.2)
def f_R_meant_b84 (v1 : Int32) (v2 : Int32) (v3 : Int32) (c_n : Int32) (c_rain : Int32) (c_gravel : (Nat → Int32)) (c_own : (Nat → Int32)) (c_rowOf : (Nat → Int64)) (v8 : Int32) (v10 : Int32) (c_kind : (Nat → Int32)) : Option ((Int32 × Int32 × (Nat → Int32)) ⊕ (Int32 × (Nat → Int32))) :=
  if (6 : Int32) ≤ v10 then
    some (.inr (v8, c_kind))
  else
    (wr c_kind 8 v2 v10).bind fun x9 =>
    (f_R_fits v1 v2 v3 c_n c_rain c_gravel x9 c_own c_rowOf).bind fun x10 =>
    if x10 = c_n then
      some (.inl ((v8 ||| ((1 : Int32) <<< (v10 &&& 31))), (v10 + (1 : Int32)), x9))
    else
      some (.inl (v8, (v10 + (1 : Int32)), x9))
def f_R_meant_l84 (v1 : Int32) (v2 : Int32) (v3 : Int32) (c_n : Int32) (c_rain : Int32) (c_gravel : (Nat → Int32)) (c_own : (Nat → Int32)) (c_rowOf : (Nat → Int64)) (v8 : Int32) (v10 : Int32) (c_kind : (Nat → Int32)) : Option (Int32 × (Nat → Int32)) :=
  iter (fun s => f_R_meant_b84 v1 v2 v3 c_n c_rain c_gravel c_own c_rowOf s.1 s.2.1 s.2.2) FUEL (v8, v10, c_kind)
def f_R_meant_b140 (v1 : Int32) (v2 : Int32) (v3 : Int32) (c_n : Int32) (c_rain : Int32) (c_gravel : (Nat → Int32)) (c_kind : (Nat → Int32)) (c_rowOf : (Nat → Int64)) (v9 : Int32) (v10 : Int32) (c_own : (Nat → Int32)) : Option ((Int32 × Int32 × (Nat → Int32)) ⊕ (Int32 × (Nat → Int32))) :=
  if v10 < 0 then
    some (.inr (v9, c_own))
  else
    (wr c_own 8 v2 v10).bind fun x13 =>
    (f_R_fits v1 v2 v3 c_n c_rain c_gravel c_kind x13 c_rowOf).bind fun x14 =>
    if x14 = c_n then
      some (.inl (v10, (v10 + (-1 : Int32)), x13))
    else
      some (.inl (v9, (v10 + (-1 : Int32)), x13))
def f_R_meant_l140 (v1 : Int32) (v2 : Int32) (v3 : Int32) (c_n : Int32) (c_rain : Int32) (c_gravel : (Nat → Int32)) (c_kind : (Nat → Int32)) (c_rowOf : (Nat → Int64)) (v9 : Int32) (v10 : Int32) (c_own : (Nat → Int32)) : Option (Int32 × (Nat → Int32)) :=
  iter (fun s => f_R_meant_b140 v1 v2 v3 c_n c_rain c_gravel c_kind c_rowOf s.1 s.2.1 s.2.2) FUEL (v9, v10, c_own)
def f_R_meant (v1 : Int32) (v2 : Int32) (v3 : Int32) (v4 : Int32) (c_n : Int32) (c_rain : Int32) (c_many : Int32) (c_gravel : (Nat → Int32)) (c_kind : (Nat → Int32)) (c_own : (Nat → Int32)) (c_holding : (Nat → Int32)) (c_rowLength : (Nat → Int32)) (c_rowOf : (Nat → Int64)) (c_refusals : (Nat → Int32)) : Option (Int32 × (Nat → Int32) × (Nat → Int32) × (Nat → Int32)) :=
  (f_R_isShelf v1).bind fun x1 =>
  if x1 = 0 then
    f_R_meant_j33 c_kind c_own c_refusals
  else
    (f_R_isFeet v2 c_many).bind fun x3 =>
    if x3 = 0 then
      f_R_meant_j33 c_kind c_own c_refusals
    else
      (f_R_isColumn v3 c_n).bind fun x4 =>
      if x4 = 0 then
        f_R_meant_j33 c_kind c_own c_refusals
      else
        (f_R_within v4 (0 : Int32) (1 : Int32)).bind fun x5 =>
        if x5 = 0 then
          f_R_meant_j33 c_kind c_own c_refusals
        else
          (f_R_noHeard v1 c_n c_holding c_rowLength).bind fun x6 =>
          if 0 ≤ x6 then
            (rd c_kind 8 v2).bind fun x7 =>
            (rd c_own 8 v2).bind fun x8 =>
            (f_R_meant_l84 v1 v2 v3 c_n c_rain c_gravel c_own c_rowOf (0 : Int32) (0 : Int32) c_kind).bind fun x11 =>
            (wr x11.2 8 v2 x7).bind fun x12 =>
            (f_R_meant_l140 v1 v2 v3 c_n c_rain c_gravel x12 c_rowOf (-1 : Int32) (9 : Int32) c_own).bind fun x15 =>
            (wr x15.2 8 v2 x8).bind fun x16 =>
            if v4 = 0 then
              some (x11.1, x12, x16, c_refusals)
            else
              some (x15.1, x12, x16, c_refusals)
          else
            (f_R_no x6 c_refusals).bind fun x17 =>
            some (x17.1, c_kind, c_own, x17.2)
def f_R_duel_j17 (c_gravel : (Nat → Int32)) (c_refusals : (Nat → Int32)) (c_cost : (Nat → Int32)) (c_may : (Nat → Int32)) (c_rest : (Nat → Int32)) (c_way : (Nat → Int32)) : Option (Int32 × (Nat → Int32) × (Nat → Int32) × (Nat → Int32) × (Nat → Int32) × (Nat → Int32) × (Nat → Int32)) :=
  (f_R_no (-2 : Int32) c_refusals).bind fun x2 =>
  some (x2.1, c_gravel, x2.2, c_cost, c_may, c_rest, c_way)
def f_R_duel_b32 (v1 : Int32) (c_n : Int32) (c_rain : Int32) (c_kind : (Nat → Int32)) (c_own : (Nat → Int32)) (v3 : Int32) (v4 : Int32) (v5 : Int32) (c_gravel : (Nat → Int32)) (c_cost : (Nat → Int32)) (c_may : (Nat → Int32)) (c_rest : (Nat → Int32)) (c_way : (Nat → Int32)) : Option ((Int32 × Int32 × Int32 × (Nat → Int32) × (Nat → Int32) × (Nat → Int32) × (Nat → Int32) × (Nat → Int32)) ⊕ (Int32 × Int32 × (Nat → Int32) × (Nat → Int32) × (Nat → Int32) × (Nat → Int32) × (Nat → Int32))) :=
  if (c_n * c_n) ≤ v5 then
    some (.inr (v3, v4, c_gravel, c_cost, c_may, c_rest, c_way))
  else
    (rd c_gravel 36 v5).bind fun x4 =>
    (wr c_gravel 36 v5 (9 : Int32)).bind fun x5 =>
    (f_R_quiet v1 c_n c_rain x5 c_kind c_own c_cost c_may c_rest c_way).bind fun x6 =>
    (wr x5 36 v5 x4).bind fun x7 =>
    if v4 < x6.1 then
      some (.inl (v5, x6.1, (v5 + (1 : Int32)), x7, x6.2.1, x6.2.2.1, x6.2.2.2.1, x6.2.2.2.2))
    else
      some (.inl (v3, v4, (v5 + (1 : Int32)), x7, x6.2.1, x6.2.2.1, x6.2.2.2.1, x6.2.2.2.2))
def f_R_duel_l32 (v1 : Int32) (c_n : Int32) (c_rain : Int32) (c_kind : (Nat → Int32)) (c_own : (Nat → Int32)) (v3 : Int32) (v4 : Int32) (v5 : Int32) (c_gravel : (Nat → Int32)) (c_cost : (Nat → Int32)) (c_may : (Nat → Int32)) (c_rest : (Nat → Int32)) (c_way : (Nat → Int32)) : Option (Int32 × Int32 × (Nat → Int32) × (Nat → Int32) × (Nat → Int32) × (Nat → Int32) × (Nat → Int32)) :=
  iter (fun s => f_R_duel_b32 v1 c_n c_rain c_kind c_own s.1 s.2.1 s.2.2.1 s.2.2.2.1 s.2.2.2.2.1 s.2.2.2.2.2.1 s.2.2.2.2.2.2.1 s.2.2.2.2.2.2.2) FUEL (v3, v4, v5, c_gravel, c_cost, c_may, c_rest, c_way)
def f_R_duel (v1 : Int32) (v2 : Int32) (c_n : Int32) (c_rain : Int32) (c_many : Int32) (c_gravel : (Nat → Int32)) (c_kind : (Nat → Int32)) (c_own : (Nat → Int32)) (c_refusals : (Nat → Int32)) (c_cost : (Nat → Int32)) (c_may : (Nat → Int32)) (c_rest : (Nat → Int32)) (c_way : (Nat → Int32)) : Option (Int32 × (Nat → Int32) × (Nat → Int32) × (Nat → Int32) × (Nat → Int32) × (Nat → Int32) × (Nat → Int32)) :=
  (f_R_isFeet v1 c_many).bind fun x1 =>
  if x1 = 0 then
    f_R_duel_j17 c_gravel c_refusals c_cost c_may c_rest c_way
  else
    (f_R_within v2 (0 : Int32) (1 : Int32)).bind fun x3 =>
    if x3 = 0 then
      f_R_duel_j17 c_gravel c_refusals c_cost c_may c_rest c_way
    else
      (f_R_duel_l32 v1 c_n c_rain c_kind c_own (0 : Int32) (-1 : Int32) (0 : Int32) c_gravel c_cost c_may c_rest c_way).bind fun x8 =>
      if v2 = 0 then
        some (x8.1, x8.2.2.1, c_refusals, x8.2.2.2.1, x8.2.2.2.2.1, x8.2.2.2.2.2.1, x8.2.2.2.2.2.2)
      else
        some (x8.2.1, x8.2.2.1, c_refusals, x8.2.2.2.1, x8.2.2.2.2.1, x8.2.2.2.2.2.1, x8.2.2.2.2.2.2)
def f_R_noWay (v1 : Int32) (v2 : Int32) (c_holding : (Nat → Int32)) (c_rowLength : (Nat → Int32)) : Option Int32 :=
  (f_R_isRow v1 c_holding).bind fun x1 =>
  if x1 = 0 then
    (f_R_noRow v1 c_holding).bind fun x3 =>
    some x3
  else
    (rd c_rowLength 8 v1).bind fun x2 =>
    if v2 ≤ x2 then
      some (0 : Int32)
    else
      some (-2 : Int32)
def f_R_wrong_b2 (v1 : Int32) (v2 : Int32) (c_n : Int32) (c_rowOf : (Nat → Int64)) (v3 : Int32) : Option (Int32 ⊕ (Int32 ⊕ (Int32 ⊕ Unit))) :=
  if v2 ≤ v3 then
    some (.inr (.inr (.inr ())))
  else
    (f_R_toldAt v1 v3 c_rowOf).bind fun x1 =>
    if v3 = c_n then
      some (.inr (.inl v3))
    else
      if (lg_cmp x1 (0 : Int64)) < 0 then
        some (.inr (.inl v3))
      else
        if 0 ≤ (lg_cmp x1 (Int32.toInt64 (c_n * c_n))) then
          some (.inr (.inl v3))
        else
          (dvL x1 (Int32.toInt64 c_n)).bind fun x2 =>
          if (lg_cmp x2 (Int32.toInt64 v3)) = 0 then
            if v3 ≤ 0 then
              some (.inl (v3 + (1 : Int32)))
            else
              (f_R_toldAt v1 (v3 - (1 : Int32)) c_rowOf).bind fun x3 =>
              (f_R_isNext (Int64.toInt32 x3) (Int64.toInt32 x1) c_n).bind fun x4 =>
              if x4 = 0 then
                some (.inr (.inr (.inl v3)))
              else
                some (.inl (v3 + (1 : Int32)))
          else
            some (.inr (.inl v3))
def f_R_wrong_l2 (v1 : Int32) (v2 : Int32) (c_n : Int32) (c_rowOf : (Nat → Int64)) (v3 : Int32) : Option (Int32 ⊕ (Int32 ⊕ Unit)) :=
  iter (fun s => f_R_wrong_b2 v1 v2 c_n c_rowOf s) FUEL v3
def f_R_wrong (v1 : Int32) (v2 : Int32) (c_n : Int32) (c_rowOf : (Nat → Int64)) : Option Int32 :=
  (f_R_wrong_l2 v1 v2 c_n c_rowOf (0 : Int32)).bind fun x5 =>
  Sum.elim (fun x6 =>
    some x6)
  (fun x7 =>
    Sum.elim (fun x8 =>
      some x8)
    (fun x9 =>
      if c_n ≤ v2 then
        some (-1 : Int32)
      else
        some v2) x7) x5
def f_R_judge_j17 (c_refusals : (Nat → Int32)) : Option (Int32 × (Nat → Int32)) :=
  (f_R_no (-2 : Int32) c_refusals).bind fun x2 =>
  some (x2.1, x2.2)
def f_R_judge (v1 : Int32) (v2 : Int32) (c_n : Int32) (c_holding : (Nat → Int32)) (c_rowLength : (Nat → Int32)) (c_rowOf : (Nat → Int64)) (c_refusals : (Nat → Int32)) : Option (Int32 × (Nat → Int32)) :=
  (f_R_isShelf v1).bind fun x1 =>
  if x1 = 0 then
    f_R_judge_j17 c_refusals
  else
    (f_R_within v2 (0 : Int32) (40 : Int32)).bind fun x3 =>
    if x3 = 0 then
      f_R_judge_j17 c_refusals
    else
      (f_R_noWay v1 v2 c_holding c_rowLength).bind fun x4 =>
      if 0 ≤ x4 then
        (f_R_wrong v1 v2 c_n c_rowOf).bind fun x5 =>
        some (x5, c_refusals)
      else
        (f_R_no x4 c_refusals).bind fun x6 =>
        some (x6.1, x6.2)
def f_R_loudOf_b14 (v1 : Int32) (v2 : Int32) (c_n : Int32) (c_rain : Int32) (c_ear : Int32) (c_gravel : (Nat → Int32)) (c_kind : (Nat → Int32)) (c_own : (Nat → Int32)) (c_rowOf : (Nat → Int64)) (v4 : Int32) (v5 : Int32) (v6 : Int32) : Option ((Int32 × Int32 × Int32) ⊕ (Int32 × Int32)) :=
  if v6 < 0 then
    some (.inr (v4, v5))
  else
    (f_R_toldAt v1 v6 c_rowOf).bind fun x1 =>
    (f_R_stepOn v2 (Int64.toInt32 x1) c_n c_rain c_gravel c_kind c_own).bind fun x2 =>
    if x2 < c_ear then
      some (.inl ((v4 + x2), v5, (v6 + (-1 : Int32))))
    else
      some (.inl ((v4 + x2), v6, (v6 + (-1 : Int32))))
def f_R_loudOf_l14 (v1 : Int32) (v2 : Int32) (c_n : Int32) (c_rain : Int32) (c_ear : Int32) (c_gravel : (Nat → Int32)) (c_kind : (Nat → Int32)) (c_own : (Nat → Int32)) (c_rowOf : (Nat → Int64)) (v4 : Int32) (v5 : Int32) (v6 : Int32) : Option (Int32 × Int32) :=
  iter (fun s => f_R_loudOf_b14 v1 v2 c_n c_rain c_ear c_gravel c_kind c_own c_rowOf s.1 s.2.1 s.2.2) FUEL (v4, v5, v6)
def f_R_loudOf (v1 : Int32) (v2 : Int32) (v3 : Int32) (c_n : Int32) (c_rain : Int32) (c_ear : Int32) (c_gravel : (Nat → Int32)) (c_kind : (Nat → Int32)) (c_own : (Nat → Int32)) (c_rowOf : (Nat → Int64)) : Option Int32 :=
  (f_R_loudOf_l14 v1 v2 c_n c_rain c_ear c_gravel c_kind c_own c_rowOf (0 : Int32) (-1 : Int32) (c_n - (1 : Int32))).bind fun x3 =>
  if v3 = 0 then
    some x3.1
  else
    some x3.2
def f_R_loud_j35 (c_refusals : (Nat → Int32)) : Option (Int32 × (Nat → Int32)) :=
  (f_R_no (-2 : Int32) c_refusals).bind fun x2 =>
  some (x2.1, x2.2)
def f_R_loud (v1 : Int32) (v2 : Int32) (v3 : Int32) (v4 : Int32) (c_n : Int32) (c_rain : Int32) (c_ear : Int32) (c_many : Int32) (c_gravel : (Nat → Int32)) (c_kind : (Nat → Int32)) (c_own : (Nat → Int32)) (c_holding : (Nat → Int32)) (c_rowLength : (Nat → Int32)) (c_rowOf : (Nat → Int64)) (c_refusals : (Nat → Int32)) : Option (Int32 × (Nat → Int32)) :=
  (f_R_isShelf v1).bind fun x1 =>
  if x1 = 0 then
    f_R_loud_j35 c_refusals
  else
    (f_R_within v2 (0 : Int32) (40 : Int32)).bind fun x3 =>
    if x3 = 0 then
      f_R_loud_j35 c_refusals
    else
      (f_R_isFeet v3 c_many).bind fun x4 =>
      if x4 = 0 then
        f_R_loud_j35 c_refusals
      else
        (f_R_within v4 (0 : Int32) (1 : Int32)).bind fun x5 =>
        if x5 = 0 then
          f_R_loud_j35 c_refusals
        else
          (f_R_noWay v1 v2 c_holding c_rowLength).bind fun x6 =>
          if 0 ≤ x6 then
            (f_R_wrong v1 v2 c_n c_rowOf).bind fun x7 =>
            if x7 = (-1 : Int32) then
              (f_R_loudOf v1 v3 v4 c_n c_rain c_ear c_gravel c_kind c_own c_rowOf).bind fun x9 =>
              some (x9, c_refusals)
            else
              (f_R_no (-5 : Int32) c_refusals).bind fun x8 =>
              some (x8.1, x8.2)
          else
            (f_R_no x6 c_refusals).bind fun x10 =>
            some (x10.1, x10.2)
def f_R_done_j25 (c_gravel : (Nat → Int32)) (c_refusals : (Nat → Int32)) : Option (Int32 × (Nat → Int32) × (Nat → Int32)) :=
  (f_R_no (-2 : Int32) c_refusals).bind fun x2 =>
  some (x2.1, c_gravel, x2.2)
def f_R_done_b81 (v1 : Int32) (c_n : Int32) (c_rowOf : (Nat → Int64)) (v6 : Int32) (c_gravel : (Nat → Int32)) : Option ((Int32 × (Nat → Int32)) ⊕ (Nat → Int32)) :=
  if c_n ≤ v6 then
    some (.inr c_gravel)
  else
    (f_R_toldAt v1 v6 c_rowOf).bind fun x8 =>
    (rd c_gravel 36 (Int64.toInt32 x8)).bind fun x9 =>
    (wr c_gravel 36 (Int64.toInt32 x8) (imax (0 : Int32) (x9 - (1 : Int32)))).bind fun x10 =>
    some (.inl ((v6 + (1 : Int32)), x10))
def f_R_done_l81 (v1 : Int32) (c_n : Int32) (c_rowOf : (Nat → Int64)) (v6 : Int32) (c_gravel : (Nat → Int32)) : Option (Nat → Int32) :=
  iter (fun s => f_R_done_b81 v1 c_n c_rowOf s.1 s.2) FUEL (v6, c_gravel)
def f_R_done (v1 : Int32) (v2 : Int32) (v3 : Int32) (c_n : Int32) (c_rain : Int32) (c_ear : Int32) (c_many : Int32) (c_gravel : (Nat → Int32)) (c_kind : (Nat → Int32)) (c_own : (Nat → Int32)) (c_holding : (Nat → Int32)) (c_rowLength : (Nat → Int32)) (c_rowOf : (Nat → Int64)) (c_refusals : (Nat → Int32)) : Option (Int32 × (Nat → Int32) × (Nat → Int32)) :=
  (f_R_isShelf v1).bind fun x1 =>
  if x1 = 0 then
    f_R_done_j25 c_gravel c_refusals
  else
    (f_R_within v2 (0 : Int32) (40 : Int32)).bind fun x3 =>
    if x3 = 0 then
      f_R_done_j25 c_gravel c_refusals
    else
      (f_R_isFeet v3 c_many).bind fun x4 =>
      if x4 = 0 then
        f_R_done_j25 c_gravel c_refusals
      else
        (f_R_noWay v1 v2 c_holding c_rowLength).bind fun x5 =>
        if 0 ≤ x5 then
          (f_R_wrong v1 v2 c_n c_rowOf).bind fun x6 =>
          if x6 = (-1 : Int32) then
            (f_R_loudOf v1 v3 (0 : Int32) c_n c_rain c_ear c_gravel c_kind c_own c_rowOf).bind fun x7 =>
            (f_R_done_l81 v1 c_n c_rowOf (0 : Int32) c_gravel).bind fun x11 =>
            some (x7, x11, c_refusals)
          else
            (f_R_no (-5 : Int32) c_refusals).bind fun x12 =>
            some (x12.1, c_gravel, x12.2)
        else
          (f_R_no x5 c_refusals).bind fun x13 =>
          some (x13.1, c_gravel, x13.2)
def f_R_allGravel_b4 (c_n : Int32) (c_gravel : (Nat → Int32)) (v1 : Int32) (v2 : Int32) : Option ((Int32 × Int32) ⊕ Int32) :=
  if (c_n * c_n) ≤ v2 then
    some (.inr v1)
  else
    (rd c_gravel 36 v2).bind fun x1 =>
    some (.inl ((v1 + x1), (v2 + (1 : Int32))))
def f_R_allGravel_l4 (c_n : Int32) (c_gravel : (Nat → Int32)) (v1 : Int32) (v2 : Int32) : Option Int32 :=
  iter (fun s => f_R_allGravel_b4 c_n c_gravel s.1 s.2) FUEL (v1, v2)
def f_R_allGravel (c_n : Int32) (c_gravel : (Nat → Int32)) : Option Int32 :=
  (f_R_allGravel_l4 c_n c_gravel (0 : Int32) (0 : Int32)).bind fun x2 =>
  some x2
def f_R_rake (c_n : Int32) (c_gravel : (Nat → Int32)) : Option (Int32 × (Nat → Int32)) :=
  (f_R_rakes c_n c_gravel).bind fun x1 =>
  (f_R_allGravel c_n x1).bind fun x2 =>
  some (x2, x1)
def f_R_sweep_b19 (v1 : Int32) (c_n : Int32) (v2 : Int32) (v3 : Int32) (c_gravel : (Nat → Int32)) : Option ((Int32 × Int32 × (Nat → Int32)) ⊕ (Int32 × (Nat → Int32))) :=
  if c_n ≤ v3 then
    some (.inr (v2, c_gravel))
  else
    (rd c_gravel 36 ((v3 * c_n) + v1)).bind fun x2 =>
    (wr c_gravel 36 ((v3 * c_n) + v1) (0 : Int32)).bind fun x3 =>
    some (.inl ((v2 + x2), (v3 + (1 : Int32)), x3))
def f_R_sweep_l19 (v1 : Int32) (c_n : Int32) (v2 : Int32) (v3 : Int32) (c_gravel : (Nat → Int32)) : Option (Int32 × (Nat → Int32)) :=
  iter (fun s => f_R_sweep_b19 v1 c_n s.1 s.2.1 s.2.2) FUEL (v2, v3, c_gravel)
def f_R_sweep (v1 : Int32) (c_n : Int32) (c_gravel : (Nat → Int32)) (c_refusals : (Nat → Int32)) : Option (Int32 × (Nat → Int32) × (Nat → Int32)) :=
  (f_R_isColumn v1 c_n).bind fun x1 =>
  if x1 = 0 then
    (f_R_no (-2 : Int32) c_refusals).bind fun x5 =>
    some (x5.1, c_gravel, x5.2)
  else
    (f_R_sweep_l19 v1 c_n (0 : Int32) (0 : Int32) c_gravel).bind fun x4 =>
    some (x4.1, x4.2, c_refusals)
def f_R_draw (v1 : Int32) (c_seed : Int32) : Option (Int32 × Int32) :=
  (rm (ushr ((c_seed * (1103515245 : Int32)) + (12345 : Int32)) (16 : Int32)) v1).bind fun x1 =>
  some (x1, ((c_seed * (1103515245 : Int32)) + (12345 : Int32)))
def f_R_arrivals_b53 (c_likely : (Nat → Int32)) (v4 : Int32) (v5 : Int32) : Option ((Int32 × Int32) ⊕ Int32) :=
  (rd c_likely 8 v5).bind fun x4 =>
  if v4 < x4 then
    some (.inr v5)
  else
    (rd c_likely 8 v5).bind fun x5 =>
    some (.inl ((v4 - x5), (v5 + (1 : Int32))))
def f_R_arrivals_l53 (c_likely : (Nat → Int32)) (v4 : Int32) (v5 : Int32) : Option Int32 :=
  iter (fun s => f_R_arrivals_b53 c_likely s.1 s.2) FUEL (v4, v5)
def f_R_arrivals_b99 (v5 : Int32) (v6 : Int32) (c_n : Int32) (c_rain : Int32) (c_many : Int32) (c_gravel : (Nat → Int32)) (c_kind : (Nat → Int32)) (c_own : (Nat → Int32)) (v7 : Int32) (v8 : Int32) : Option ((Int32 × Int32) ⊕ Int32) :=
  if c_many ≤ v8 then
    some (.inr v7)
  else
    (f_R_gapOf v5 v8 v6 c_n c_rain c_gravel c_kind c_own).bind fun x8 =>
    if x8 = (-1 : Int32) then
      some (.inl ((v7 ||| ((1 : Int32) <<< (v8 &&& 31))), (v8 + (1 : Int32))))
    else
      some (.inl (v7, (v8 + (1 : Int32))))
def f_R_arrivals_l99 (v5 : Int32) (v6 : Int32) (c_n : Int32) (c_rain : Int32) (c_many : Int32) (c_gravel : (Nat → Int32)) (c_kind : (Nat → Int32)) (c_own : (Nat → Int32)) (v7 : Int32) (v8 : Int32) : Option Int32 :=
  iter (fun s => f_R_arrivals_b99 v5 v6 c_n c_rain c_many c_gravel c_kind c_own s.1 s.2) FUEL (v7, v8)
def f_R_arrivals_b35 (v1 : Int32) (c_n : Int32) (c_rain : Int32) (c_many : Int32) (c_gravel : (Nat → Int32)) (c_kind : (Nat → Int32)) (c_own : (Nat → Int32)) (c_likely : (Nat → Int32)) (v2 : Int32) (v3 : Int32) (c_seed : Int32) : Option ((Int32 × Int32 × Int32) ⊕ (Int32 × Int32)) :=
  if v1 ≤ v3 then
    some (.inr (v2, c_seed))
  else
    (f_R_allLikely c_many c_likely).bind fun x2 =>
    (f_R_draw x2 c_seed).bind fun x3 =>
    (f_R_arrivals_l53 c_likely x3.1 (0 : Int32)).bind fun x6 =>
    (f_R_draw c_n x3.2).bind fun x7 =>
    (f_R_arrivals_l99 x6 x7.1 c_n c_rain c_many c_gravel c_kind c_own (0 : Int32) (0 : Int32)).bind fun x9 =>
    (f_R_likeliest x9 c_many c_likely).bind fun x10 =>
    if x10 = x6 then
      some (.inl ((v2 + (1 : Int32)), (v3 + (1 : Int32)), x7.2))
    else
      some (.inl (v2, (v3 + (1 : Int32)), x7.2))
def f_R_arrivals_l35 (v1 : Int32) (c_n : Int32) (c_rain : Int32) (c_many : Int32) (c_gravel : (Nat → Int32)) (c_kind : (Nat → Int32)) (c_own : (Nat → Int32)) (c_likely : (Nat → Int32)) (v2 : Int32) (v3 : Int32) (c_seed : Int32) : Option (Int32 × Int32) :=
  iter (fun s => f_R_arrivals_b35 v1 c_n c_rain c_many c_gravel c_kind c_own c_likely s.1 s.2.1 s.2.2) FUEL (v2, v3, c_seed)
def f_R_arrivals (v1 : Int32) (c_n : Int32) (c_rain : Int32) (c_many : Int32) (c_seed : Int32) (c_gravel : (Nat → Int32)) (c_kind : (Nat → Int32)) (c_own : (Nat → Int32)) (c_likely : (Nat → Int32)) (c_refusals : (Nat → Int32)) : Option (Int32 × Int32 × (Nat → Int32)) :=
  (f_R_within v1 (1 : Int32) (60 : Int32)).bind fun x1 =>
  if x1 = 0 then
    (f_R_no (-2 : Int32) c_refusals).bind fun x13 =>
    some (x13.1, c_seed, x13.2)
  else
    if c_many = 0 then
      (f_R_no (-5 : Int32) c_refusals).bind fun x12 =>
      some (x12.1, c_seed, x12.2)
    else
      (f_R_arrivals_l35 v1 c_n c_rain c_many c_gravel c_kind c_own c_likely (0 : Int32) (0 : Int32) c_seed).bind fun x11 =>
      some (x11.1, x11.2, c_refusals)
def f_R_seed (v1 : Int32) (c_seed : Int32) : Option (Int32 × Int32) :=
  some (c_seed, v1)
def f_R_image (c_n : Int32) (c_rain : Int32) (c_ear : Int32) (c_many : Int32) (c_seed : Int32) (c_imaged : Int32) (c_gravel : (Nat → Int32)) (c_kind : (Nat → Int32)) (c_own : (Nat → Int32)) (c_likely : (Nat → Int32)) (c_old : (Nat → Int32)) : Option (Int32 × Int32 × (Nat → Int32)) :=
  (f_R_keep c_n c_rain c_ear c_many c_seed c_gravel c_kind c_own c_likely c_old).bind fun x1 =>
  some ((1 : Int32), (1 : Int32), x1)
def f_R_back_b24 (c_many : Int32) (v1 : Int32) (c_holding : (Nat → Int32)) : Option ((Int32 × (Nat → Int32)) ⊕ (Nat → Int32)) :=
  if (8 : Int32) ≤ v1 then
    some (.inr c_holding)
  else
    (rd c_holding 8 v1).bind fun x2 =>
    if x2 < ((10 : Int32) + c_many) then
      some (.inl ((v1 + (1 : Int32)), c_holding))
    else
      (wr c_holding 8 v1 (-1 : Int32)).bind fun x3 =>
      some (.inl ((v1 + (1 : Int32)), x3))
def f_R_back_l24 (c_many : Int32) (v1 : Int32) (c_holding : (Nat → Int32)) : Option (Nat → Int32) :=
  iter (fun s => f_R_back_b24 c_many s.1 s.2) FUEL (v1, c_holding)
def f_R_back (c_n : Int32) (c_rain : Int32) (c_ear : Int32) (c_many : Int32) (c_seed : Int32) (c_imaged : Int32) (c_gravel : (Nat → Int32)) (c_kind : (Nat → Int32)) (c_own : (Nat → Int32)) (c_likely : (Nat → Int32)) (c_holding : (Nat → Int32)) (c_refusals : (Nat → Int32)) (c_old : (Nat → Int32)) : Option (Int32 × Int32 × Int32 × Int32 × Int32 × Int32 × (Nat → Int32) × (Nat → Int32) × (Nat → Int32) × (Nat → Int32) × (Nat → Int32) × (Nat → Int32)) :=
  if c_imaged = 0 then
    (f_R_no (-5 : Int32) c_refusals).bind fun x5 =>
    some (x5.1, c_n, c_rain, c_ear, c_many, c_seed, c_gravel, c_kind, c_own, c_likely, c_holding, x5.2)
  else
    (f_R_again c_n c_rain c_ear c_many c_seed c_gravel c_kind c_own c_likely c_old).bind fun x1 =>
    (f_R_back_l24 x1.2.2.2.1 (0 : Int32) c_holding).bind fun x4 =>
    some ((1 : Int32), x1.1, x1.2.1, x1.2.2.1, x1.2.2.2.1, x1.2.2.2.2.1, x1.2.2.2.2.2.1, x1.2.2.2.2.2.2.1, x1.2.2.2.2.2.2.2.1, x1.2.2.2.2.2.2.2.2, x4, c_refusals)
def f_R_status_b94 (c_holding : (Nat → Int32)) (v2 : Int32) (v3 : Int32) : Option ((Int32 × Int32) ⊕ Int32) :=
  if (8 : Int32) ≤ v3 then
    some (.inr v2)
  else
    (rd c_holding 8 v3).bind fun x3 =>
    if x3 = (-1 : Int32) then
      some (.inl (v2, (v3 + (1 : Int32))))
    else
      some (.inl ((v2 + (1 : Int32)), (v3 + (1 : Int32))))
def f_R_status_l94 (c_holding : (Nat → Int32)) (v2 : Int32) (v3 : Int32) : Option Int32 :=
  iter (fun s => f_R_status_b94 c_holding s.1 s.2) FUEL (v2, v3)
def f_R_status (v1 : Int32) (c_n : Int32) (c_rain : Int32) (c_ear : Int32) (c_many : Int32) (c_seed : Int32) (c_taped : Int32) (c_gravel : (Nat → Int32)) (c_likely : (Nat → Int32)) (c_holding : (Nat → Int32)) (c_refusals : (Nat → Int32)) : Option Int32 :=
  if v1 = (0 : Int32) then
    some c_many
  else
  if v1 = (1 : Int32) then
    some c_n
  else
  if v1 = (2 : Int32) then
    some c_rain
  else
  if v1 = (3 : Int32) then
    some c_ear
  else
  if v1 = (4 : Int32) then
    (f_R_allGravel c_n c_gravel).bind fun x1 =>
    some x1
  else
  if v1 = (5 : Int32) then
    (f_R_allLikely c_many c_likely).bind fun x2 =>
    some x2
  else
  if v1 = (6 : Int32) then
    some c_taped
  else
  if v1 = (7 : Int32) then
    some c_seed
  else
  if v1 = (8 : Int32) then
    (f_R_status_l94 c_holding (0 : Int32) (0 : Int32)).bind fun x4 =>
    some x4
  else
  (f_R_within v1 (12 : Int32) (16 : Int32)).bind fun x5 =>
  if x5 = 0 then
    some (-1 : Int32)
  else
    (rd c_refusals 7 (v1 - (10 : Int32))).bind fun x6 =>
    some x6
