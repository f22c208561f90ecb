def f_M_isShelf (v0 : Int32) : Option Int32 :=
  if v0 < 0 then
    some (0 : Int32)
  else
    if (8 : Int32) ≤ v0 then
      some (0 : Int32)
    else
      some (1 : Int32)
def f_M_isWithin (v0 : Int32) (v1 : Int32) (v2 : Int32) : Option Int32 :=
  if v0 < v1 then
    some (0 : Int32)
  else
    if v2 < v0 then
      some (0 : Int32)
    else
      some (1 : Int32)
def f_M_refuse (v1 : Int32) (c_refusals : (Nat → Int32)) : Option (Int32 × (Nat → Int32)) :=
  (f_M_isWithin ((-2 : Int32) - v1) (0 : Int32) (4 : Int32)).bind fun x1 =>
  if x1 = 0 then
    some (v1, c_refusals)
  else
    (rd c_refusals 5 ((-2 : Int32) - v1)).bind fun x2 =>
    (wr c_refusals 5 ((-2 : Int32) - v1) (x2 + (1 : Int32))).bind fun x3 =>
    some (v1, x3)
def f_S_layRow_b35 (v1 : Int32) (v3 : Int32) (v4 : Int32) (c_elements : (Nat → Int64)) : Option ((Int32 × (Nat → Int64)) ⊕ (Nat → Int64)) :=
  if v3 ≤ v4 then
    some (.inr c_elements)
  else
    (wrL c_elements 320 ((v1 * (40 : Int32)) + v4) (0 : Int64)).bind fun x5 =>
    some (.inl ((v4 + (1 : Int32)), x5))
def f_S_layRow_l35 (v1 : Int32) (v3 : Int32) (v4 : Int32) (c_elements : (Nat → Int64)) : Option (Nat → Int64) :=
  iter (fun s => f_S_layRow_b35 v1 v3 s.1 s.2) FUEL (v4, c_elements)
def f_S_layRow (v1 : Int32) (v2 : Int32) (v3 : Int32) (c_marks : (Nat → Int32)) (c_sizes : (Nat → Int32)) (c_elements : (Nat → Int64)) : Option ((Nat → Int32) × (Nat → Int32) × (Nat → Int64)) :=
  (f_M_isShelf v1).bind fun x1 =>
  if x1 = 0 then
    some (c_marks, c_sizes, c_elements)
  else
    (f_M_isWithin v3 (0 : Int32) (40 : Int32)).bind fun x2 =>
    if x2 = 0 then
      some (c_marks, c_sizes, c_elements)
    else
      (wr c_marks 8 v1 v2).bind fun x3 =>
      (wr c_sizes 8 v1 v3).bind fun x4 =>
      (f_S_layRow_l35 v1 v3 (0 : Int32) c_elements).bind fun x6 =>
      some (x3, x4, x6)
def f_M_row_j26 (c_shelves_marks : (Nat → Int32)) (c_shelves_sizes : (Nat → Int32)) (c_shelves_elements : (Nat → Int64)) (c_refusals : (Nat → Int32)) : Option (Int32 × (Nat → Int32) × (Nat → Int32) × (Nat → Int64) × (Nat → Int32)) :=
  (f_M_refuse (-2 : Int32) c_refusals).bind fun x2 =>
  some (x2.1, c_shelves_marks, c_shelves_sizes, c_shelves_elements, x2.2)
def f_M_row (v1 : Int32) (v2 : Int32) (v3 : Int32) (c_shelves_marks : (Nat → Int32)) (c_shelves_sizes : (Nat → Int32)) (c_shelves_elements : (Nat → Int64)) (c_refusals : (Nat → Int32)) : Option (Int32 × (Nat → Int32) × (Nat → Int32) × (Nat → Int64) × (Nat → Int32)) :=
  (f_M_isShelf v1).bind fun x1 =>
  if x1 = 0 then
    f_M_row_j26 c_shelves_marks c_shelves_sizes c_shelves_elements c_refusals
  else
    (f_M_isWithin v2 (0 : Int32) (4 : Int32)).bind fun x3 =>
    if x3 = 0 then
      f_M_row_j26 c_shelves_marks c_shelves_sizes c_shelves_elements c_refusals
    else
      (f_M_isWithin v3 (0 : Int32) (40 : Int32)).bind fun x4 =>
      if x4 = 0 then
        f_M_row_j26 c_shelves_marks c_shelves_sizes c_shelves_elements c_refusals
      else
        (f_S_layRow v1 v2 v3 c_shelves_marks c_shelves_sizes c_shelves_elements).bind fun x5 =>
        some ((1 : Int32), x5.1, x5.2.1, x5.2.2, c_refusals)
def f_S_heldBy (v1 : Int32) (c_marks : (Nat → Int32)) : Option Int32 :=
  (f_M_isShelf v1).bind fun x1 =>
  if x1 = 0 then
    some (-1 : Int32)
  else
    (rd c_marks 8 v1).bind fun x2 =>
    some x2
def f_S_whyNoRow (v1 : Int32) (c_marks : (Nat → Int32)) : Option Int32 :=
  (f_S_heldBy v1 c_marks).bind fun x1 =>
  if x1 = (-1 : Int32) then
    some (-4 : Int32)
  else
    if (10 : Int32) ≤ x1 then
      some (-3 : Int32)
    else
      some (0 : Int32)
def f_S_sizeOf (v1 : Int32) (c_sizes : (Nat → Int32)) : Option Int32 :=
  (f_M_isShelf v1).bind fun x1 =>
  if x1 = 0 then
    some (0 : Int32)
  else
    (rd c_sizes 8 v1).bind fun x2 =>
    some x2
def f_S_lowest (v0 : Int32) (v1 : Int64) : Option Int64 :=
  if v0 = (0 : Int32) then
    some (Int32.toInt64 (i2b (Int64.toInt32 v1)))
  else
  if v0 = (1 : Int32) then
    some (Int32.toInt64 (i2s (Int64.toInt32 v1)))
  else
  if v0 = (2 : Int32) then
    some (Int32.toInt64 (Int64.toInt32 v1))
  else
  if v0 = (3 : Int32) then
    some v1
  else
  if (lg_cmp v1 (0 : Int64)) = 0 then
    some (0 : Int64)
  else
    some (1 : Int64)
def f_S_put (v1 : Int32) (v2 : Int32) (v3 : Int64) (c_marks : (Nat → Int32)) (c_sizes : (Nat → Int32)) (c_elements : (Nat → Int64)) : Option (Nat → Int64) :=
  (f_S_sizeOf v1 c_sizes).bind fun x1 =>
  (f_M_isWithin v2 (0 : Int32) (x1 - (1 : Int32))).bind fun x2 =>
  if x2 = 0 then
    some c_elements
  else
    (f_S_heldBy v1 c_marks).bind fun x3 =>
    (f_S_lowest x3 v3).bind fun x4 =>
    (wrL c_elements 320 ((v1 * (40 : Int32)) + v2) x4).bind fun x5 =>
    some x5
def f_M_set (v1 : Int32) (v2 : Int32) (v3 : Int64) (c_shelves_marks : (Nat → Int32)) (c_shelves_sizes : (Nat → Int32)) (c_shelves_elements : (Nat → Int64)) (c_refusals : (Nat → Int32)) : Option (Int32 × (Nat → Int64) × (Nat → Int32)) :=
  (f_M_isShelf v1).bind fun x1 =>
  if x1 = 0 then
    (f_M_refuse (-2 : Int32) c_refusals).bind fun x8 =>
    some (x8.1, c_shelves_elements, x8.2)
  else
    (f_S_whyNoRow v1 c_shelves_marks).bind fun x2 =>
    if x2 = 0 then
      (f_S_sizeOf v1 c_shelves_sizes).bind fun x3 =>
      (f_M_isWithin v2 (0 : Int32) (x3 - (1 : Int32))).bind fun x4 =>
      if x4 = 0 then
        (f_M_refuse (-2 : Int32) c_refusals).bind fun x6 =>
        some (x6.1, c_shelves_elements, x6.2)
      else
        (f_S_put v1 v2 v3 c_shelves_marks c_shelves_sizes c_shelves_elements).bind fun x5 =>
        some ((1 : Int32), x5, c_refusals)
    else
      (f_M_refuse x2 c_refusals).bind fun x7 =>
      some (x7.1, c_shelves_elements, x7.2)
def f_S_whyNoCopy (v1 : Int32) (v2 : Int32) (c_marks : (Nat → Int32)) : Option Int32 :=
  (f_S_whyNoRow v1 c_marks).bind fun x1 =>
  (f_S_whyNoRow v2 c_marks).bind fun x2 =>
  if x1 = (-3 : Int32) then
    some (-3 : Int32)
  else
    if x2 = (-3 : Int32) then
      some (-3 : Int32)
    else
      if x1 = (-4 : Int32) then
        some (-4 : Int32)
      else
        if x2 = (-4 : Int32) then
          some (-4 : Int32)
        else
          (f_S_heldBy v1 c_marks).bind fun x3 =>
          (f_S_heldBy v2 c_marks).bind fun x4 =>
          if x3 = x4 then
            some (0 : Int32)
          else
            some (-3 : Int32)
def f_M_isPart (v0 : Int32) (v1 : Int32) (v2 : Int32) : Option Int32 :=
  if v1 < 0 then
    some (0 : Int32)
  else
    if v0 < 0 then
      some (0 : Int32)
    else
      if v2 < v0 then
        some (0 : Int32)
      else
        if (v2 - v0) < v1 then
          some (0 : Int32)
        else
          some (1 : Int32)
def f_S_move (v1 : Int32) (v2 : Int32) (v3 : Int32) (v4 : Int32) (v5 : Int32) (c_sizes : (Nat → Int32)) (c_elements : (Nat → Int64)) : Option (Nat → Int64) :=
  (f_S_sizeOf v1 c_sizes).bind fun x1 =>
  (f_M_isPart v3 v5 x1).bind fun x2 =>
  if x2 = 0 then
    some c_elements
  else
    (f_S_sizeOf v2 c_sizes).bind fun x3 =>
    (f_M_isPart v4 v5 x3).bind fun x4 =>
    if x4 = 0 then
      some c_elements
    else
      (cpyL c_elements c_elements 320 320 ((v1 * (40 : Int32)) + v3) ((v2 * (40 : Int32)) + v4) v5).bind fun x5 =>
      some x5
def f_M_copy_j14 (c_shelves_elements : (Nat → Int64)) (c_refusals : (Nat → Int32)) : Option (Int32 × (Nat → Int64) × (Nat → Int32)) :=
  (f_M_refuse (-2 : Int32) c_refusals).bind fun x2 =>
  some (x2.1, c_shelves_elements, x2.2)
def f_M_copy_j79 (c_shelves_elements : (Nat → Int64)) (c_refusals : (Nat → Int32)) : Option (Int32 × (Nat → Int64) × (Nat → Int32)) :=
  (f_M_refuse (-2 : Int32) c_refusals).bind fun x7 =>
  some (x7.1, c_shelves_elements, x7.2)
def f_M_copy (v1 : Int32) (v2 : Int32) (v3 : Int32) (v4 : Int32) (v5 : Int32) (c_shelves_marks : (Nat → Int32)) (c_shelves_sizes : (Nat → Int32)) (c_shelves_elements : (Nat → Int64)) (c_refusals : (Nat → Int32)) : Option (Int32 × (Nat → Int64) × (Nat → Int32)) :=
  (f_M_isShelf v1).bind fun x1 =>
  if x1 = 0 then
    f_M_copy_j14 c_shelves_elements c_refusals
  else
    (f_M_isShelf v2).bind fun x3 =>
    if x3 = 0 then
      f_M_copy_j14 c_shelves_elements c_refusals
    else
      (f_S_whyNoCopy v1 v2 c_shelves_marks).bind fun x4 =>
      if x4 = 0 then
        (f_S_sizeOf v1 c_shelves_sizes).bind fun x5 =>
        (f_M_isPart v3 v5 x5).bind fun x6 =>
        if x6 = 0 then
          f_M_copy_j79 c_shelves_elements c_refusals
        else
          (f_S_sizeOf v2 c_shelves_sizes).bind fun x8 =>
          (f_M_isPart v4 v5 x8).bind fun x9 =>
          if x9 = 0 then
            f_M_copy_j79 c_shelves_elements c_refusals
          else
            (f_S_move v1 v2 v3 v4 v5 c_shelves_sizes c_shelves_elements).bind fun x10 =>
            some (v5, x10, c_refusals)
      else
        (f_M_refuse x4 c_refusals).bind fun x11 =>
        some (x11.1, c_shelves_elements, x11.2)
def f_S_elementOf (v1 : Int32) (v2 : Int32) (c_sizes : (Nat → Int32)) (c_elements : (Nat → Int64)) : Option Int64 :=
  (f_S_sizeOf v1 c_sizes).bind fun x1 =>
  (f_M_isWithin v2 (0 : Int32) (x1 - (1 : Int32))).bind fun x2 =>
  if x2 = 0 then
    some (0 : Int64)
  else
    (rdL c_elements 320 ((v1 * (40 : Int32)) + v2)).bind fun x3 =>
    some x3
def f_M_element (v1 : Int32) (v2 : Int32) (c_shelves_sizes : (Nat → Int32)) (c_shelves_elements : (Nat → Int64)) : Option Int64 :=
  (f_S_elementOf v1 v2 c_shelves_sizes c_shelves_elements).bind fun x1 =>
  some x1
def f_M_holds (v1 : Int32) (c_shelves_marks : (Nat → Int32)) : Option Int32 :=
  (f_S_heldBy v1 c_shelves_marks).bind fun x1 =>
  some x1
def f_D_count (c_walkers : Int32) : Option Int32 :=
  some (imin c_walkers (8 : Int32))
def f_M_isFeet (v1 : Int32) (c_now_walkers : Int32) : Option Int32 :=
  (f_D_count c_now_walkers).bind fun x1 =>
  (f_M_isWithin v1 (0 : Int32) (x1 - (1 : Int32))).bind fun x2 =>
  (zr x2).bind fun x3 =>
  some x3
def f_S_layFeet_j25 (v1 : Int32) (t1 : Int32) (t2 : Int32) (c_marks : (Nat → Int32)) (c_sizes : (Nat → Int32)) : Option ((Nat → Int32) × (Nat → Int32)) :=
  (wr c_marks 8 t1 t2).bind fun x2 =>
  (wr c_sizes 8 v1 (0 : Int32)).bind fun x3 =>
  some (x2, x3)
def f_S_layFeet (v1 : Int32) (v2 : Int32) (c_marks : (Nat → Int32)) (c_sizes : (Nat → Int32)) : Option ((Nat → Int32) × (Nat → Int32)) :=
  (f_M_isShelf v1).bind fun x1 =>
  if x1 = 0 then
    some (c_marks, c_sizes)
  else
    if v2 = (-1 : Int32) then
      f_S_layFeet_j25 v1 v1 (-1 : Int32) c_marks c_sizes
    else
      f_S_layFeet_j25 v1 v1 ((10 : Int32) + v2) c_marks c_sizes
def f_M_show_j20 (c_shelves_marks : (Nat → Int32)) (c_shelves_sizes : (Nat → Int32)) (c_refusals : (Nat → Int32)) : Option (Int32 × (Nat → Int32) × (Nat → Int32) × (Nat → Int32)) :=
  (f_M_refuse (-2 : Int32) c_refusals).bind fun x2 =>
  some (x2.1, c_shelves_marks, c_shelves_sizes, x2.2)
def f_M_show_j27 (v1 : Int32) (v2 : Int32) (c_shelves_marks : (Nat → Int32)) (c_shelves_sizes : (Nat → Int32)) (c_refusals : (Nat → Int32)) : Option (Int32 × (Nat → Int32) × (Nat → Int32) × (Nat → Int32)) :=
  (f_S_layFeet v1 v2 c_shelves_marks c_shelves_sizes).bind fun x3 =>
  some ((1 : Int32), x3.1, x3.2, c_refusals)
def f_M_show (v1 : Int32) (v2 : Int32) (c_now_walkers : Int32) (c_shelves_marks : (Nat → Int32)) (c_shelves_sizes : (Nat → Int32)) (c_refusals : (Nat → Int32)) : Option (Int32 × (Nat → Int32) × (Nat → Int32) × (Nat → Int32)) :=
  (f_M_isShelf v1).bind fun x1 =>
  if x1 = 0 then
    f_M_show_j20 c_shelves_marks c_shelves_sizes c_refusals
  else
    if v2 = (-1 : Int32) then
      f_M_show_j27 v1 v2 c_shelves_marks c_shelves_sizes c_refusals
    else
      (f_M_isFeet v2 c_now_walkers).bind fun x4 =>
      if x4 = 0 then
        f_M_show_j20 c_shelves_marks c_shelves_sizes c_refusals
      else
        f_M_show_j27 v1 v2 c_shelves_marks c_shelves_sizes c_refusals
def f_D_kindOf (v1 : Int32) (c_kinds : (Nat → Int32)) : Option Int32 :=
  (f_M_isWithin v1 (0 : Int32) (7 : Int32)).bind fun x1 =>
  if x1 = 0 then
    some (-1 : Int32)
  else
    (rd c_kinds 8 v1).bind fun x2 =>
    some x2
def f_M_isOfKind_b4 (v1 : Int32) (v2 : Int32) (v3 : Int32) : Option ((Int32 × Int32) ⊕ (Unit ⊕ Unit)) :=
  if (6 : Int32) ≤ v3 then
    some (.inr (.inr ()))
  else
    (f_M_isWithin v2 (0 : Int32) (5 : Int32)).bind fun x1 =>
    if x1 = 0 then
      some (.inr (.inr ()))
    else
      if v2 = v1 then
        some (.inr (.inl ()))
      else
        (rd kAbove 6 v2).bind fun x2 =>
        some (.inl (x2, (v3 + (1 : Int32))))
def f_M_isOfKind_l4 (v1 : Int32) (v2 : Int32) (v3 : Int32) : Option (Unit ⊕ Unit) :=
  iter (fun s => f_M_isOfKind_b4 v1 s.1 s.2) FUEL (v2, v3)
def f_M_isOfKind (v0 : Int32) (v1 : Int32) : Option Int32 :=
  (f_M_isOfKind_l4 v1 v0 (0 : Int32)).bind fun x3 =>
  Sum.elim (fun x4 =>
    some (1 : Int32))
  (fun x5 =>
    some (0 : Int32)) x3
def f_D_chanceOf (v1 : Int32) (c_chances : (Nat → Int32)) : Option Int32 :=
  (f_M_isWithin v1 (0 : Int32) (7 : Int32)).bind fun x1 =>
  if x1 = 0 then
    some (0 : Int32)
  else
    (rd c_chances 8 v1).bind fun x2 =>
    some x2
def f_D_weightOf (v1 : Int32) (c_weights : (Nat → Int32)) : Option Int32 :=
  (f_M_isWithin v1 (0 : Int32) (7 : Int32)).bind fun x1 =>
  if x1 = 0 then
    some (0 : Int32)
  else
    (rd c_weights 8 v1).bind fun x2 =>
    some x2
def f_D_stonesOn (v1 : Int32) (c_stones : (Nat → Int32)) : Option Int32 :=
  if v1 < 0 then
    some (0 : Int32)
  else
    if (36 : Int32) ≤ v1 then
      some (0 : Int32)
    else
      (rd c_stones 36 v1).bind fun x1 =>
      some x1
def f_D_wetOn (v1 : Int32) (v2 : Int32) (c_stones : (Nat → Int32)) : Option Int32 :=
  (f_D_stonesOn v1 c_stones).bind fun x1 =>
  some (imax (0 : Int32) (x1 - v2))
def f_D_stepBy_j18 (v0 : Int32) (v1 : Int32) (v2 : Int32) (t0 : Int32) : Option Int32 :=
  if v0 = (1 : Int32) then
    some ((2 : Int32) * (v2 + v1))
  else
  if v0 = (2 : Int32) then
    some (imax (0 : Int32) ((v2 + v1) - (3 : Int32)))
  else
  if v0 = (3 : Int32) then
    if t0 = 0 then
      some ((2 : Int32) * (v2 + v1))
    else
      some (((2 : Int32) * (v2 + v1)) + (1 : Int32))
  else
  if v0 = (4 : Int32) then
    if (4 : Int32) < v2 then
      some (imax (0 : Int32) ((v2 + v1) - (3 : Int32)))
    else
      some (0 : Int32)
  else
  if v0 = (5 : Int32) then
    if t0 = 0 then
      some (v2 + v1)
    else
      (dv (v2 + v1) (2 : Int32)).bind fun x1 =>
      some x1
  else
  some (v2 + v1)
def f_D_stepBy (v0 : Int32) (v1 : Int32) (v2 : Int32) (v3 : Int32) : Option Int32 :=
  if 0 < v2 then
    if (v3 &&& (1 : Int32)) = (1 : Int32) then
      f_D_stepBy_j18 v0 v1 v2 (1 : Int32)
    else
      f_D_stepBy_j18 v0 v1 v2 (0 : Int32)
  else
    some (0 : Int32)
def f_D_stepUnder (v1 : Int32) (v2 : Int32) (v3 : Int32) (v4 : Int32) (c_stones : (Nat → Int32)) (c_kinds : (Nat → Int32)) (c_weights : (Nat → Int32)) : Option Int32 :=
  (f_D_kindOf v1 c_kinds).bind fun x1 =>
  (f_D_weightOf v1 c_weights).bind fun x2 =>
  (f_D_wetOn v2 v4 c_stones).bind fun x3 =>
  (f_D_stepBy x1 x2 x3 v3).bind fun x4 =>
  some x4
def f_D_stepAs (v1 : Int32) (v2 : Int32) (v3 : Int32) (c_rain : Int32) (c_stones : (Nat → Int32)) (c_kinds : (Nat → Int32)) (c_weights : (Nat → Int32)) : Option Int32 :=
  (f_D_stepUnder v1 v2 v3 c_rain c_stones c_kinds c_weights).bind fun x1 =>
  some x1
def f_M_says_j16 (c_refusals : (Nat → Int32)) : Option (Int32 × (Nat → Int32)) :=
  (f_M_refuse (-2 : Int32) c_refusals).bind fun x2 =>
  some (x2.1, x2.2)
def f_M_says_j75 (c_refusals : (Nat → Int32)) : Option (Int32 × (Nat → Int32)) :=
  (f_M_refuse (-3 : Int32) c_refusals).bind fun x6 =>
  some (x6.1, x6.2)
def f_M_says (v1 : Int32) (v2 : Int32) (c_now_rain : Int32) (c_now_walkers : Int32) (c_now_stones : (Nat → Int32)) (c_now_kinds : (Nat → Int32)) (c_now_weights : (Nat → Int32)) (c_now_chances : (Nat → Int32)) (c_shelves_marks : (Nat → Int32)) (c_refusals : (Nat → Int32)) : Option (Int32 × (Nat → Int32)) :=
  (f_M_isShelf v1).bind fun x1 =>
  if x1 = 0 then
    f_M_says_j16 c_refusals
  else
    (f_M_isWithin v2 (0 : Int32) (5 : Int32)).bind fun x3 =>
    if x3 = 0 then
      f_M_says_j16 c_refusals
    else
      (f_S_heldBy v1 c_shelves_marks).bind fun x4 =>
      if x4 = (-1 : Int32) then
        (f_M_refuse (-4 : Int32) c_refusals).bind fun x11 =>
        some (x11.1, x11.2)
      else
        (f_M_isFeet (x4 - (10 : Int32)) c_now_walkers).bind fun x5 =>
        if x5 = 0 then
          f_M_says_j75 c_refusals
        else
          (f_D_kindOf (x4 - (10 : Int32)) c_now_kinds).bind fun x7 =>
          (f_M_isOfKind x7 v2).bind fun x8 =>
          if x8 = 0 then
            f_M_says_j75 c_refusals
          else
            if v2 = 0 then
              (f_D_chanceOf (x4 - (10 : Int32)) c_now_chances).bind fun x10 =>
              some (x10, c_refusals)
            else
              (f_D_stepAs (x4 - (10 : Int32)) (0 : Int32) (1 : Int32) c_now_rain c_now_stones c_now_kinds c_now_weights).bind fun x9 =>
              some (x9, c_refusals)
def f_D_layOut_b7 (v2 : Int32) (c_stones : (Nat → Int32)) : Option ((Int32 × (Nat → Int32)) ⊕ (Nat → Int32)) :=
  if (36 : Int32) ≤ v2 then
    some (.inr c_stones)
  else
    (wr c_stones 36 v2 (3 : Int32)).bind fun x1 =>
    some (.inl ((v2 + (1 : Int32)), x1))
def f_D_layOut_l7 (v2 : Int32) (c_stones : (Nat → Int32)) : Option (Nat → Int32) :=
  iter (fun s => f_D_layOut_b7 s.1 s.2) FUEL (v2, c_stones)
def f_D_layOut (v1 : Int32) (c_width : Int32) (c_stones : (Nat → Int32)) : Option (Int32 × (Nat → Int32)) :=
  (f_D_layOut_l7 (0 : Int32) c_stones).bind fun x2 =>
  some (v1, x2)
def f_M_side (v1 : Int32) (c_now_width : Int32) (c_now_stones : (Nat → Int32)) (c_refusals : (Nat → Int32)) : Option (Int32 × Int32 × (Nat → Int32) × (Nat → Int32)) :=
  (f_M_isWithin v1 (2 : Int32) (6 : Int32)).bind fun x1 =>
  if x1 = 0 then
    (f_M_refuse (-2 : Int32) c_refusals).bind fun x3 =>
    some (x3.1, c_now_width, c_now_stones, x3.2)
  else
    (f_D_layOut v1 c_now_width c_now_stones).bind fun x2 =>
    some (c_now_width, x2.1, x2.2, c_refusals)
def f_D_cells (c_width : Int32) : Option Int32 :=
  some (imin (c_width * c_width) (36 : Int32))
def f_M_isCell (v1 : Int32) (c_now_width : Int32) : Option Int32 :=
  (f_D_cells c_now_width).bind fun x1 =>
  (f_M_isWithin v1 (0 : Int32) (x1 - (1 : Int32))).bind fun x2 =>
  (zr x2).bind fun x3 =>
  some x3
def f_D_pour (v1 : Int32) (v2 : Int32) (c_stones : (Nat → Int32)) : Option (Nat → Int32) :=
  (f_M_isWithin v1 (0 : Int32) (35 : Int32)).bind fun x1 =>
  if x1 = 0 then
    some c_stones
  else
    (wr c_stones 36 v1 v2).bind fun x2 =>
    some x2
def f_M_gravel_j18 (c_now_stones : (Nat → Int32)) (c_refusals : (Nat → Int32)) : Option (Int32 × (Nat → Int32) × (Nat → Int32)) :=
  (f_M_refuse (-2 : Int32) c_refusals).bind fun x2 =>
  some (x2.1, c_now_stones, x2.2)
def f_M_gravel (v1 : Int32) (v2 : Int32) (c_now_width : Int32) (c_now_stones : (Nat → Int32)) (c_refusals : (Nat → Int32)) : Option (Int32 × (Nat → Int32) × (Nat → Int32)) :=
  (f_M_isCell v1 c_now_width).bind fun x1 =>
  if x1 = 0 then
    f_M_gravel_j18 c_now_stones c_refusals
  else
    (f_M_isWithin v2 (0 : Int32) (9 : Int32)).bind fun x3 =>
    if x3 = 0 then
      f_M_gravel_j18 c_now_stones c_refusals
    else
      (f_D_stonesOn v1 c_now_stones).bind fun x4 =>
      (f_D_pour v1 v2 c_now_stones).bind fun x5 =>
      some (x4, x5, c_refusals)
def f_M_ask_j67 (c_now_rain : Int32) (c_now_ear : Int32) (c_refusals : (Nat → Int32)) : Option (Int32 × Int32 × Int32 × (Nat → Int32)) :=
  (f_M_refuse (-2 : Int32) c_refusals).bind fun x1 =>
  some (x1.1, c_now_rain, c_now_ear, x1.2)
def f_M_ask_j33 (v1 : Int32) (v2 : Int32) (c_now_rain : Int32) (c_now_ear : Int32) (c_refusals : (Nat → Int32)) : Option (Int32 × Int32 × Int32 × (Nat → Int32)) :=
  if v1 = (1 : Int32) then
    (f_M_isWithin v2 (1 : Int32) (99 : Int32)).bind fun x2 =>
    if x2 = 0 then
      f_M_ask_j67 c_now_rain c_now_ear c_refusals
    else
      some (c_now_ear, c_now_rain, v2, c_refusals)
  else
    f_M_ask_j67 c_now_rain c_now_ear c_refusals
def f_M_ask (v1 : Int32) (v2 : Int32) (c_now_rain : Int32) (c_now_ear : Int32) (c_refusals : (Nat → Int32)) : Option (Int32 × Int32 × Int32 × (Nat → Int32)) :=
  if v1 = 0 then
    (f_M_isWithin v2 (0 : Int32) (9 : Int32)).bind fun x3 =>
    if x3 = 0 then
      f_M_ask_j33 v1 v2 c_now_rain c_now_ear c_refusals
    else
      some (c_now_rain, v2, c_now_ear, c_refusals)
  else
    f_M_ask_j33 v1 v2 c_now_rain c_now_ear c_refusals
def f_D_isFull (c_walkers : Int32) : Option Int32 :=
  if c_walkers < (8 : Int32) then
    some (0 : Int32)
  else
    some (1 : Int32)
def f_D_welcome (v1 : Int32) (v2 : Int32) (v3 : Int32) (c_walkers : Int32) (c_kinds : (Nat → Int32)) (c_weights : (Nat → Int32)) (c_chances : (Nat → Int32)) : Option (Int32 × Int32 × (Nat → Int32) × (Nat → Int32) × (Nat → Int32)) :=
  (f_M_isWithin c_walkers (0 : Int32) (7 : Int32)).bind fun x1 =>
  if x1 = 0 then
    some ((-1 : Int32), c_walkers, c_kinds, c_weights, c_chances)
  else
    (wr c_kinds 8 c_walkers v1).bind fun x2 =>
    (wr c_weights 8 c_walkers v2).bind fun x3 =>
    (wr c_chances 8 c_walkers v3).bind fun x4 =>
    some (c_walkers, (c_walkers + (1 : Int32)), x2, x3, x4)
def f_M_feet_j29 (c_now_walkers : Int32) (c_now_kinds : (Nat → Int32)) (c_now_weights : (Nat → Int32)) (c_now_chances : (Nat → Int32)) (c_refusals : (Nat → Int32)) : Option (Int32 × Int32 × (Nat → Int32) × (Nat → Int32) × (Nat → Int32) × (Nat → Int32)) :=
  (f_M_refuse (-2 : Int32) c_refusals).bind fun x2 =>
  some (x2.1, c_now_walkers, c_now_kinds, c_now_weights, c_now_chances, x2.2)
def f_M_feet (v1 : Int32) (v2 : Int32) (v3 : Int32) (c_now_walkers : Int32) (c_now_kinds : (Nat → Int32)) (c_now_weights : (Nat → Int32)) (c_now_chances : (Nat → Int32)) (c_refusals : (Nat → Int32)) : Option (Int32 × Int32 × (Nat → Int32) × (Nat → Int32) × (Nat → Int32) × (Nat → Int32)) :=
  (f_M_isWithin v1 (0 : Int32) (5 : Int32)).bind fun x1 =>
  if x1 = 0 then
    f_M_feet_j29 c_now_walkers c_now_kinds c_now_weights c_now_chances c_refusals
  else
    (f_M_isWithin v2 (0 : Int32) (9 : Int32)).bind fun x3 =>
    if x3 = 0 then
      f_M_feet_j29 c_now_walkers c_now_kinds c_now_weights c_now_chances c_refusals
    else
      (f_M_isWithin v3 (1 : Int32) (99 : Int32)).bind fun x4 =>
      if x4 = 0 then
        f_M_feet_j29 c_now_walkers c_now_kinds c_now_weights c_now_chances c_refusals
      else
        (f_D_isFull c_now_walkers).bind fun x5 =>
        if x5 = 0 then
          (f_D_welcome v1 v2 v3 c_now_walkers c_now_kinds c_now_weights c_now_chances).bind fun x6 =>
          some (x6.1, x6.2.1, x6.2.2.1, x6.2.2.2.1, x6.2.2.2.2, c_refusals)
        else
          (f_M_refuse (-6 : Int32) c_refusals).bind fun x7 =>
          some (x7.1, c_now_walkers, c_now_kinds, c_now_weights, c_now_chances, x7.2)
def f_T_isFull (c_size : Int32) : Option Int32 :=
  if c_size < (250 : Int32) then
    some (0 : Int32)
  else
    some (1 : Int32)
def f_T_append (v1 : Int32) (c_size : Int32) (c_letters : (Nat → Int32)) : Option (Int32 × Int32 × (Nat → Int32)) :=
  (f_M_isWithin c_size (0 : Int32) (249 : Int32)).bind fun x1 =>
  if x1 = 0 then
    some (c_size, c_size, c_letters)
  else
    (wr c_letters 250 c_size v1).bind fun x2 =>
    some ((c_size + (1 : Int32)), (c_size + (1 : Int32)), x2)
def f_M_feed (v1 : Int32) (c_tape_size : Int32) (c_tape_letters : (Nat → Int32)) (c_refusals : (Nat → Int32)) : Option (Int32 × Int32 × (Nat → Int32) × (Nat → Int32)) :=
  (f_M_isWithin v1 (0 : Int32) (255 : Int32)).bind fun x1 =>
  if x1 = 0 then
    (f_M_refuse (-2 : Int32) c_refusals).bind fun x5 =>
    some (x5.1, c_tape_size, c_tape_letters, x5.2)
  else
    (f_T_isFull c_tape_size).bind fun x2 =>
    if x2 = 0 then
      (f_T_append v1 c_tape_size c_tape_letters).bind fun x3 =>
      some (x3.1, x3.2.1, x3.2.2, c_refusals)
    else
      (f_M_refuse (-6 : Int32) c_refusals).bind fun x4 =>
      some (x4.1, c_tape_size, c_tape_letters, x4.2)
def f_T_cut (c_size : Int32) : Option (Int32 × Int32) :=
  some (c_size, (0 : Int32))
def f_M_wipe (c_tape_size : Int32) : Option (Int32 × Int32) :=
  (f_T_cut c_tape_size).bind fun x1 =>
  some (x1.1, x1.2)
def f_D_takeFrom (c_width : Int32) (c_rain : Int32) (c_ear : Int32) (c_walkers : Int32) (c_seed : Int32) (c_stones : (Nat → Int32)) (c_kinds : (Nat → Int32)) (c_weights : (Nat → Int32)) (c_chances : (Nat → Int32)) (c_p1_width : Int32) (c_p1_rain : Int32) (c_p1_ear : Int32) (c_p1_walkers : Int32) (c_p1_seed : Int32) (c_p1_stones : (Nat → Int32)) (c_p1_kinds : (Nat → Int32)) (c_p1_weights : (Nat → Int32)) (c_p1_chances : (Nat → Int32)) : Option (Int32 × Int32 × Int32 × Int32 × Int32 × (Nat → Int32) × (Nat → Int32) × (Nat → Int32) × (Nat → Int32)) :=
  (cpy c_p1_stones c_stones 36 36 (0 : Int32) (0 : Int32) (36 : Int32)).bind fun x1 =>
  (cpy c_p1_kinds c_kinds 8 8 (0 : Int32) (0 : Int32) (8 : Int32)).bind fun x2 =>
  (cpy c_p1_weights c_weights 8 8 (0 : Int32) (0 : Int32) (8 : Int32)).bind fun x3 =>
  (cpy c_p1_chances c_chances 8 8 (0 : Int32) (0 : Int32) (8 : Int32)).bind fun x4 =>
  some (c_p1_width, c_p1_rain, c_p1_ear, c_p1_walkers, c_p1_seed, x1, x2, x3, x4)
def f_T_letterAt (v1 : Int32) (c_size : Int32) (c_letters : (Nat → Int32)) : Option Int32 :=
  if v1 < 0 then
    some (-1 : Int32)
  else
    if c_size ≤ v1 then
      some (-1 : Int32)
    else
      if (250 : Int32) ≤ v1 then
        some (-1 : Int32)
      else
        (rd c_letters 250 v1).bind fun x1 =>
        some x1
def f_T_tokenOf_j35 (v0 : Int32) : Option Int32 :=
  if v0 = (59 : Int32) then
    some (3 : Int32)
  else
    some (4 : Int32)
def f_T_tokenOf_j21 (v0 : Int32) : Option Int32 :=
  if v0 < (48 : Int32) then
    f_T_tokenOf_j35 v0
  else
    if (57 : Int32) < v0 then
      f_T_tokenOf_j35 v0
    else
      some (2 : Int32)
def f_T_tokenOf (v0 : Int32) : Option Int32 :=
  if v0 = (-1 : Int32) then
    some (0 : Int32)
  else
    if v0 < (97 : Int32) then
      f_T_tokenOf_j21 v0
    else
      if (122 : Int32) < v0 then
        f_T_tokenOf_j21 v0
      else
        some (1 : Int32)
def f_T_next_b8 (c_size : Int32) (c_letters : (Nat → Int32)) (c_place : Int32) : Option (Int32 ⊕ Int32) :=
  if c_size ≤ c_place then
    some (.inr c_place)
  else
    (f_T_letterAt c_place c_size c_letters).bind fun x1 =>
    if x1 = (32 : Int32) then
      some (.inl (c_place + (1 : Int32)))
    else
      some (.inr c_place)
def f_T_next_l8 (c_size : Int32) (c_letters : (Nat → Int32)) (c_place : Int32) : Option Int32 :=
  iter (fun s => f_T_next_b8 c_size c_letters s) FUEL c_place
def f_T_next_b104 (c_size : Int32) (c_token : Int32) (c_letters : (Nat → Int32)) (c_end : Int32) : Option (Int32 ⊕ Int32) :=
  if c_size ≤ c_end then
    some (.inr c_end)
  else
    (f_T_letterAt c_end c_size c_letters).bind fun x5 =>
    (f_T_tokenOf x5).bind fun x6 =>
    if x6 = c_token then
      some (.inl (c_end + (1 : Int32)))
    else
      some (.inr c_end)
def f_T_next_l104 (c_size : Int32) (c_token : Int32) (c_letters : (Nat → Int32)) (c_end : Int32) : Option Int32 :=
  iter (fun s => f_T_next_b104 c_size c_token c_letters s) FUEL c_end
def f_T_next_j104 (c_size : Int32) (c_token : Int32) (c_place : Int32) (c_end : Int32) (c_letters : (Nat → Int32)) : Option (Int32 × Int32 × Int32) :=
  (f_T_next_l104 c_size c_token c_letters c_end).bind fun x7 =>
  some (c_token, c_place, x7)
def f_T_next_j85 (t1 : Int32) (c_size : Int32) (c_token : Int32) (c_place : Int32) (c_letters : (Nat → Int32)) : Option (Int32 × Int32 × Int32) :=
  if c_token = (1 : Int32) then
    f_T_next_j104 c_size c_token c_place t1 c_letters
  else
    if c_token = (2 : Int32) then
      f_T_next_j104 c_size c_token c_place t1 c_letters
    else
      some (c_token, c_place, t1)
def f_T_next (c_size : Int32) (c_token : Int32) (c_place : Int32) (c_end : Int32) (c_letters : (Nat → Int32)) : Option (Int32 × Int32 × Int32) :=
  (f_T_next_l8 c_size c_letters c_end).bind fun x2 =>
  (f_T_letterAt x2 c_size c_letters).bind fun x3 =>
  (f_T_tokenOf x3).bind fun x4 =>
  if c_size ≤ x2 then
    f_T_next_j85 c_size c_size x4 x2 c_letters
  else
    f_T_next_j85 (x2 + (1 : Int32)) c_size x4 x2 c_letters
def f_T_isSpelt_b28 (v1 : Nat) (c_size : Int32) (c_place : Int32) (c_letters : (Nat → Int32)) (v2 : Int32) : Option (Int32 ⊕ (Unit ⊕ Unit)) :=
  if (slen v1) ≤ v2 then
    some (.inr (.inr ()))
  else
    (f_T_letterAt (c_place + v2) c_size c_letters).bind fun x1 =>
    (schr v1 v2).bind fun x2 =>
    if x1 = x2 then
      some (.inl (v2 + (1 : Int32)))
    else
      some (.inr (.inl ()))
def f_T_isSpelt_l28 (v1 : Nat) (c_size : Int32) (c_place : Int32) (c_letters : (Nat → Int32)) (v2 : Int32) : Option (Unit ⊕ Unit) :=
  iter (fun s => f_T_isSpelt_b28 v1 c_size c_place c_letters s) FUEL v2
def f_T_isSpelt (v1 : Nat) (c_size : Int32) (c_token : Int32) (c_place : Int32) (c_end : Int32) (c_letters : (Nat → Int32)) : Option Int32 :=
  if c_token = (1 : Int32) then
    if (c_end - c_place) = (slen v1) then
      (f_T_isSpelt_l28 v1 c_size c_place c_letters (0 : Int32)).bind fun x3 =>
      Sum.elim (fun x4 =>
        some (0 : Int32))
      (fun x5 =>
        some (1 : Int32)) x3
    else
      some (0 : Int32)
  else
    some (0 : Int32)
def f_T_number_b31 (c_size : Int32) (c_end : Int32) (c_letters : (Nat → Int32)) (v3 : Int32) (v4 : Int32) : Option ((Int32 × Int32) ⊕ Int32) :=
  if c_end ≤ v4 then
    some (.inr v3)
  else
    (f_T_letterAt v4 c_size c_letters).bind fun x1 =>
    some (.inl ((((v3 * (10 : Int32)) + x1) - (48 : Int32)), (v4 + (1 : Int32))))
def f_T_number_l31 (c_size : Int32) (c_end : Int32) (c_letters : (Nat → Int32)) (v3 : Int32) (v4 : Int32) : Option Int32 :=
  iter (fun s => f_T_number_b31 c_size c_end c_letters s.1 s.2) FUEL (v3, v4)
def f_T_number (v1 : Int32) (v2 : Int32) (c_size : Int32) (c_token : Int32) (c_place : Int32) (c_end : Int32) (c_letters : (Nat → Int32)) : Option (Int32 × Int32 × Int32 × Int32) :=
  if c_token = (2 : Int32) then
    if (c_end - c_place) ≤ (2 : Int32) then
      (f_T_number_l31 c_size c_end c_letters (0 : Int32) c_place).bind fun x2 =>
      (f_M_isWithin x2 v1 v2).bind fun x3 =>
      if x3 = 0 then
        some ((-1 : Int32), c_token, c_place, c_end)
      else
        (f_T_next c_size c_token c_place c_end c_letters).bind fun x4 =>
        some (x2, x4.1, x4.2.1, x4.2.2)
    else
      some ((-1 : Int32), c_token, c_place, c_end)
  else
    some ((-1 : Int32), c_token, c_place, c_end)
def f_T_isFootTold (c_size : Int32) (c_token : Int32) (c_place : Int32) (c_end : Int32) (c_letters : (Nat → Int32)) (c_p1_walkers : Int32) (c_p1_kinds : (Nat → Int32)) (c_p1_weights : (Nat → Int32)) (c_p1_chances : (Nat → Int32)) : Option (Int32 × Int32 × Int32 × Int32 × Int32 × (Nat → Int32) × (Nat → Int32) × (Nat → Int32)) :=
  (f_T_next c_size c_token c_place c_end c_letters).bind fun x1 =>
  (f_T_number (0 : Int32) (5 : Int32) c_size x1.1 x1.2.1 x1.2.2 c_letters).bind fun x2 =>
  if x2.1 = (-1 : Int32) then
    some ((0 : Int32), x2.2.1, x2.2.2.1, x2.2.2.2, c_p1_walkers, c_p1_kinds, c_p1_weights, c_p1_chances)
  else
    (f_T_number (0 : Int32) (9 : Int32) c_size x2.2.1 x2.2.2.1 x2.2.2.2 c_letters).bind fun x3 =>
    if x3.1 = (-1 : Int32) then
      some ((0 : Int32), x3.2.1, x3.2.2.1, x3.2.2.2, c_p1_walkers, c_p1_kinds, c_p1_weights, c_p1_chances)
    else
      (f_T_number (1 : Int32) (99 : Int32) c_size x3.2.1 x3.2.2.1 x3.2.2.2 c_letters).bind fun x4 =>
      if x4.1 = (-1 : Int32) then
        some ((0 : Int32), x4.2.1, x4.2.2.1, x4.2.2.2, c_p1_walkers, c_p1_kinds, c_p1_weights, c_p1_chances)
      else
        (f_D_welcome x2.1 x3.1 x4.1 c_p1_walkers c_p1_kinds c_p1_weights c_p1_chances).bind fun x5 =>
        some ((1 : Int32), x4.2.1, x4.2.2.1, x4.2.2.2, x5.2.1, x5.2.2.1, x5.2.2.2.1, x5.2.2.2.2)
def f_T_isTaken (v1 : Nat) (c_size : Int32) (c_token : Int32) (c_place : Int32) (c_end : Int32) (c_letters : (Nat → Int32)) : Option (Int32 × Int32 × Int32 × Int32) :=
  (f_T_isSpelt v1 c_size c_token c_place c_end c_letters).bind fun x1 =>
  if x1 = 0 then
    (zr x1).bind fun x2 =>
    some (x2, c_token, c_place, c_end)
  else
    (f_T_next c_size c_token c_place c_end c_letters).bind fun x3 =>
    (zr x1).bind fun x4 =>
    some (x4, x3.1, x3.2.1, x3.2.2)
def f_D_rakeAll_b2 (c_width : Int32) (v1 : Int32) (c_stones : (Nat → Int32)) : Option ((Int32 × (Nat → Int32)) ⊕ (Nat → Int32)) :=
  (f_D_cells c_width).bind fun x1 =>
  if x1 ≤ v1 then
    some (.inr c_stones)
  else
    (rd c_stones 36 v1).bind fun x2 =>
    if x2 = 0 then
      some (.inl ((v1 + (1 : Int32)), c_stones))
    else
      (rd c_stones 36 v1).bind fun x3 =>
      (wr c_stones 36 v1 (imin (9 : Int32) (x3 + (1 : Int32)))).bind fun x4 =>
      some (.inl ((v1 + (1 : Int32)), x4))
def f_D_rakeAll_l2 (c_width : Int32) (v1 : Int32) (c_stones : (Nat → Int32)) : Option (Nat → Int32) :=
  iter (fun s => f_D_rakeAll_b2 c_width s.1 s.2) FUEL (v1, c_stones)
def f_D_rakeAll (c_width : Int32) (c_stones : (Nat → Int32)) : Option (Nat → Int32) :=
  (f_D_rakeAll_l2 c_width (0 : Int32) c_stones).bind fun x5 =>
  some x5
def f_T_isSideTold (c_size : Int32) (c_token : Int32) (c_place : Int32) (c_end : Int32) (c_letters : (Nat → Int32)) (c_p1_width : Int32) (c_p1_stones : (Nat → Int32)) : Option (Int32 × Int32 × Int32 × Int32 × Int32 × (Nat → Int32)) :=
  (f_T_number (2 : Int32) (6 : Int32) c_size c_token c_place c_end c_letters).bind fun x1 =>
  if x1.1 = (-1 : Int32) then
    some ((0 : Int32), x1.2.1, x1.2.2.1, x1.2.2.2, c_p1_width, c_p1_stones)
  else
    (f_D_layOut x1.1 c_p1_width c_p1_stones).bind fun x2 =>
    some ((1 : Int32), x1.2.1, x1.2.2.1, x1.2.2.2, x2.1, x2.2)
def f_T_isGravelTold (c_size : Int32) (c_token : Int32) (c_place : Int32) (c_end : Int32) (c_letters : (Nat → Int32)) (c_p1_width : Int32) (c_p1_stones : (Nat → Int32)) : Option (Int32 × Int32 × Int32 × Int32 × (Nat → Int32)) :=
  (f_D_cells c_p1_width).bind fun x1 =>
  (f_T_number (0 : Int32) (x1 - (1 : Int32)) c_size c_token c_place c_end c_letters).bind fun x2 =>
  if x2.1 = (-1 : Int32) then
    some ((0 : Int32), x2.2.1, x2.2.2.1, x2.2.2.2, c_p1_stones)
  else
    (f_T_number (0 : Int32) (9 : Int32) c_size x2.2.1 x2.2.2.1 x2.2.2.2 c_letters).bind fun x3 =>
    if x3.1 = (-1 : Int32) then
      some ((0 : Int32), x3.2.1, x3.2.2.1, x3.2.2.2, c_p1_stones)
    else
      (f_D_pour x2.1 x3.1 c_p1_stones).bind fun x4 =>
      some ((1 : Int32), x3.2.1, x3.2.2.1, x3.2.2.2, x4)
def f_T_isPlankTold (c_size : Int32) (c_token : Int32) (c_place : Int32) (c_end : Int32) (c_letters : (Nat → Int32)) (c_p1_width : Int32) (c_p1_stones : (Nat → Int32)) : Option (Int32 × Int32 × Int32 × Int32 × (Nat → Int32)) :=
  (f_D_cells c_p1_width).bind fun x1 =>
  (f_T_number (0 : Int32) (x1 - (1 : Int32)) c_size c_token c_place c_end c_letters).bind fun x2 =>
  if x2.1 = (-1 : Int32) then
    some ((0 : Int32), x2.2.1, x2.2.2.1, x2.2.2.2, c_p1_stones)
  else
    (f_D_pour x2.1 (0 : Int32) c_p1_stones).bind fun x3 =>
    some ((1 : Int32), x2.2.1, x2.2.2.1, x2.2.2.2, x3)
def f_T_isRainTold (c_size : Int32) (c_token : Int32) (c_place : Int32) (c_end : Int32) (c_letters : (Nat → Int32)) (c_p1_rain : Int32) : Option (Int32 × Int32 × Int32 × Int32 × Int32) :=
  (f_T_number (0 : Int32) (9 : Int32) c_size c_token c_place c_end c_letters).bind fun x1 =>
  if x1.1 = (-1 : Int32) then
    some ((0 : Int32), x1.2.1, x1.2.2.1, x1.2.2.2, c_p1_rain)
  else
    some ((1 : Int32), x1.2.1, x1.2.2.1, x1.2.2.2, x1.1)
def f_T_isEarTold (c_size : Int32) (c_token : Int32) (c_place : Int32) (c_end : Int32) (c_letters : (Nat → Int32)) (c_p1_ear : Int32) : Option (Int32 × Int32 × Int32 × Int32 × Int32) :=
  (f_T_number (1 : Int32) (99 : Int32) c_size c_token c_place c_end c_letters).bind fun x1 =>
  if x1.1 = (-1 : Int32) then
    some ((0 : Int32), x1.2.1, x1.2.2.1, x1.2.2.2, c_p1_ear)
  else
    some ((1 : Int32), x1.2.1, x1.2.2.1, x1.2.2.2, x1.1)
def f_T_isStatement (c_size : Int32) (c_token : Int32) (c_place : Int32) (c_end : Int32) (c_letters : (Nat → Int32)) (c_p1_width : Int32) (c_p1_rain : Int32) (c_p1_ear : Int32) (c_p1_walkers : Int32) (c_p1_stones : (Nat → Int32)) (c_p1_kinds : (Nat → Int32)) (c_p1_weights : (Nat → Int32)) (c_p1_chances : (Nat → Int32)) : Option (Int32 × Int32 × Int32 × Int32 × Int32 × Int32 × Int32 × Int32 × (Nat → Int32) × (Nat → Int32) × (Nat → Int32) × (Nat → Int32)) :=
  (f_T_isSpelt 0 c_size c_token c_place c_end c_letters).bind fun x1 =>
  if x1 = 0 then
    (f_T_isTaken 1 c_size c_token c_place c_end c_letters).bind fun x2 =>
    if x2.1 = 0 then
      (f_T_isTaken 2 c_size x2.2.1 x2.2.2.1 x2.2.2.2 c_letters).bind fun x3 =>
      if x3.1 = 0 then
        (f_T_isTaken 3 c_size x3.2.1 x3.2.2.1 x3.2.2.2 c_letters).bind fun x4 =>
        if x4.1 = 0 then
          (f_T_isTaken 4 c_size x4.2.1 x4.2.2.1 x4.2.2.2 c_letters).bind fun x5 =>
          if x5.1 = 0 then
            (f_T_isTaken 5 c_size x5.2.1 x5.2.2.1 x5.2.2.2 c_letters).bind fun x6 =>
            if x6.1 = 0 then
              (f_T_isTaken 6 c_size x6.2.1 x6.2.2.1 x6.2.2.2 c_letters).bind fun x7 =>
              if x7.1 = 0 then
                some ((0 : Int32), x7.2.1, x7.2.2.1, x7.2.2.2, c_p1_width, c_p1_rain, c_p1_ear, c_p1_walkers, c_p1_stones, c_p1_kinds, c_p1_weights, c_p1_chances)
              else
                (f_T_isEarTold c_size x7.2.1 x7.2.2.1 x7.2.2.2 c_letters c_p1_ear).bind fun x8 =>
                if x8.1 = 0 then
                  some ((0 : Int32), x8.2.1, x8.2.2.1, x8.2.2.2.1, c_p1_width, c_p1_rain, x8.2.2.2.2, c_p1_walkers, c_p1_stones, c_p1_kinds, c_p1_weights, c_p1_chances)
                else
                  some ((1 : Int32), x8.2.1, x8.2.2.1, x8.2.2.2.1, c_p1_width, c_p1_rain, x8.2.2.2.2, c_p1_walkers, c_p1_stones, c_p1_kinds, c_p1_weights, c_p1_chances)
            else
              (f_T_isRainTold c_size x6.2.1 x6.2.2.1 x6.2.2.2 c_letters c_p1_rain).bind fun x9 =>
              (zr x9.1).bind fun x10 =>
              some (x10, x9.2.1, x9.2.2.1, x9.2.2.2.1, c_p1_width, x9.2.2.2.2, c_p1_ear, c_p1_walkers, c_p1_stones, c_p1_kinds, c_p1_weights, c_p1_chances)
          else
            (f_T_isPlankTold c_size x5.2.1 x5.2.2.1 x5.2.2.2 c_letters c_p1_width c_p1_stones).bind fun x11 =>
            (zr x11.1).bind fun x12 =>
            some (x12, x11.2.1, x11.2.2.1, x11.2.2.2.1, c_p1_width, c_p1_rain, c_p1_ear, c_p1_walkers, x11.2.2.2.2, c_p1_kinds, c_p1_weights, c_p1_chances)
        else
          (f_T_isGravelTold c_size x4.2.1 x4.2.2.1 x4.2.2.2 c_letters c_p1_width c_p1_stones).bind fun x13 =>
          (zr x13.1).bind fun x14 =>
          some (x14, x13.2.1, x13.2.2.1, x13.2.2.2.1, c_p1_width, c_p1_rain, c_p1_ear, c_p1_walkers, x13.2.2.2.2, c_p1_kinds, c_p1_weights, c_p1_chances)
      else
        (f_T_isSideTold c_size x3.2.1 x3.2.2.1 x3.2.2.2 c_letters c_p1_width c_p1_stones).bind fun x15 =>
        (zr x15.1).bind fun x16 =>
        some (x16, x15.2.1, x15.2.2.1, x15.2.2.2.1, x15.2.2.2.2.1, c_p1_rain, c_p1_ear, c_p1_walkers, x15.2.2.2.2.2, c_p1_kinds, c_p1_weights, c_p1_chances)
    else
      (f_D_rakeAll c_p1_width c_p1_stones).bind fun x17 =>
      some ((1 : Int32), x2.2.1, x2.2.2.1, x2.2.2.2, c_p1_width, c_p1_rain, c_p1_ear, c_p1_walkers, x17, c_p1_kinds, c_p1_weights, c_p1_chances)
  else
    (f_D_isFull c_p1_walkers).bind fun x18 =>
    if x18 = 0 then
      (f_T_isFootTold c_size c_token c_place c_end c_letters c_p1_walkers c_p1_kinds c_p1_weights c_p1_chances).bind fun x19 =>
      if x19.1 = 0 then
        some ((0 : Int32), x19.2.1, x19.2.2.1, x19.2.2.2.1, c_p1_width, c_p1_rain, c_p1_ear, x19.2.2.2.2.1, c_p1_stones, x19.2.2.2.2.2.1, x19.2.2.2.2.2.2.1, x19.2.2.2.2.2.2.2)
      else
        some ((1 : Int32), x19.2.1, x19.2.2.1, x19.2.2.2.1, c_p1_width, c_p1_rain, c_p1_ear, x19.2.2.2.2.1, c_p1_stones, x19.2.2.2.2.2.1, x19.2.2.2.2.2.2.1, x19.2.2.2.2.2.2.2)
    else
      some ((0 : Int32), c_token, c_place, c_end, c_p1_width, c_p1_rain, c_p1_ear, c_p1_walkers, c_p1_stones, c_p1_kinds, c_p1_weights, c_p1_chances)
def f_T_readInto_b11 (c_size : Int32) (c_letters : (Nat → Int32)) (v2 : Int32) (c_token : Int32) (c_place : Int32) (c_end : Int32) (c_p1_width : Int32) (c_p1_rain : Int32) (c_p1_ear : Int32) (c_p1_walkers : Int32) (c_p1_stones : (Nat → Int32)) (c_p1_kinds : (Nat → Int32)) (c_p1_weights : (Nat → Int32)) (c_p1_chances : (Nat → Int32)) : Option ((Int32 × Int32 × Int32 × Int32 × Int32 × Int32 × Int32 × Int32 × (Nat → Int32) × (Nat → Int32) × (Nat → Int32) × (Nat → Int32)) ⊕ ((Int32 × Int32 × Int32 × Int32 × Int32 × Int32 × Int32 × (Nat → Int32) × (Nat → Int32) × (Nat → Int32) × (Nat → Int32)) ⊕ ((Int32 × Int32 × Int32 × Int32 × Int32 × Int32 × Int32 × Int32 × (Nat → Int32) × (Nat → Int32) × (Nat → Int32) × (Nat → Int32)) ⊕ ((Int32 × Int32 × Int32 × Int32 × Int32 × Int32 × Int32 × (Nat → Int32) × (Nat → Int32) × (Nat → Int32) × (Nat → Int32)) ⊕ (Int32 × Int32 × Int32 × Int32 × Int32 × Int32 × Int32 × (Nat → Int32) × (Nat → Int32) × (Nat → Int32) × (Nat → Int32)))))) :=
  if (250 : Int32) < v2 then
    some (.inr (.inr (.inr (.inr (c_token, c_place, c_end, c_p1_width, c_p1_rain, c_p1_ear, c_p1_walkers, c_p1_stones, c_p1_kinds, c_p1_weights, c_p1_chances)))))
  else
    (f_T_isStatement c_size c_token c_place c_end c_letters c_p1_width c_p1_rain c_p1_ear c_p1_walkers c_p1_stones c_p1_kinds c_p1_weights c_p1_chances).bind fun x2 =>
    if x2.1 = 0 then
      some (.inr (.inl (x2.2.1, x2.2.2.1, x2.2.2.2.1, x2.2.2.2.2.1, x2.2.2.2.2.2.1, x2.2.2.2.2.2.2.1, x2.2.2.2.2.2.2.2.1, x2.2.2.2.2.2.2.2.2.1, x2.2.2.2.2.2.2.2.2.2.1, x2.2.2.2.2.2.2.2.2.2.2.1, x2.2.2.2.2.2.2.2.2.2.2.2)))
    else
      if x2.2.1 = 0 then
        some (.inr (.inr (.inl (v2, x2.2.1, x2.2.2.1, x2.2.2.2.1, x2.2.2.2.2.1, x2.2.2.2.2.2.1, x2.2.2.2.2.2.2.1, x2.2.2.2.2.2.2.2.1, x2.2.2.2.2.2.2.2.2.1, x2.2.2.2.2.2.2.2.2.2.1, x2.2.2.2.2.2.2.2.2.2.2.1, x2.2.2.2.2.2.2.2.2.2.2.2))))
      else
        if x2.2.1 = (3 : Int32) then
          (f_T_next c_size x2.2.1 x2.2.2.1 x2.2.2.2.1 c_letters).bind fun x3 =>
          some (.inl ((v2 + (1 : Int32)), x3.1, x3.2.1, x3.2.2, x2.2.2.2.2.1, x2.2.2.2.2.2.1, x2.2.2.2.2.2.2.1, x2.2.2.2.2.2.2.2.1, x2.2.2.2.2.2.2.2.2.1, x2.2.2.2.2.2.2.2.2.2.1, x2.2.2.2.2.2.2.2.2.2.2.1, x2.2.2.2.2.2.2.2.2.2.2.2))
        else
          some (.inr (.inr (.inr (.inl (x2.2.1, x2.2.2.1, x2.2.2.2.1, x2.2.2.2.2.1, x2.2.2.2.2.2.1, x2.2.2.2.2.2.2.1, x2.2.2.2.2.2.2.2.1, x2.2.2.2.2.2.2.2.2.1, x2.2.2.2.2.2.2.2.2.2.1, x2.2.2.2.2.2.2.2.2.2.2.1, x2.2.2.2.2.2.2.2.2.2.2.2)))))
def f_T_readInto_l11 (c_size : Int32) (c_letters : (Nat → Int32)) (v2 : Int32) (c_token : Int32) (c_place : Int32) (c_end : Int32) (c_p1_width : Int32) (c_p1_rain : Int32) (c_p1_ear : Int32) (c_p1_walkers : Int32) (c_p1_stones : (Nat → Int32)) (c_p1_kinds : (Nat → Int32)) (c_p1_weights : (Nat → Int32)) (c_p1_chances : (Nat → Int32)) : Option ((Int32 × Int32 × Int32 × Int32 × Int32 × Int32 × Int32 × (Nat → Int32) × (Nat → Int32) × (Nat → Int32) × (Nat → Int32)) ⊕ ((Int32 × Int32 × Int32 × Int32 × Int32 × Int32 × Int32 × Int32 × (Nat → Int32) × (Nat → Int32) × (Nat → Int32) × (Nat → Int32)) ⊕ ((Int32 × Int32 × Int32 × Int32 × Int32 × Int32 × Int32 × (Nat → Int32) × (Nat → Int32) × (Nat → Int32) × (Nat → Int32)) ⊕ (Int32 × Int32 × Int32 × Int32 × Int32 × Int32 × Int32 × (Nat → Int32) × (Nat → Int32) × (Nat → Int32) × (Nat → Int32))))) :=
  iter (fun s => f_T_readInto_b11 c_size c_letters s.1 s.2.1 s.2.2.1 s.2.2.2.1 s.2.2.2.2.1 s.2.2.2.2.2.1 s.2.2.2.2.2.2.1 s.2.2.2.2.2.2.2.1 s.2.2.2.2.2.2.2.2.1 s.2.2.2.2.2.2.2.2.2.1 s.2.2.2.2.2.2.2.2.2.2.1 s.2.2.2.2.2.2.2.2.2.2.2) FUEL (v2, c_token, c_place, c_end, c_p1_width, c_p1_rain, c_p1_ear, c_p1_walkers, c_p1_stones, c_p1_kinds, c_p1_weights, c_p1_chances)
def f_T_readInto (c_size : Int32) (c_token : Int32) (c_place : Int32) (c_end : Int32) (c_letters : (Nat → Int32)) (c_p1_width : Int32) (c_p1_rain : Int32) (c_p1_ear : Int32) (c_p1_walkers : Int32) (c_p1_stones : (Nat → Int32)) (c_p1_kinds : (Nat → Int32)) (c_p1_weights : (Nat → Int32)) (c_p1_chances : (Nat → Int32)) : Option (Int32 × Int32 × Int32 × Int32 × Int32 × Int32 × Int32 × Int32 × (Nat → Int32) × (Nat → Int32) × (Nat → Int32) × (Nat → Int32)) :=
  (f_T_next c_size c_token c_place (0 : Int32) c_letters).bind fun x1 =>
  (f_T_readInto_l11 c_size c_letters (1 : Int32) x1.1 x1.2.1 x1.2.2 c_p1_width c_p1_rain c_p1_ear c_p1_walkers c_p1_stones c_p1_kinds c_p1_weights c_p1_chances).bind fun x4 =>
  Sum.elim (fun x5 =>
    some (((-20 : Int32) - x5.2.1), x5.1, x5.2.1, x5.2.2.1, x5.2.2.2.1, x5.2.2.2.2.1, x5.2.2.2.2.2.1, x5.2.2.2.2.2.2.1, x5.2.2.2.2.2.2.2.1, x5.2.2.2.2.2.2.2.2.1, x5.2.2.2.2.2.2.2.2.2.1, x5.2.2.2.2.2.2.2.2.2.2))
  (fun x6 =>
    Sum.elim (fun x7 =>
      some (x7.1, x7.2.1, x7.2.2.1, x7.2.2.2.1, x7.2.2.2.2.1, x7.2.2.2.2.2.1, x7.2.2.2.2.2.2.1, x7.2.2.2.2.2.2.2.1, x7.2.2.2.2.2.2.2.2.1, x7.2.2.2.2.2.2.2.2.2.1, x7.2.2.2.2.2.2.2.2.2.2.1, x7.2.2.2.2.2.2.2.2.2.2.2))
    (fun x8 =>
      Sum.elim (fun x9 =>
        some (((-20 : Int32) - x9.2.1), x9.1, x9.2.1, x9.2.2.1, x9.2.2.2.1, x9.2.2.2.2.1, x9.2.2.2.2.2.1, x9.2.2.2.2.2.2.1, x9.2.2.2.2.2.2.2.1, x9.2.2.2.2.2.2.2.2.1, x9.2.2.2.2.2.2.2.2.2.1, x9.2.2.2.2.2.2.2.2.2.2))
      (fun x10 =>
        some (((-20 : Int32) - x10.2.1), x10.1, x10.2.1, x10.2.2.1, x10.2.2.2.1, x10.2.2.2.2.1, x10.2.2.2.2.2.1, x10.2.2.2.2.2.2.1, x10.2.2.2.2.2.2.2.1, x10.2.2.2.2.2.2.2.2.1, x10.2.2.2.2.2.2.2.2.2.1, x10.2.2.2.2.2.2.2.2.2.2)) x8) x6) x4
def f_M_drive (c_now_width : Int32) (c_now_rain : Int32) (c_now_ear : Int32) (c_now_walkers : Int32) (c_now_seed : Int32) (c_now_stones : (Nat → Int32)) (c_now_kinds : (Nat → Int32)) (c_now_weights : (Nat → Int32)) (c_now_chances : (Nat → Int32)) (c_trial_width : Int32) (c_trial_rain : Int32) (c_trial_ear : Int32) (c_trial_walkers : Int32) (c_trial_seed : Int32) (c_trial_stones : (Nat → Int32)) (c_trial_kinds : (Nat → Int32)) (c_trial_weights : (Nat → Int32)) (c_trial_chances : (Nat → Int32)) (c_tape_size : Int32) (c_tape_token : Int32) (c_tape_place : Int32) (c_tape_end : Int32) (c_tape_letters : (Nat → Int32)) (c_refusals : (Nat → Int32)) : Option (Int32 × Int32 × Int32 × Int32 × Int32 × Int32 × (Nat → Int32) × (Nat → Int32) × (Nat → Int32) × (Nat → Int32) × Int32 × Int32 × Int32 × Int32 × Int32 × (Nat → Int32) × (Nat → Int32) × (Nat → Int32) × (Nat → Int32) × Int32 × Int32 × Int32 × Int32 × (Nat → Int32)) :=
  (f_D_takeFrom c_trial_width c_trial_rain c_trial_ear c_trial_walkers c_trial_seed c_trial_stones c_trial_kinds c_trial_weights c_trial_chances c_now_width c_now_rain c_now_ear c_now_walkers c_now_seed c_now_stones c_now_kinds c_now_weights c_now_chances).bind fun x1 =>
  (f_T_readInto c_tape_size c_tape_token c_tape_place c_tape_end c_tape_letters x1.1 x1.2.1 x1.2.2.1 x1.2.2.2.1 x1.2.2.2.2.2.1 x1.2.2.2.2.2.2.1 x1.2.2.2.2.2.2.2.1 x1.2.2.2.2.2.2.2.2).bind fun x2 =>
  (f_T_cut c_tape_size).bind fun x3 =>
  if 0 ≤ x2.1 then
    (f_D_takeFrom c_now_width c_now_rain c_now_ear c_now_walkers c_now_seed c_now_stones c_now_kinds c_now_weights c_now_chances x2.2.2.2.2.1 x2.2.2.2.2.2.1 x2.2.2.2.2.2.2.1 x2.2.2.2.2.2.2.2.1 x1.2.2.2.2.1 x2.2.2.2.2.2.2.2.2.1 x2.2.2.2.2.2.2.2.2.2.1 x2.2.2.2.2.2.2.2.2.2.2.1 x2.2.2.2.2.2.2.2.2.2.2.2).bind fun x4 =>
    some (x2.1, x4.1, x4.2.1, x4.2.2.1, x4.2.2.2.1, x4.2.2.2.2.1, x4.2.2.2.2.2.1, x4.2.2.2.2.2.2.1, x4.2.2.2.2.2.2.2.1, x4.2.2.2.2.2.2.2.2, x2.2.2.2.2.1, x2.2.2.2.2.2.1, x2.2.2.2.2.2.2.1, x2.2.2.2.2.2.2.2.1, x1.2.2.2.2.1, x2.2.2.2.2.2.2.2.2.1, x2.2.2.2.2.2.2.2.2.2.1, x2.2.2.2.2.2.2.2.2.2.2.1, x2.2.2.2.2.2.2.2.2.2.2.2, x3.2, x2.2.1, x2.2.2.1, x2.2.2.2.1, c_refusals)
  else
    (f_M_refuse (-2 : Int32) c_refusals).bind fun x5 =>
    some (x2.1, c_now_width, c_now_rain, c_now_ear, c_now_walkers, c_now_seed, c_now_stones, c_now_kinds, c_now_weights, c_now_chances, x2.2.2.2.2.1, x2.2.2.2.2.2.1, x2.2.2.2.2.2.2.1, x2.2.2.2.2.2.2.2.1, x1.2.2.2.2.1, x2.2.2.2.2.2.2.2.2.1, x2.2.2.2.2.2.2.2.2.2.1, x2.2.2.2.2.2.2.2.2.2.2.1, x2.2.2.2.2.2.2.2.2.2.2.2, x3.2, x2.2.1, x2.2.2.1, x2.2.2.2.1, x5.2)
def f_M_feetOf_j17 (c_refusals : (Nat → Int32)) : Option (Int32 × (Nat → Int32)) :=
  (f_M_refuse (-2 : Int32) c_refusals).bind fun x2 =>
  some (x2.1, x2.2)
def f_M_feetOf (v1 : Int32) (v2 : Int32) (c_now_walkers : Int32) (c_now_kinds : (Nat → Int32)) (c_now_weights : (Nat → Int32)) (c_now_chances : (Nat → Int32)) (c_refusals : (Nat → Int32)) : Option (Int32 × (Nat → Int32)) :=
  (f_M_isFeet v1 c_now_walkers).bind fun x1 =>
  if x1 = 0 then
    f_M_feetOf_j17 c_refusals
  else
    (f_M_isWithin v2 (0 : Int32) (2 : Int32)).bind fun x3 =>
    if x3 = 0 then
      f_M_feetOf_j17 c_refusals
    else
      if v2 = 0 then
        (f_D_kindOf v1 c_now_kinds).bind fun x6 =>
        some (x6, c_refusals)
      else
        if v2 = (1 : Int32) then
          (f_D_weightOf v1 c_now_weights).bind fun x5 =>
          some (x5, c_refusals)
        else
          (f_D_chanceOf v1 c_now_chances).bind fun x4 =>
          some (x4, c_refusals)
def f_M_cellOf_j17 (c_refusals : (Nat → Int32)) : Option (Int32 × (Nat → Int32)) :=
  (f_M_refuse (-2 : Int32) c_refusals).bind fun x2 =>
  some (x2.1, x2.2)
def f_M_cellOf (v1 : Int32) (v2 : Int32) (c_now_width : Int32) (c_now_rain : Int32) (c_now_stones : (Nat → Int32)) (c_refusals : (Nat → Int32)) : Option (Int32 × (Nat → Int32)) :=
  (f_M_isCell v1 c_now_width).bind fun x1 =>
  if x1 = 0 then
    f_M_cellOf_j17 c_refusals
  else
    (f_M_isWithin v2 (0 : Int32) (1 : Int32)).bind fun x3 =>
    if x3 = 0 then
      f_M_cellOf_j17 c_refusals
    else
      if v2 = 0 then
        (f_D_stonesOn v1 c_now_stones).bind fun x5 =>
        some (x5, c_refusals)
      else
        (f_D_wetOn v1 c_now_rain c_now_stones).bind fun x4 =>
        some (x4, c_refusals)
def f_M_crunch_j25 (c_refusals : (Nat → Int32)) : Option (Int32 × (Nat → Int32)) :=
  (f_M_refuse (-2 : Int32) c_refusals).bind fun x2 =>
  some (x2.1, x2.2)
def f_M_crunch (v1 : Int32) (v2 : Int32) (v3 : Int32) (c_now_width : Int32) (c_now_rain : Int32) (c_now_walkers : Int32) (c_now_stones : (Nat → Int32)) (c_now_kinds : (Nat → Int32)) (c_now_weights : (Nat → Int32)) (c_refusals : (Nat → Int32)) : Option (Int32 × (Nat → Int32)) :=
  (f_M_isFeet v1 c_now_walkers).bind fun x1 =>
  if x1 = 0 then
    f_M_crunch_j25 c_refusals
  else
    (f_M_isCell v2 c_now_width).bind fun x3 =>
    if x3 = 0 then
      f_M_crunch_j25 c_refusals
    else
      (f_M_isWithin v3 (0 : Int32) (5 : Int32)).bind fun x4 =>
      if x4 = 0 then
        f_M_crunch_j25 c_refusals
      else
        (f_D_stepAs v1 v2 v3 c_now_rain c_now_stones c_now_kinds c_now_weights).bind fun x5 =>
        some (x5, c_refusals)
def f_M_isStepOrNone (v1 : Int32) (c_now_width : Int32) : Option Int32 :=
  (f_M_isWithin v1 (-1 : Int32) (c_now_width - (1 : Int32))).bind fun x1 =>
  (zr x1).bind fun x2 =>
  some x2
def f_D_rowOf (v1 : Int32) (c_width : Int32) : Option Int32 :=
  if c_width ≤ 0 then
    some (0 : Int32)
  else
    (dv v1 c_width).bind fun x1 =>
    some x1
def f_D_stepOn (v1 : Int32) (v2 : Int32) (c_width : Int32) (c_rain : Int32) (c_stones : (Nat → Int32)) (c_kinds : (Nat → Int32)) (c_weights : (Nat → Int32)) : Option Int32 :=
  (f_D_rowOf v2 c_width).bind fun x1 =>
  (f_D_stepUnder v1 v2 x1 c_rain c_stones c_kinds c_weights).bind fun x2 =>
  some x2
def f_P_putStep (v1 : Int32) (v2 : Int32) (c_steps : (Nat → Int32)) : Option (Nat → Int32) :=
  (f_M_isWithin v1 (0 : Int32) (35 : Int32)).bind fun x1 =>
  if x1 = 0 then
    some c_steps
  else
    (wr c_steps 36 v1 v2).bind fun x2 =>
    some x2
def f_M_layCrunches_b16 (v1 : Int32) (v2 : Int32) (c_now_width : Int32) (c_now_rain : Int32) (c_now_stones : (Nat → Int32)) (c_now_kinds : (Nat → Int32)) (c_now_weights : (Nat → Int32)) (v3 : Int32) (c_paths_steps : (Nat → Int32)) : Option ((Int32 × (Nat → Int32)) ⊕ (Nat → Int32)) :=
  (f_D_cells c_now_width).bind fun x1 =>
  if x1 ≤ v3 then
    some (.inr c_paths_steps)
  else
    (f_D_stepOn v1 v3 c_now_width c_now_rain c_now_stones c_now_kinds c_now_weights).bind fun x2 =>
    (f_P_putStep v3 (v2 * x2) c_paths_steps).bind fun x3 =>
    some (.inl ((v3 + (1 : Int32)), x3))
def f_M_layCrunches_l16 (v1 : Int32) (v2 : Int32) (c_now_width : Int32) (c_now_rain : Int32) (c_now_stones : (Nat → Int32)) (c_now_kinds : (Nat → Int32)) (c_now_weights : (Nat → Int32)) (v3 : Int32) (c_paths_steps : (Nat → Int32)) : Option (Nat → Int32) :=
  iter (fun s => f_M_layCrunches_b16 v1 v2 c_now_width c_now_rain c_now_stones c_now_kinds c_now_weights s.1 s.2) FUEL (v3, c_paths_steps)
def f_M_layCrunches (v1 : Int32) (v2 : Int32) (c_now_width : Int32) (c_now_rain : Int32) (c_now_stones : (Nat → Int32)) (c_now_kinds : (Nat → Int32)) (c_now_weights : (Nat → Int32)) (c_paths_width : Int32) (c_paths_steps : (Nat → Int32)) : Option (Int32 × (Nat → Int32)) :=
  (f_M_layCrunches_l16 v1 v2 c_now_width c_now_rain c_now_stones c_now_kinds c_now_weights (0 : Int32) c_paths_steps).bind fun x4 =>
  some (c_now_width, x4)
def f_P_length (c_width : Int32) : Option Int32 :=
  some (imin c_width (6 : Int32))
def f_P_cellIn (v1 : Int32) (v2 : Int32) (c_width : Int32) : Option Int32 :=
  (f_P_length c_width).bind fun x1 =>
  (f_M_isWithin ((v1 * x1) + v2) (0 : Int32) (35 : Int32)).bind fun x2 =>
  if x2 = 0 then
    some (0 : Int32)
  else
    some ((v1 * x1) + v2)
def f_P_leastBehind_b24 (v1 : Int32) (v2 : Int32) (c_width : Int32) (c_rest : (Nat → Int32)) (v3 : Int32) (v4 : Int32) : Option ((Int32 × Int32) ⊕ Int32) :=
  (f_P_length c_width).bind fun x2 =>
  if (imin (x2 - (1 : Int32)) (v2 + (1 : Int32))) < v4 then
    some (.inr v3)
  else
    (f_P_cellIn (v1 + (1 : Int32)) v4 c_width).bind fun x3 =>
    (rd c_rest 36 x3).bind fun x4 =>
    some (.inl ((imin v3 x4), (v4 + (1 : Int32))))
def f_P_leastBehind_l24 (v1 : Int32) (v2 : Int32) (c_width : Int32) (c_rest : (Nat → Int32)) (v3 : Int32) (v4 : Int32) : Option Int32 :=
  iter (fun s => f_P_leastBehind_b24 v1 v2 c_width c_rest s.1 s.2) FUEL (v3, v4)
def f_P_leastBehind (v1 : Int32) (v2 : Int32) (c_width : Int32) (c_rest : (Nat → Int32)) : Option Int32 :=
  (f_P_length c_width).bind fun x1 =>
  if (v1 + (1 : Int32)) < x1 then
    (f_P_leastBehind_l24 v1 v2 c_width c_rest (1000000 : Int32) (imax (0 : Int32) (v2 - (1 : Int32)))).bind fun x5 =>
    some x5
  else
    some (0 : Int32)
def f_P_leastAtGate_b9 (c_width : Int32) (c_rest : (Nat → Int32)) (v1 : Int32) (v2 : Int32) : Option ((Int32 × Int32) ⊕ Int32) :=
  (f_P_length c_width).bind fun x2 =>
  if x2 ≤ v2 then
    some (.inr v1)
  else
    (f_P_cellIn (0 : Int32) v2 c_width).bind fun x3 =>
    (rd c_rest 36 x3).bind fun x4 =>
    some (.inl ((imin v1 x4), (v2 + (1 : Int32))))
def f_P_leastAtGate_l9 (c_width : Int32) (c_rest : (Nat → Int32)) (v1 : Int32) (v2 : Int32) : Option Int32 :=
  iter (fun s => f_P_leastAtGate_b9 c_width c_rest s.1 s.2) FUEL (v1, v2)
def f_P_leastAtGate (c_width : Int32) (c_rest : (Nat → Int32)) : Option Int32 :=
  (rd c_rest 36 (0 : Int32)).bind fun x1 =>
  (f_P_leastAtGate_l9 c_width c_rest x1 (1 : Int32)).bind fun x5 =>
  some x5
def f_P_keepFirst_b29 (v3 : Int32) (v5 : Int32) (v6 : Int32) (c_width : Int32) (c_rest : (Nat → Int32)) (v7 : Int32) : Option (Int32 ⊕ Int32) :=
  if v5 ≤ v7 then
    some (.inr v7)
  else
    (f_P_cellIn v6 v7 c_width).bind fun x3 =>
    (rd c_rest 36 x3).bind fun x4 =>
    if x4 ≤ v3 then
      some (.inr v7)
    else
      some (.inl (v7 + (1 : Int32)))
def f_P_keepFirst_l29 (v3 : Int32) (v5 : Int32) (v6 : Int32) (c_width : Int32) (c_rest : (Nat → Int32)) (v7 : Int32) : Option Int32 :=
  iter (fun s => f_P_keepFirst_b29 v3 v5 v6 c_width c_rest s) FUEL v7
def f_P_keepFirst_j94 (v6 : Int32) (v7 : Int32) (t0 : Int32) (t1 : Int32) (c_width : Int32) (c_way : (Nat → Int32)) : Option ((Int32 × Int32 × Int32 × Int32 × (Nat → Int32)) ⊕ (Nat → Int32)) :=
  (f_P_length c_width).bind fun x8 =>
  some (.inl ((t0 - t1), (imax (0 : Int32) (v7 - (1 : Int32))), (imin (x8 - (1 : Int32)) (v7 + (1 : Int32))), (v6 + (1 : Int32)), c_way))
def f_P_keepFirst_b16 (v2 : Int32) (c_width : Int32) (c_steps : (Nat → Int32)) (c_rest : (Nat → Int32)) (v3 : Int32) (v4 : Int32) (v5 : Int32) (v6 : Int32) (c_way : (Nat → Int32)) : Option ((Int32 × Int32 × Int32 × Int32 × (Nat → Int32)) ⊕ (Nat → Int32)) :=
  (f_P_length c_width).bind fun x2 =>
  if x2 ≤ v6 then
    some (.inr c_way)
  else
    (f_P_keepFirst_l29 v3 v5 v6 c_width c_rest v4).bind fun x5 =>
    (f_P_cellIn v6 x5 c_width).bind fun x6 =>
    (wr c_way 6 v6 x6).bind fun x7 =>
    if v2 = 0 then
      f_P_keepFirst_j94 v6 x5 v3 (0 : Int32) c_width x7
    else
      (rd c_steps 36 x6).bind fun x9 =>
      f_P_keepFirst_j94 v6 x5 v3 x9 c_width x7
def f_P_keepFirst_l16 (v2 : Int32) (c_width : Int32) (c_steps : (Nat → Int32)) (c_rest : (Nat → Int32)) (v3 : Int32) (v4 : Int32) (v5 : Int32) (v6 : Int32) (c_way : (Nat → Int32)) : Option (Nat → Int32) :=
  iter (fun s => f_P_keepFirst_b16 v2 c_width c_steps c_rest s.1 s.2.1 s.2.2.1 s.2.2.2.1 s.2.2.2.2) FUEL (v3, v4, v5, v6, c_way)
def f_P_keepFirst (v1 : Int32) (v2 : Int32) (c_width : Int32) (c_steps : (Nat → Int32)) (c_rest : (Nat → Int32)) (c_way : (Nat → Int32)) : Option (Nat → Int32) :=
  (f_P_length c_width).bind fun x1 =>
  (f_P_keepFirst_l16 v2 c_width c_steps c_rest v1 (0 : Int32) (x1 - (1 : Int32)) (0 : Int32) c_way).bind fun x10 =>
  some x10
def f_P_leastTogether_b13 (v1 : Int32) (c_width : Int32) (c_steps : (Nat → Int32)) (v2 : Int32) (c_rest : (Nat → Int32)) : Option ((Int32 × (Nat → Int32)) ⊕ (Nat → Int32)) :=
  (f_P_length c_width).bind fun x2 =>
  if x2 ≤ v2 then
    some (.inr c_rest)
  else
    (f_P_cellIn v1 v2 c_width).bind fun x3 =>
    (rd c_steps 36 x3).bind fun x4 =>
    (f_P_leastBehind v1 v2 c_width c_rest).bind fun x5 =>
    (wr c_rest 36 x3 (x4 + x5)).bind fun x6 =>
    some (.inl ((v2 + (1 : Int32)), x6))
def f_P_leastTogether_l13 (v1 : Int32) (c_width : Int32) (c_steps : (Nat → Int32)) (v2 : Int32) (c_rest : (Nat → Int32)) : Option (Nat → Int32) :=
  iter (fun s => f_P_leastTogether_b13 v1 c_width c_steps s.1 s.2) FUEL (v2, c_rest)
def f_P_leastTogether_b7 (c_width : Int32) (c_steps : (Nat → Int32)) (v1 : Int32) (c_rest : (Nat → Int32)) : Option ((Int32 × (Nat → Int32)) ⊕ (Nat → Int32)) :=
  if v1 < 0 then
    some (.inr c_rest)
  else
    (f_P_leastTogether_l13 v1 c_width c_steps (0 : Int32) c_rest).bind fun x7 =>
    some (.inl ((v1 + (-1 : Int32)), x7))
def f_P_leastTogether_l7 (c_width : Int32) (c_steps : (Nat → Int32)) (v1 : Int32) (c_rest : (Nat → Int32)) : Option (Nat → Int32) :=
  iter (fun s => f_P_leastTogether_b7 c_width c_steps s.1 s.2) FUEL (v1, c_rest)
def f_P_leastTogether (c_width : Int32) (c_steps : (Nat → Int32)) (c_rest : (Nat → Int32)) (c_way : (Nat → Int32)) : Option (Int32 × (Nat → Int32) × (Nat → Int32)) :=
  (f_P_length c_width).bind fun x1 =>
  (f_P_leastTogether_l7 c_width c_steps (x1 - (1 : Int32)) c_rest).bind fun x8 =>
  (f_P_leastAtGate c_width x8).bind fun x9 =>
  (f_P_keepFirst x9 (1 : Int32) c_width c_steps x8 c_way).bind fun x10 =>
  some (x9, x8, x10)
def f_M_leastOf (v1 : Int32) (c_now_width : Int32) (c_now_rain : Int32) (c_now_stones : (Nat → Int32)) (c_now_kinds : (Nat → Int32)) (c_now_weights : (Nat → Int32)) (c_paths_width : Int32) (c_paths_steps : (Nat → Int32)) (c_paths_rest : (Nat → Int32)) (c_paths_way : (Nat → Int32)) : Option (Int32 × Int32 × (Nat → Int32) × (Nat → Int32) × (Nat → Int32)) :=
  (f_M_layCrunches v1 (1 : Int32) c_now_width c_now_rain c_now_stones c_now_kinds c_now_weights c_paths_width c_paths_steps).bind fun x1 =>
  (f_P_leastTogether x1.1 x1.2 c_paths_rest c_paths_way).bind fun x2 =>
  some (x2.1, x1.1, x1.2, x2.2.1, x2.2.2)
def f_P_cellOnWay (v1 : Int32) (c_way : (Nat → Int32)) : Option Int32 :=
  (f_M_isWithin v1 (0 : Int32) (5 : Int32)).bind fun x1 =>
  if x1 = 0 then
    some (-1 : Int32)
  else
    (rd c_way 6 v1).bind fun x2 =>
    some x2
def f_M_quietest_j16 (c_paths_width : Int32) (c_paths_steps : (Nat → Int32)) (c_paths_rest : (Nat → Int32)) (c_paths_way : (Nat → Int32)) (c_refusals : (Nat → Int32)) : Option (Int32 × Int32 × (Nat → Int32) × (Nat → Int32) × (Nat → Int32) × (Nat → Int32)) :=
  (f_M_refuse (-2 : Int32) c_refusals).bind fun x2 =>
  some (x2.1, c_paths_width, c_paths_steps, c_paths_rest, c_paths_way, x2.2)
def f_M_quietest (v1 : Int32) (v2 : Int32) (c_now_width : Int32) (c_now_rain : Int32) (c_now_walkers : Int32) (c_now_stones : (Nat → Int32)) (c_now_kinds : (Nat → Int32)) (c_now_weights : (Nat → Int32)) (c_paths_width : Int32) (c_paths_steps : (Nat → Int32)) (c_paths_rest : (Nat → Int32)) (c_paths_way : (Nat → Int32)) (c_refusals : (Nat → Int32)) : Option (Int32 × Int32 × (Nat → Int32) × (Nat → Int32) × (Nat → Int32) × (Nat → Int32)) :=
  (f_M_isFeet v1 c_now_walkers).bind fun x1 =>
  if x1 = 0 then
    f_M_quietest_j16 c_paths_width c_paths_steps c_paths_rest c_paths_way c_refusals
  else
    (f_M_isStepOrNone v2 c_now_width).bind fun x3 =>
    if x3 = 0 then
      f_M_quietest_j16 c_paths_width c_paths_steps c_paths_rest c_paths_way c_refusals
    else
      (f_M_leastOf v1 c_now_width c_now_rain c_now_stones c_now_kinds c_now_weights c_paths_width c_paths_steps c_paths_rest c_paths_way).bind fun x4 =>
      if v2 = (-1 : Int32) then
        some (x4.1, x4.2.1, x4.2.2.1, x4.2.2.2.1, x4.2.2.2.2, c_refusals)
      else
        (f_P_cellOnWay v2 x4.2.2.2.2).bind fun x5 =>
        some (x5, x4.2.1, x4.2.2.1, x4.2.2.2.1, x4.2.2.2.2, c_refusals)
def f_P_leastGreatest_b13 (v1 : Int32) (c_width : Int32) (c_steps : (Nat → Int32)) (v2 : Int32) (c_rest : (Nat → Int32)) : Option ((Int32 × (Nat → Int32)) ⊕ (Nat → Int32)) :=
  (f_P_length c_width).bind fun x2 =>
  if x2 ≤ v2 then
    some (.inr c_rest)
  else
    (f_P_cellIn v1 v2 c_width).bind fun x3 =>
    (rd c_steps 36 x3).bind fun x4 =>
    (f_P_leastBehind v1 v2 c_width c_rest).bind fun x5 =>
    (wr c_rest 36 x3 (imax x4 x5)).bind fun x6 =>
    some (.inl ((v2 + (1 : Int32)), x6))
def f_P_leastGreatest_l13 (v1 : Int32) (c_width : Int32) (c_steps : (Nat → Int32)) (v2 : Int32) (c_rest : (Nat → Int32)) : Option (Nat → Int32) :=
  iter (fun s => f_P_leastGreatest_b13 v1 c_width c_steps s.1 s.2) FUEL (v2, c_rest)
def f_P_leastGreatest_b7 (c_width : Int32) (c_steps : (Nat → Int32)) (v1 : Int32) (c_rest : (Nat → Int32)) : Option ((Int32 × (Nat → Int32)) ⊕ (Nat → Int32)) :=
  if v1 < 0 then
    some (.inr c_rest)
  else
    (f_P_leastGreatest_l13 v1 c_width c_steps (0 : Int32) c_rest).bind fun x7 =>
    some (.inl ((v1 + (-1 : Int32)), x7))
def f_P_leastGreatest_l7 (c_width : Int32) (c_steps : (Nat → Int32)) (v1 : Int32) (c_rest : (Nat → Int32)) : Option (Nat → Int32) :=
  iter (fun s => f_P_leastGreatest_b7 c_width c_steps s.1 s.2) FUEL (v1, c_rest)
def f_P_leastGreatest (c_width : Int32) (c_steps : (Nat → Int32)) (c_rest : (Nat → Int32)) (c_way : (Nat → Int32)) : Option (Int32 × (Nat → Int32) × (Nat → Int32)) :=
  (f_P_length c_width).bind fun x1 =>
  (f_P_leastGreatest_l7 c_width c_steps (x1 - (1 : Int32)) c_rest).bind fun x8 =>
  (f_P_leastAtGate c_width x8).bind fun x9 =>
  (f_P_keepFirst x9 (0 : Int32) c_width c_steps x8 c_way).bind fun x10 =>
  some (x9, x8, x10)
def f_M_softest_j16 (c_paths_width : Int32) (c_paths_steps : (Nat → Int32)) (c_paths_rest : (Nat → Int32)) (c_paths_way : (Nat → Int32)) (c_refusals : (Nat → Int32)) : Option (Int32 × Int32 × (Nat → Int32) × (Nat → Int32) × (Nat → Int32) × (Nat → Int32)) :=
  (f_M_refuse (-2 : Int32) c_refusals).bind fun x2 =>
  some (x2.1, c_paths_width, c_paths_steps, c_paths_rest, c_paths_way, x2.2)
def f_M_softest (v1 : Int32) (v2 : Int32) (c_now_width : Int32) (c_now_rain : Int32) (c_now_walkers : Int32) (c_now_stones : (Nat → Int32)) (c_now_kinds : (Nat → Int32)) (c_now_weights : (Nat → Int32)) (c_paths_width : Int32) (c_paths_steps : (Nat → Int32)) (c_paths_rest : (Nat → Int32)) (c_paths_way : (Nat → Int32)) (c_refusals : (Nat → Int32)) : Option (Int32 × Int32 × (Nat → Int32) × (Nat → Int32) × (Nat → Int32) × (Nat → Int32)) :=
  (f_M_isFeet v1 c_now_walkers).bind fun x1 =>
  if x1 = 0 then
    f_M_softest_j16 c_paths_width c_paths_steps c_paths_rest c_paths_way c_refusals
  else
    (f_M_isStepOrNone v2 c_now_width).bind fun x3 =>
    if x3 = 0 then
      f_M_softest_j16 c_paths_width c_paths_steps c_paths_rest c_paths_way c_refusals
    else
      (f_M_layCrunches v1 (1 : Int32) c_now_width c_now_rain c_now_stones c_now_kinds c_now_weights c_paths_width c_paths_steps).bind fun x4 =>
      (f_P_leastGreatest x4.1 x4.2 c_paths_rest c_paths_way).bind fun x5 =>
      if v2 = (-1 : Int32) then
        some (x5.1, x4.1, x4.2, x5.2.1, x5.2.2, c_refusals)
      else
        (f_P_cellOnWay v2 x5.2.2).bind fun x6 =>
        some (x6, x4.1, x4.2, x5.2.1, x5.2.2, c_refusals)
def f_M_layHeard_j69 (v3 : Int32) (t1 : Int32) (t2 : Int32) (c_paths_steps : (Nat → Int32)) : Option ((Int32 × (Nat → Int32)) ⊕ (Nat → Int32)) :=
  (f_P_putStep t1 t2 c_paths_steps).bind fun x4 =>
  some (.inl ((v3 + (1 : Int32)), x4))
def f_M_layHeard_b16 (v1 : Int32) (v2 : Int32) (c_now_width : Int32) (c_now_ear : Int32) (c_now_stones : (Nat → Int32)) (c_now_kinds : (Nat → Int32)) (c_now_weights : (Nat → Int32)) (v3 : Int32) (c_paths_steps : (Nat → Int32)) : Option ((Int32 × (Nat → Int32)) ⊕ (Nat → Int32)) :=
  (f_D_cells c_now_width).bind fun x1 =>
  if x1 ≤ v3 then
    some (.inr c_paths_steps)
  else
    (f_D_rowOf v3 c_now_width).bind fun x2 =>
    (f_D_stepUnder v1 v3 x2 v2 c_now_stones c_now_kinds c_now_weights).bind fun x3 =>
    if x3 < c_now_ear then
      f_M_layHeard_j69 v3 v3 (0 : Int32) c_paths_steps
    else
      f_M_layHeard_j69 v3 v3 (1 : Int32) c_paths_steps
def f_M_layHeard_l16 (v1 : Int32) (v2 : Int32) (c_now_width : Int32) (c_now_ear : Int32) (c_now_stones : (Nat → Int32)) (c_now_kinds : (Nat → Int32)) (c_now_weights : (Nat → Int32)) (v3 : Int32) (c_paths_steps : (Nat → Int32)) : Option (Nat → Int32) :=
  iter (fun s => f_M_layHeard_b16 v1 v2 c_now_width c_now_ear c_now_stones c_now_kinds c_now_weights s.1 s.2) FUEL (v3, c_paths_steps)
def f_M_layHeard (v1 : Int32) (v2 : Int32) (c_now_width : Int32) (c_now_ear : Int32) (c_now_stones : (Nat → Int32)) (c_now_kinds : (Nat → Int32)) (c_now_weights : (Nat → Int32)) (c_paths_width : Int32) (c_paths_steps : (Nat → Int32)) : Option (Int32 × (Nat → Int32)) :=
  (f_M_layHeard_l16 v1 v2 c_now_width c_now_ear c_now_stones c_now_kinds c_now_weights (0 : Int32) c_paths_steps).bind fun x5 =>
  some (c_now_width, x5)
def f_P_sumBehind_b12 (v2 : Int32) (v3 : Int32) (c_width : Int32) (c_p1 : (Nat → Int32)) (v4 : Int32) (v5 : Int32) : Option ((Int32 × Int32) ⊕ Int32) :=
  (f_P_length c_width).bind fun x1 =>
  if (imin (x1 - (1 : Int32)) (v3 + (1 : Int32))) < v5 then
    some (.inr v4)
  else
    (f_P_cellIn (v2 + (1 : Int32)) v5 c_width).bind fun x2 =>
    (rd c_p1 36 x2).bind fun x3 =>
    some (.inl ((v4 + x3), (v5 + (1 : Int32))))
def f_P_sumBehind_l12 (v2 : Int32) (v3 : Int32) (c_width : Int32) (c_p1 : (Nat → Int32)) (v4 : Int32) (v5 : Int32) : Option Int32 :=
  iter (fun s => f_P_sumBehind_b12 v2 v3 c_width c_p1 s.1 s.2) FUEL (v4, v5)
def f_P_sumBehind (v2 : Int32) (v3 : Int32) (c_width : Int32) (c_p1 : (Nat → Int32)) : Option Int32 :=
  (f_P_sumBehind_l12 v2 v3 c_width c_p1 (0 : Int32) (imax (0 : Int32) (v3 - (1 : Int32)))).bind fun x4 =>
  some x4
def f_P_gateSum_b4 (c_width : Int32) (c_p1 : (Nat → Int32)) (v2 : Int32) (v3 : Int32) : Option ((Int32 × Int32) ⊕ Int32) :=
  (f_P_length c_width).bind fun x1 =>
  if x1 ≤ v3 then
    some (.inr v2)
  else
    (f_P_cellIn (0 : Int32) v3 c_width).bind fun x2 =>
    (rd c_p1 36 x2).bind fun x3 =>
    some (.inl ((v2 + x3), (v3 + (1 : Int32))))
def f_P_gateSum_l4 (c_width : Int32) (c_p1 : (Nat → Int32)) (v2 : Int32) (v3 : Int32) : Option Int32 :=
  iter (fun s => f_P_gateSum_b4 c_width c_p1 s.1 s.2) FUEL (v2, v3)
def f_P_gateSum (c_width : Int32) (c_p1 : (Nat → Int32)) : Option Int32 :=
  (f_P_gateSum_l4 c_width c_p1 (0 : Int32) (0 : Int32)).bind fun x4 =>
  some x4
def f_P_openWays_j74 (v2 : Int32) (t1 : Int32) (t2 : Int32) (c_counts : (Nat → Int32)) : Option ((Int32 × (Nat → Int32)) ⊕ (Nat → Int32)) :=
  (wr c_counts 36 t1 t2).bind fun x6 =>
  some (.inl ((v2 + (1 : Int32)), x6))
def f_P_openWays_j52 (v2 : Int32) (v3 : Int32) (t0 : Int32) (c_steps : (Nat → Int32)) (c_counts : (Nat → Int32)) : Option ((Int32 × (Nat → Int32)) ⊕ (Nat → Int32)) :=
  (rd c_steps 36 v3).bind fun x5 =>
  if x5 = 0 then
    f_P_openWays_j74 v2 v3 t0 c_counts
  else
    f_P_openWays_j74 v2 v3 (0 : Int32) c_counts
def f_P_openWays_b13 (v1 : Int32) (c_width : Int32) (c_steps : (Nat → Int32)) (v2 : Int32) (c_counts : (Nat → Int32)) : Option ((Int32 × (Nat → Int32)) ⊕ (Nat → Int32)) :=
  (f_P_length c_width).bind fun x2 =>
  if x2 ≤ v2 then
    some (.inr c_counts)
  else
    (f_P_cellIn v1 v2 c_width).bind fun x3 =>
    (f_P_length c_width).bind fun x4 =>
    if x4 ≤ (v1 + (1 : Int32)) then
      f_P_openWays_j52 v2 x3 (1 : Int32) c_steps c_counts
    else
      (f_P_sumBehind v1 v2 c_width c_counts).bind fun x7 =>
      f_P_openWays_j52 v2 x3 x7 c_steps c_counts
def f_P_openWays_l13 (v1 : Int32) (c_width : Int32) (c_steps : (Nat → Int32)) (v2 : Int32) (c_counts : (Nat → Int32)) : Option (Nat → Int32) :=
  iter (fun s => f_P_openWays_b13 v1 c_width c_steps s.1 s.2) FUEL (v2, c_counts)
def f_P_openWays_b7 (c_width : Int32) (c_steps : (Nat → Int32)) (v1 : Int32) (c_counts : (Nat → Int32)) : Option ((Int32 × (Nat → Int32)) ⊕ (Nat → Int32)) :=
  if v1 < 0 then
    some (.inr c_counts)
  else
    (f_P_openWays_l13 v1 c_width c_steps (0 : Int32) c_counts).bind fun x8 =>
    some (.inl ((v1 + (-1 : Int32)), x8))
def f_P_openWays_l7 (c_width : Int32) (c_steps : (Nat → Int32)) (v1 : Int32) (c_counts : (Nat → Int32)) : Option (Nat → Int32) :=
  iter (fun s => f_P_openWays_b7 c_width c_steps s.1 s.2) FUEL (v1, c_counts)
def f_P_openWays (c_width : Int32) (c_steps : (Nat → Int32)) (c_counts : (Nat → Int32)) : Option (Int32 × (Nat → Int32)) :=
  (f_P_length c_width).bind fun x1 =>
  (f_P_openWays_l7 c_width c_steps (x1 - (1 : Int32)) c_counts).bind fun x9 =>
  (f_P_gateSum c_width x9).bind fun x10 =>
  some (x10, x9)
def f_M_toldOfOpenWays (v1 : Int32) (c_paths_width : Int32) (c_paths_steps : (Nat → Int32)) (c_paths_rest : (Nat → Int32)) (c_paths_counts : (Nat → Int32)) (c_paths_way : (Nat → Int32)) (c_refusals : (Nat → Int32)) : Option (Int32 × (Nat → Int32) × (Nat → Int32) × (Nat → Int32) × (Nat → Int32)) :=
  if v1 = (-1 : Int32) then
    (f_P_openWays c_paths_width c_paths_steps c_paths_counts).bind fun x4 =>
    some (x4.1, c_paths_rest, x4.2, c_paths_way, c_refusals)
  else
    (f_P_leastTogether c_paths_width c_paths_steps c_paths_rest c_paths_way).bind fun x1 =>
    if x1.1 = 0 then
      (f_P_cellOnWay v1 x1.2.2).bind fun x3 =>
      some (x3, x1.2.1, c_paths_counts, x1.2.2, c_refusals)
    else
      (f_M_refuse (-5 : Int32) c_refusals).bind fun x2 =>
      some (x2.1, x1.2.1, c_paths_counts, x1.2.2, x2.2)
def f_M_unheard_j16 (c_paths_width : Int32) (c_paths_steps : (Nat → Int32)) (c_paths_rest : (Nat → Int32)) (c_paths_counts : (Nat → Int32)) (c_paths_way : (Nat → Int32)) (c_refusals : (Nat → Int32)) : Option (Int32 × Int32 × (Nat → Int32) × (Nat → Int32) × (Nat → Int32) × (Nat → Int32) × (Nat → Int32)) :=
  (f_M_refuse (-2 : Int32) c_refusals).bind fun x2 =>
  some (x2.1, c_paths_width, c_paths_steps, c_paths_rest, c_paths_counts, c_paths_way, x2.2)
def f_M_unheard (v1 : Int32) (v2 : Int32) (c_now_width : Int32) (c_now_rain : Int32) (c_now_ear : Int32) (c_now_walkers : Int32) (c_now_stones : (Nat → Int32)) (c_now_kinds : (Nat → Int32)) (c_now_weights : (Nat → Int32)) (c_paths_width : Int32) (c_paths_steps : (Nat → Int32)) (c_paths_rest : (Nat → Int32)) (c_paths_counts : (Nat → Int32)) (c_paths_way : (Nat → Int32)) (c_refusals : (Nat → Int32)) : Option (Int32 × Int32 × (Nat → Int32) × (Nat → Int32) × (Nat → Int32) × (Nat → Int32) × (Nat → Int32)) :=
  (f_M_isFeet v1 c_now_walkers).bind fun x1 =>
  if x1 = 0 then
    f_M_unheard_j16 c_paths_width c_paths_steps c_paths_rest c_paths_counts c_paths_way c_refusals
  else
    (f_M_isStepOrNone v2 c_now_width).bind fun x3 =>
    if x3 = 0 then
      f_M_unheard_j16 c_paths_width c_paths_steps c_paths_rest c_paths_counts c_paths_way c_refusals
    else
      (f_M_layHeard v1 c_now_rain c_now_width c_now_ear c_now_stones c_now_kinds c_now_weights c_paths_width c_paths_steps).bind fun x4 =>
      (f_M_toldOfOpenWays v2 x4.1 x4.2 c_paths_rest c_paths_counts c_paths_way c_refusals).bind fun x5 =>
      some (x5.1, x4.1, x4.2, x5.2.1, x5.2.2.1, x5.2.2.2.1, x5.2.2.2.2)
def f_P_markOpen_b14 (v1 : Int32) (c_width : Int32) (c_steps : (Nat → Int32)) (v2 : Int32) (v3 : Int32) : Option ((Int32 × Int32) ⊕ Int32) :=
  (f_P_length c_width).bind fun x2 =>
  if x2 ≤ v3 then
    some (.inr v2)
  else
    (f_P_cellIn v1 v3 c_width).bind fun x3 =>
    (rd c_steps 36 x3).bind fun x4 =>
    if x4 = 0 then
      some (.inl ((v2 ||| ((1 : Int32) <<< (v3 &&& 31))), (v3 + (1 : Int32))))
    else
      some (.inl ((v2 ||| (0 : Int32)), (v3 + (1 : Int32))))
def f_P_markOpen_l14 (v1 : Int32) (c_width : Int32) (c_steps : (Nat → Int32)) (v2 : Int32) (v3 : Int32) : Option Int32 :=
  iter (fun s => f_P_markOpen_b14 v1 c_width c_steps s.1 s.2) FUEL (v2, v3)
def f_P_markOpen_b2 (c_width : Int32) (c_steps : (Nat → Int32)) (v1 : Int32) (c_open : (Nat → Int32)) : Option ((Int32 × (Nat → Int32)) ⊕ (Nat → Int32)) :=
  (f_P_length c_width).bind fun x1 =>
  if x1 ≤ v1 then
    some (.inr c_open)
  else
    (f_P_markOpen_l14 v1 c_width c_steps (0 : Int32) (0 : Int32)).bind fun x5 =>
    (wr c_open 6 v1 x5).bind fun x6 =>
    some (.inl ((v1 + (1 : Int32)), x6))
def f_P_markOpen_l2 (c_width : Int32) (c_steps : (Nat → Int32)) (v1 : Int32) (c_open : (Nat → Int32)) : Option (Nat → Int32) :=
  iter (fun s => f_P_markOpen_b2 c_width c_steps s.1 s.2) FUEL (v1, c_open)
def f_P_markOpen (c_width : Int32) (c_steps : (Nat → Int32)) (c_open : (Nat → Int32)) : Option (Nat → Int32) :=
  (f_P_markOpen_l2 c_width c_steps (0 : Int32) c_open).bind fun x7 =>
  some x7
def f_P_stepOn (v1 : Int32) (c_steps : (Nat → Int32)) : Option Int32 :=
  (f_M_isWithin v1 (0 : Int32) (35 : Int32)).bind fun x1 =>
  if x1 = 0 then
    some (0 : Int32)
  else
    (rd c_steps 36 v1).bind fun x2 =>
    some x2
def f_D_raisedStep (v1 : Int32) (v2 : Int32) (c_width : Int32) (c_rain : Int32) (c_kinds : (Nat → Int32)) (c_weights : (Nat → Int32)) : Option Int32 :=
  (f_D_kindOf v1 c_kinds).bind fun x1 =>
  (f_D_weightOf v1 c_weights).bind fun x2 =>
  (f_D_rowOf v2 c_width).bind fun x3 =>
  (f_D_stepBy x1 x2 (imax (0 : Int32) ((9 : Int32) - c_rain)) x3).bind fun x4 =>
  some x4
def f_P_markTurnable (v1 : Int32) (v2 : Int32) (c_turnable : (Nat → Int32)) : Option (Nat → Int32) :=
  (f_M_isWithin v1 (0 : Int32) (35 : Int32)).bind fun x1 =>
  if x1 = 0 then
    some c_turnable
  else
    (wr c_turnable 36 v1 (vp_nar .boolean v2)).bind fun x2 =>
    some x2
def f_P_isPassable_b9 (c_width : Int32) (c_open : (Nat → Int32)) (v1 : Int32) (v2 : Int32) : Option ((Int32 × Int32) ⊕ Int32) :=
  (f_P_length c_width).bind fun x2 =>
  if x2 ≤ v2 then
    some (.inr v1)
  else
    (rd c_open 6 v2).bind fun x3 =>
    some (.inl ((((v1 ||| (v1 <<< ((1 : Int32) &&& 31))) ||| (v1 >>> ((1 : Int32) &&& 31))) &&& x3), (v2 + (1 : Int32))))
def f_P_isPassable_l9 (c_width : Int32) (c_open : (Nat → Int32)) (v1 : Int32) (v2 : Int32) : Option Int32 :=
  iter (fun s => f_P_isPassable_b9 c_width c_open s.1 s.2) FUEL (v1, v2)
def f_P_isPassable (c_width : Int32) (c_open : (Nat → Int32)) : Option Int32 :=
  (rd c_open 6 (0 : Int32)).bind fun x1 =>
  (f_P_isPassable_l9 c_width c_open x1 (1 : Int32)).bind fun x4 =>
  if x4 = 0 then
    some (0 : Int32)
  else
    some (1 : Int32)
def f_P_turn_j17 (v1 : Int32) (t0 : Int32) (c_width : Int32) (c_open : (Nat → Int32)) : Option (Nat → Int32) :=
  (f_M_isWithin t0 (0 : Int32) (5 : Int32)).bind fun x2 =>
  if x2 = 0 then
    some c_open
  else
    (rd c_open 6 t0).bind fun x3 =>
    (f_P_length c_width).bind fun x4 =>
    (wr c_open 6 t0 (x3 ^^^ ((1 : Int32) <<< ((v1 - (t0 * x4)) &&& 31)))).bind fun x5 =>
    some x5
def f_P_turn (v1 : Int32) (c_width : Int32) (c_open : (Nat → Int32)) : Option (Nat → Int32) :=
  (f_P_length c_width).bind fun x1 =>
  if x1 ≤ 0 then
    f_P_turn_j17 v1 (0 : Int32) c_width c_open
  else
    (f_P_length c_width).bind fun x6 =>
    (dv v1 x6).bind fun x7 =>
    f_P_turn_j17 v1 x7 c_width c_open
def f_P_firstTurned_j47 (v3 : Int32) (t0 : Int32) (c_width : Int32) (c_open : (Nat → Int32)) : Option ((Int32 × (Nat → Int32)) ⊕ ((Int32 × (Nat → Int32)) ⊕ (Nat → Int32))) :=
  (f_P_turn v3 c_width c_open).bind fun x7 =>
  if t0 = 0 then
    some (.inl ((v3 + (1 : Int32)), x7))
  else
    some (.inr (.inl (v3, x7)))
def f_P_firstTurned_b2 (v2 : Int32) (c_width : Int32) (c_turnable : (Nat → Int32)) (v3 : Int32) (c_open : (Nat → Int32)) : Option ((Int32 × (Nat → Int32)) ⊕ ((Int32 × (Nat → Int32)) ⊕ (Nat → Int32))) :=
  (f_P_length c_width).bind fun x1 =>
  (f_P_length c_width).bind fun x2 =>
  if (x1 * x2) ≤ v3 then
    some (.inr (.inr c_open))
  else
    (f_P_cellIn (0 : Int32) v3 c_width).bind fun x3 =>
    (rd c_turnable 36 x3).bind fun x4 =>
    if x4 = 0 then
      some (.inl ((v3 + (1 : Int32)), c_open))
    else
      (f_P_turn v3 c_width c_open).bind fun x5 =>
      (f_P_isPassable c_width x5).bind fun x6 =>
      if x6 = v2 then
        f_P_firstTurned_j47 v3 (1 : Int32) c_width x5
      else
        f_P_firstTurned_j47 v3 (0 : Int32) c_width x5
def f_P_firstTurned_l2 (v2 : Int32) (c_width : Int32) (c_turnable : (Nat → Int32)) (v3 : Int32) (c_open : (Nat → Int32)) : Option ((Int32 × (Nat → Int32)) ⊕ (Nat → Int32)) :=
  iter (fun s => f_P_firstTurned_b2 v2 c_width c_turnable s.1 s.2) FUEL (v3, c_open)
def f_P_firstTurned (v1 : Int32) (v2 : Int32) (c_width : Int32) (c_open : (Nat → Int32)) (c_turnable : (Nat → Int32)) : Option (Int32 × (Nat → Int32)) :=
  (f_P_firstTurned_l2 v2 c_width c_turnable v1 c_open).bind fun x8 =>
  Sum.elim (fun x9 =>
    some (x9.1, x9.2))
  (fun x10 =>
    some ((-1 : Int32), x10)) x8
def f_P_fewestTurned_b36 (v1 : Int32) (c_width : Int32) (c_turnable : (Nat → Int32)) (v2 : Int32) (c_open : (Nat → Int32)) (c_turned : (Nat → Int32)) : Option ((Int32 × (Nat → Int32) × (Nat → Int32)) ⊕ ((Int32 × (Nat → Int32) × (Nat → Int32)) ⊕ ((Nat → Int32) × (Nat → Int32)))) :=
  (f_P_length c_width).bind fun x5 =>
  (f_P_length c_width).bind fun x6 =>
  if (x5 * x6) ≤ v2 then
    some (.inr (.inr (c_open, c_turned)))
  else
    (f_P_cellIn (0 : Int32) v2 c_width).bind fun x7 =>
    (rd c_turnable 36 x7).bind fun x8 =>
    if x8 = 0 then
      some (.inl ((v2 + (1 : Int32)), c_open, c_turned))
    else
      (f_P_turn v2 c_width c_open).bind fun x9 =>
      (f_P_firstTurned (v2 + (1 : Int32)) v1 c_width x9 c_turnable).bind fun x10 =>
      (wr c_turned 2 (1 : Int32) x10.1).bind fun x11 =>
      (f_P_turn v2 c_width x10.2).bind fun x12 =>
      (rd x11 2 (1 : Int32)).bind fun x13 =>
      if x13 = (-1 : Int32) then
        some (.inl ((v2 + (1 : Int32)), x12, x11))
      else
        some (.inr (.inl (v2, x12, x11)))
def f_P_fewestTurned_l36 (v1 : Int32) (c_width : Int32) (c_turnable : (Nat → Int32)) (v2 : Int32) (c_open : (Nat → Int32)) (c_turned : (Nat → Int32)) : Option ((Int32 × (Nat → Int32) × (Nat → Int32)) ⊕ ((Nat → Int32) × (Nat → Int32))) :=
  iter (fun s => f_P_fewestTurned_b36 v1 c_width c_turnable s.1 s.2.1 s.2.2) FUEL (v2, c_open, c_turned)
def f_P_fewestTurned (v1 : Int32) (c_width : Int32) (c_open : (Nat → Int32)) (c_turnable : (Nat → Int32)) (c_turned : (Nat → Int32)) : Option (Int32 × (Nat → Int32) × (Nat → Int32)) :=
  (f_P_isPassable c_width c_open).bind fun x1 =>
  if x1 = v1 then
    some ((0 : Int32), c_open, c_turned)
  else
    (f_P_firstTurned (0 : Int32) v1 c_width c_open c_turnable).bind fun x2 =>
    (wr c_turned 2 (0 : Int32) x2.1).bind fun x3 =>
    (rd x3 2 (0 : Int32)).bind fun x4 =>
    if x4 = (-1 : Int32) then
      (f_P_fewestTurned_l36 v1 c_width c_turnable (0 : Int32) x2.2 x3).bind fun x14 =>
      Sum.elim (fun x15 =>
        (wr x15.2.2 2 (0 : Int32) x15.1).bind fun x17 =>
        some ((2 : Int32), x15.2.1, x17))
      (fun x16 =>
        some ((-1 : Int32), x16.1, x16.2)) x14
    else
      some ((1 : Int32), x2.2, x3)
def f_P_turnedCell (v1 : Int32) (c_turned : (Nat → Int32)) : Option Int32 :=
  (f_M_isWithin v1 (0 : Int32) (1 : Int32)).bind fun x1 =>
  if x1 = 0 then
    some (-1 : Int32)
  else
    (rd c_turned 2 v1).bind fun x2 =>
    some x2
def f_M_toldOfFewest (v1 : Int32) (v2 : Int32) (c_paths_turned : (Nat → Int32)) (c_refusals : (Nat → Int32)) : Option (Int32 × (Nat → Int32)) :=
  if v2 = (-1 : Int32) then
    some (v1, c_refusals)
  else
    if v1 ≤ v2 then
      (f_M_refuse (-5 : Int32) c_refusals).bind fun x1 =>
      some (x1.1, x1.2)
    else
      (f_P_turnedCell v2 c_paths_turned).bind fun x2 =>
      some (x2, c_refusals)
def f_M_raked_j13 (c_paths_width : Int32) (c_paths_steps : (Nat → Int32)) (c_paths_open : (Nat → Int32)) (c_paths_turnable : (Nat → Int32)) (c_paths_turned : (Nat → Int32)) (c_refusals : (Nat → Int32)) : Option (Int32 × Int32 × (Nat → Int32) × (Nat → Int32) × (Nat → Int32) × (Nat → Int32) × (Nat → Int32)) :=
  (f_M_refuse (-2 : Int32) c_refusals).bind fun x2 =>
  some (x2.1, c_paths_width, c_paths_steps, c_paths_open, c_paths_turnable, c_paths_turned, x2.2)
def f_M_raked_j92 (v3 : Int32) (t1 : Int32) (t2 : Int32) (c_paths_turnable : (Nat → Int32)) : Option ((Int32 × (Nat → Int32)) ⊕ (Nat → Int32)) :=
  (f_P_markTurnable t1 t2 c_paths_turnable).bind fun x7 =>
  some (.inl ((v3 + (1 : Int32)), x7))
def f_M_raked_j91 (v3 : Int32) (t1 : Int32) (c_paths_turnable : (Nat → Int32)) : Option ((Int32 × (Nat → Int32)) ⊕ (Nat → Int32)) :=
  f_M_raked_j92 v3 t1 (0 : Int32) c_paths_turnable
def f_M_raked_b41 (v1 : Int32) (c_now_width : Int32) (c_now_rain : Int32) (c_now_ear : Int32) (c_now_kinds : (Nat → Int32)) (c_now_weights : (Nat → Int32)) (c_paths_steps : (Nat → Int32)) (v3 : Int32) (c_paths_turnable : (Nat → Int32)) : Option ((Int32 × (Nat → Int32)) ⊕ (Nat → Int32)) :=
  (f_D_cells c_now_width).bind fun x5 =>
  if x5 ≤ v3 then
    some (.inr c_paths_turnable)
  else
    (f_P_stepOn v3 c_paths_steps).bind fun x6 =>
    if x6 = 0 then
      (f_D_raisedStep v1 v3 c_now_width c_now_rain c_now_kinds c_now_weights).bind fun x8 =>
      if x8 < c_now_ear then
        f_M_raked_j91 v3 v3 c_paths_turnable
      else
        f_M_raked_j92 v3 v3 (1 : Int32) c_paths_turnable
    else
      f_M_raked_j91 v3 v3 c_paths_turnable
def f_M_raked_l41 (v1 : Int32) (c_now_width : Int32) (c_now_rain : Int32) (c_now_ear : Int32) (c_now_kinds : (Nat → Int32)) (c_now_weights : (Nat → Int32)) (c_paths_steps : (Nat → Int32)) (v3 : Int32) (c_paths_turnable : (Nat → Int32)) : Option (Nat → Int32) :=
  iter (fun s => f_M_raked_b41 v1 c_now_width c_now_rain c_now_ear c_now_kinds c_now_weights c_paths_steps s.1 s.2) FUEL (v3, c_paths_turnable)
def f_M_raked (v1 : Int32) (v2 : Int32) (c_now_width : Int32) (c_now_rain : Int32) (c_now_ear : Int32) (c_now_walkers : Int32) (c_now_stones : (Nat → Int32)) (c_now_kinds : (Nat → Int32)) (c_now_weights : (Nat → Int32)) (c_paths_width : Int32) (c_paths_steps : (Nat → Int32)) (c_paths_open : (Nat → Int32)) (c_paths_turnable : (Nat → Int32)) (c_paths_turned : (Nat → Int32)) (c_refusals : (Nat → Int32)) : Option (Int32 × Int32 × (Nat → Int32) × (Nat → Int32) × (Nat → Int32) × (Nat → Int32) × (Nat → Int32)) :=
  (f_M_isFeet v1 c_now_walkers).bind fun x1 =>
  if x1 = 0 then
    f_M_raked_j13 c_paths_width c_paths_steps c_paths_open c_paths_turnable c_paths_turned c_refusals
  else
    if (-1 : Int32) ≤ v2 then
      (f_M_layHeard v1 c_now_rain c_now_width c_now_ear c_now_stones c_now_kinds c_now_weights c_paths_width c_paths_steps).bind fun x3 =>
      (f_P_markOpen x3.1 x3.2 c_paths_open).bind fun x4 =>
      (f_M_raked_l41 v1 c_now_width c_now_rain c_now_ear c_now_kinds c_now_weights x3.2 (0 : Int32) c_paths_turnable).bind fun x9 =>
      (f_P_fewestTurned (0 : Int32) x3.1 x4 x9 c_paths_turned).bind fun x10 =>
      (f_M_toldOfFewest x10.1 v2 x10.2.2 c_refusals).bind fun x11 =>
      some (x11.1, x3.1, x3.2, x10.2.1, x9, x10.2.2, x11.2)
    else
      f_M_raked_j13 c_paths_width c_paths_steps c_paths_open c_paths_turnable c_paths_turned c_refusals
def f_M_loudest_j16 (c_paths_width : Int32) (c_paths_steps : (Nat → Int32)) (c_paths_rest : (Nat → Int32)) (c_paths_way : (Nat → Int32)) (c_refusals : (Nat → Int32)) : Option (Int32 × Int32 × (Nat → Int32) × (Nat → Int32) × (Nat → Int32) × (Nat → Int32)) :=
  (f_M_refuse (-2 : Int32) c_refusals).bind fun x2 =>
  some (x2.1, c_paths_width, c_paths_steps, c_paths_rest, c_paths_way, x2.2)
def f_M_loudest (v1 : Int32) (v2 : Int32) (c_now_width : Int32) (c_now_rain : Int32) (c_now_walkers : Int32) (c_now_stones : (Nat → Int32)) (c_now_kinds : (Nat → Int32)) (c_now_weights : (Nat → Int32)) (c_paths_width : Int32) (c_paths_steps : (Nat → Int32)) (c_paths_rest : (Nat → Int32)) (c_paths_way : (Nat → Int32)) (c_refusals : (Nat → Int32)) : Option (Int32 × Int32 × (Nat → Int32) × (Nat → Int32) × (Nat → Int32) × (Nat → Int32)) :=
  (f_M_isFeet v1 c_now_walkers).bind fun x1 =>
  if x1 = 0 then
    f_M_loudest_j16 c_paths_width c_paths_steps c_paths_rest c_paths_way c_refusals
  else
    (f_M_isStepOrNone v2 c_now_width).bind fun x3 =>
    if x3 = 0 then
      f_M_loudest_j16 c_paths_width c_paths_steps c_paths_rest c_paths_way c_refusals
    else
      (f_M_layCrunches v1 (-1 : Int32) c_now_width c_now_rain c_now_stones c_now_kinds c_now_weights c_paths_width c_paths_steps).bind fun x4 =>
      (f_P_leastTogether x4.1 x4.2 c_paths_rest c_paths_way).bind fun x5 =>
      if v2 = (-1 : Int32) then
        some ((-x5.1), x4.1, x4.2, x5.2.1, x5.2.2, c_refusals)
      else
        (f_P_cellOnWay v2 x5.2.2).bind fun x6 =>
        some (x6, x4.1, x4.2, x5.2.1, x5.2.2, c_refusals)
def f_M_layNothing_b16 (c_now_width : Int32) (v1 : Int32) (c_paths_steps : (Nat → Int32)) : Option ((Int32 × (Nat → Int32)) ⊕ (Nat → Int32)) :=
  (f_D_cells c_now_width).bind fun x1 =>
  if x1 ≤ v1 then
    some (.inr c_paths_steps)
  else
    (f_P_putStep v1 (0 : Int32) c_paths_steps).bind fun x2 =>
    some (.inl ((v1 + (1 : Int32)), x2))
def f_M_layNothing_l16 (c_now_width : Int32) (v1 : Int32) (c_paths_steps : (Nat → Int32)) : Option (Nat → Int32) :=
  iter (fun s => f_M_layNothing_b16 c_now_width s.1 s.2) FUEL (v1, c_paths_steps)
def f_M_layNothing (c_now_width : Int32) (c_paths_width : Int32) (c_paths_steps : (Nat → Int32)) : Option (Int32 × (Nat → Int32)) :=
  (f_M_layNothing_l16 c_now_width (0 : Int32) c_paths_steps).bind fun x3 =>
  some (c_now_width, x3)
def f_M_ways (c_now_width : Int32) (c_paths_width : Int32) (c_paths_steps : (Nat → Int32)) (c_paths_counts : (Nat → Int32)) : Option (Int32 × Int32 × (Nat → Int32) × (Nat → Int32)) :=
  (f_M_layNothing c_now_width c_paths_width c_paths_steps).bind fun x1 =>
  (f_P_openWays x1.1 x1.2 c_paths_counts).bind fun x2 =>
  some (x2.1, x1.1, x1.2, x2.2)
def f_D_columnOf (v1 : Int32) (c_width : Int32) : Option Int32 :=
  if c_width ≤ 0 then
    some (0 : Int32)
  else
    (rm v1 c_width).bind fun x1 =>
    some x1
def f_M_through_j60 (v3 : Int32) (t1 : Int32) (t2 : Int32) (c_paths_steps : (Nat → Int32)) : Option ((Int32 × (Nat → Int32)) ⊕ (Nat → Int32)) :=
  (f_P_putStep t1 t2 c_paths_steps).bind fun x4 =>
  some (.inl ((v3 + (1 : Int32)), x4))
def f_M_through_b32 (v1 : Int32) (v2 : Int32) (c_now_width : Int32) (v3 : Int32) (c_paths_steps : (Nat → Int32)) : Option ((Int32 × (Nat → Int32)) ⊕ (Nat → Int32)) :=
  if (v2 + c_now_width) ≤ v3 then
    some (.inr c_paths_steps)
  else
    if v3 = v1 then
      f_M_through_j60 v3 v3 (0 : Int32) c_paths_steps
    else
      f_M_through_j60 v3 v3 (1 : Int32) c_paths_steps
def f_M_through_l32 (v1 : Int32) (v2 : Int32) (c_now_width : Int32) (v3 : Int32) (c_paths_steps : (Nat → Int32)) : Option (Nat → Int32) :=
  iter (fun s => f_M_through_b32 v1 v2 c_now_width s.1 s.2) FUEL (v3, c_paths_steps)
def f_M_through (v1 : Int32) (c_now_width : Int32) (c_paths_width : Int32) (c_paths_steps : (Nat → Int32)) (c_paths_counts : (Nat → Int32)) (c_refusals : (Nat → Int32)) : Option (Int32 × Int32 × (Nat → Int32) × (Nat → Int32) × (Nat → Int32)) :=
  (f_M_isCell v1 c_now_width).bind fun x1 =>
  if x1 = 0 then
    (f_M_refuse (-2 : Int32) c_refusals).bind fun x7 =>
    some (x7.1, c_paths_width, c_paths_steps, c_paths_counts, x7.2)
  else
    (f_M_layNothing c_now_width c_paths_width c_paths_steps).bind fun x2 =>
    (f_D_columnOf v1 c_now_width).bind fun x3 =>
    (f_M_through_l32 v1 (v1 - x3) c_now_width (v1 - x3) x2.2).bind fun x5 =>
    (f_P_openWays x2.1 x5 c_paths_counts).bind fun x6 =>
    some (x6.1, x2.1, x5, x6.2, c_refusals)
def f_M_dry_b17 (v1 : Int32) (c_now_width : Int32) (c_now_ear : Int32) (c_now_stones : (Nat → Int32)) (c_now_kinds : (Nat → Int32)) (c_now_weights : (Nat → Int32)) (v2 : Int32) (c_paths_width : Int32) (c_paths_steps : (Nat → Int32)) (c_paths_open : (Nat → Int32)) : Option ((Int32 × Int32 × (Nat → Int32) × (Nat → Int32)) ⊕ ((Int32 × Int32 × (Nat → Int32) × (Nat → Int32)) ⊕ (Int32 × (Nat → Int32) × (Nat → Int32)))) :=
  if (9 : Int32) < v2 then
    some (.inr (.inr (c_paths_width, c_paths_steps, c_paths_open)))
  else
    (f_M_layHeard v1 v2 c_now_width c_now_ear c_now_stones c_now_kinds c_now_weights c_paths_width c_paths_steps).bind fun x2 =>
    (f_P_markOpen x2.1 x2.2 c_paths_open).bind fun x3 =>
    (f_P_isPassable x2.1 x3).bind fun x4 =>
    if x4 = 0 then
      some (.inl ((v2 + (1 : Int32)), x2.1, x2.2, x3))
    else
      some (.inr (.inl (v2, x2.1, x2.2, x3)))
def f_M_dry_l17 (v1 : Int32) (c_now_width : Int32) (c_now_ear : Int32) (c_now_stones : (Nat → Int32)) (c_now_kinds : (Nat → Int32)) (c_now_weights : (Nat → Int32)) (v2 : Int32) (c_paths_width : Int32) (c_paths_steps : (Nat → Int32)) (c_paths_open : (Nat → Int32)) : Option ((Int32 × Int32 × (Nat → Int32) × (Nat → Int32)) ⊕ (Int32 × (Nat → Int32) × (Nat → Int32))) :=
  iter (fun s => f_M_dry_b17 v1 c_now_width c_now_ear c_now_stones c_now_kinds c_now_weights s.1 s.2.1 s.2.2.1 s.2.2.2) FUEL (v2, c_paths_width, c_paths_steps, c_paths_open)
def f_M_dry (v1 : Int32) (c_now_width : Int32) (c_now_ear : Int32) (c_now_walkers : Int32) (c_now_stones : (Nat → Int32)) (c_now_kinds : (Nat → Int32)) (c_now_weights : (Nat → Int32)) (c_paths_width : Int32) (c_paths_steps : (Nat → Int32)) (c_paths_open : (Nat → Int32)) (c_refusals : (Nat → Int32)) : Option (Int32 × Int32 × (Nat → Int32) × (Nat → Int32) × (Nat → Int32)) :=
  (f_M_isFeet v1 c_now_walkers).bind fun x1 =>
  if x1 = 0 then
    (f_M_refuse (-2 : Int32) c_refusals).bind fun x8 =>
    some (x8.1, c_paths_width, c_paths_steps, c_paths_open, x8.2)
  else
    (f_M_dry_l17 v1 c_now_width c_now_ear c_now_stones c_now_kinds c_now_weights (0 : Int32) c_paths_width c_paths_steps c_paths_open).bind fun x5 =>
    Sum.elim (fun x6 =>
      some (x6.1, x6.2.1, x6.2.2.1, x6.2.2.2, c_refusals))
    (fun x7 =>
      some ((-1 : Int32), x7.1, x7.2.1, x7.2.2, c_refusals)) x5
def f_P_allTogether_j107 (v2 : Int32) (t1 : Int32) (t2 : Int32) (t3 : Int32) (c_rest : (Nat → Int32)) (c_counts : (Nat → Int32)) : Option ((Int32 × (Nat → Int32) × (Nat → Int32)) ⊕ ((Nat → Int32) × (Nat → Int32))) :=
  (wr c_rest 36 t1 (t2 + t3)).bind fun x10 =>
  some (.inl ((v2 + (1 : Int32)), x10, c_counts))
def f_P_allTogether_j69 (v1 : Int32) (v2 : Int32) (v3 : Int32) (v4 : Int32) (t1 : Int32) (t2 : Int32) (c_width : Int32) (c_steps : (Nat → Int32)) (c_rest : (Nat → Int32)) (c_counts : (Nat → Int32)) : Option ((Int32 × (Nat → Int32) × (Nat → Int32)) ⊕ ((Nat → Int32) × (Nat → Int32))) :=
  (wr c_counts 36 t1 t2).bind fun x6 =>
  (rd c_steps 36 v3).bind fun x7 =>
  (rd x6 36 v3).bind fun x8 =>
  if v4 = 0 then
    (f_P_sumBehind v1 v2 c_width c_rest).bind fun x9 =>
    f_P_allTogether_j107 v2 v3 (x7 * x8) x9 c_rest x6
  else
    f_P_allTogether_j107 v2 v3 (x7 * x8) (0 : Int32) c_rest x6
def f_P_allTogether_j43 (v1 : Int32) (v2 : Int32) (v3 : Int32) (t0 : Int32) (c_width : Int32) (c_steps : (Nat → Int32)) (c_rest : (Nat → Int32)) (c_counts : (Nat → Int32)) : Option ((Int32 × (Nat → Int32) × (Nat → Int32)) ⊕ ((Nat → Int32) × (Nat → Int32))) :=
  if t0 = 0 then
    (f_P_sumBehind v1 v2 c_width c_counts).bind fun x5 =>
    f_P_allTogether_j69 v1 v2 v3 t0 v3 x5 c_width c_steps c_rest c_counts
  else
    f_P_allTogether_j69 v1 v2 v3 t0 v3 (1 : Int32) c_width c_steps c_rest c_counts
def f_P_allTogether_b13 (v1 : Int32) (c_width : Int32) (c_steps : (Nat → Int32)) (v2 : Int32) (c_rest : (Nat → Int32)) (c_counts : (Nat → Int32)) : Option ((Int32 × (Nat → Int32) × (Nat → Int32)) ⊕ ((Nat → Int32) × (Nat → Int32))) :=
  (f_P_length c_width).bind fun x2 =>
  if x2 ≤ v2 then
    some (.inr (c_rest, c_counts))
  else
    (f_P_cellIn v1 v2 c_width).bind fun x3 =>
    (f_P_length c_width).bind fun x4 =>
    if (v1 + (1 : Int32)) < x4 then
      f_P_allTogether_j43 v1 v2 x3 (0 : Int32) c_width c_steps c_rest c_counts
    else
      f_P_allTogether_j43 v1 v2 x3 (1 : Int32) c_width c_steps c_rest c_counts
def f_P_allTogether_l13 (v1 : Int32) (c_width : Int32) (c_steps : (Nat → Int32)) (v2 : Int32) (c_rest : (Nat → Int32)) (c_counts : (Nat → Int32)) : Option ((Nat → Int32) × (Nat → Int32)) :=
  iter (fun s => f_P_allTogether_b13 v1 c_width c_steps s.1 s.2.1 s.2.2) FUEL (v2, c_rest, c_counts)
def f_P_allTogether_b7 (c_width : Int32) (c_steps : (Nat → Int32)) (v1 : Int32) (c_rest : (Nat → Int32)) (c_counts : (Nat → Int32)) : Option ((Int32 × (Nat → Int32) × (Nat → Int32)) ⊕ ((Nat → Int32) × (Nat → Int32))) :=
  if v1 < 0 then
    some (.inr (c_rest, c_counts))
  else
    (f_P_allTogether_l13 v1 c_width c_steps (0 : Int32) c_rest c_counts).bind fun x11 =>
    some (.inl ((v1 + (-1 : Int32)), x11.1, x11.2))
def f_P_allTogether_l7 (c_width : Int32) (c_steps : (Nat → Int32)) (v1 : Int32) (c_rest : (Nat → Int32)) (c_counts : (Nat → Int32)) : Option ((Nat → Int32) × (Nat → Int32)) :=
  iter (fun s => f_P_allTogether_b7 c_width c_steps s.1 s.2.1 s.2.2) FUEL (v1, c_rest, c_counts)
def f_P_allTogether (c_width : Int32) (c_steps : (Nat → Int32)) (c_rest : (Nat → Int32)) (c_counts : (Nat → Int32)) : Option (Int32 × (Nat → Int32) × (Nat → Int32)) :=
  (f_P_length c_width).bind fun x1 =>
  (f_P_allTogether_l7 c_width c_steps (x1 - (1 : Int32)) c_rest c_counts).bind fun x12 =>
  (f_P_gateSum c_width x12.1).bind fun x13 =>
  some (x13, x12.1, x12.2)
def f_M_thousandths (v0 : Int32) (v1 : Int32) : Option Int32 :=
  if v1 ≤ 0 then
    some (0 : Int32)
  else
    (dv ((1000 : Int32) * v0) v1).bind fun x1 =>
    some x1
def f_M_mean (v1 : Int32) (c_now_width : Int32) (c_now_rain : Int32) (c_now_walkers : Int32) (c_now_stones : (Nat → Int32)) (c_now_kinds : (Nat → Int32)) (c_now_weights : (Nat → Int32)) (c_paths_width : Int32) (c_paths_steps : (Nat → Int32)) (c_paths_rest : (Nat → Int32)) (c_paths_counts : (Nat → Int32)) (c_refusals : (Nat → Int32)) : Option (Int32 × Int32 × (Nat → Int32) × (Nat → Int32) × (Nat → Int32) × (Nat → Int32)) :=
  (f_M_isFeet v1 c_now_walkers).bind fun x1 =>
  if x1 = 0 then
    (f_M_refuse (-2 : Int32) c_refusals).bind fun x7 =>
    some (x7.1, c_paths_width, c_paths_steps, c_paths_rest, c_paths_counts, x7.2)
  else
    (f_M_layCrunches v1 (1 : Int32) c_now_width c_now_rain c_now_stones c_now_kinds c_now_weights c_paths_width c_paths_steps).bind fun x2 =>
    (f_P_allTogether x2.1 x2.2 c_paths_rest c_paths_counts).bind fun x3 =>
    (f_M_layNothing c_now_width x2.1 x2.2).bind fun x4 =>
    (f_P_openWays x4.1 x4.2 x3.2.2).bind fun x5 =>
    (f_M_thousandths x3.1 x5.1).bind fun x6 =>
    some (x6, x4.1, x4.2, x3.2.1, x5.2, c_refusals)
def f_M_planks_j13 (c_paths_width : Int32) (c_paths_steps : (Nat → Int32)) (c_paths_open : (Nat → Int32)) (c_paths_turnable : (Nat → Int32)) (c_paths_turned : (Nat → Int32)) (c_refusals : (Nat → Int32)) : Option (Int32 × Int32 × (Nat → Int32) × (Nat → Int32) × (Nat → Int32) × (Nat → Int32) × (Nat → Int32)) :=
  (f_M_refuse (-2 : Int32) c_refusals).bind fun x2 =>
  some (x2.1, c_paths_width, c_paths_steps, c_paths_open, c_paths_turnable, c_paths_turned, x2.2)
def f_M_planks_j73 (v3 : Int32) (t1 : Int32) (t2 : Int32) (c_paths_turnable : (Nat → Int32)) : Option ((Int32 × (Nat → Int32)) ⊕ (Nat → Int32)) :=
  (f_P_markTurnable t1 t2 c_paths_turnable).bind fun x7 =>
  some (.inl ((v3 + (1 : Int32)), x7))
def f_M_planks_b41 (c_now_width : Int32) (c_paths_steps : (Nat → Int32)) (v3 : Int32) (c_paths_turnable : (Nat → Int32)) : Option ((Int32 × (Nat → Int32)) ⊕ (Nat → Int32)) :=
  (f_D_cells c_now_width).bind fun x5 =>
  if x5 ≤ v3 then
    some (.inr c_paths_turnable)
  else
    (f_P_stepOn v3 c_paths_steps).bind fun x6 =>
    if x6 = 0 then
      f_M_planks_j73 v3 v3 (0 : Int32) c_paths_turnable
    else
      f_M_planks_j73 v3 v3 (1 : Int32) c_paths_turnable
def f_M_planks_l41 (c_now_width : Int32) (c_paths_steps : (Nat → Int32)) (v3 : Int32) (c_paths_turnable : (Nat → Int32)) : Option (Nat → Int32) :=
  iter (fun s => f_M_planks_b41 c_now_width c_paths_steps s.1 s.2) FUEL (v3, c_paths_turnable)
def f_M_planks (v1 : Int32) (v2 : Int32) (c_now_width : Int32) (c_now_rain : Int32) (c_now_ear : Int32) (c_now_walkers : Int32) (c_now_stones : (Nat → Int32)) (c_now_kinds : (Nat → Int32)) (c_now_weights : (Nat → Int32)) (c_paths_width : Int32) (c_paths_steps : (Nat → Int32)) (c_paths_open : (Nat → Int32)) (c_paths_turnable : (Nat → Int32)) (c_paths_turned : (Nat → Int32)) (c_refusals : (Nat → Int32)) : Option (Int32 × Int32 × (Nat → Int32) × (Nat → Int32) × (Nat → Int32) × (Nat → Int32) × (Nat → Int32)) :=
  (f_M_isFeet v1 c_now_walkers).bind fun x1 =>
  if x1 = 0 then
    f_M_planks_j13 c_paths_width c_paths_steps c_paths_open c_paths_turnable c_paths_turned c_refusals
  else
    if (-1 : Int32) ≤ v2 then
      (f_M_layHeard v1 c_now_rain c_now_width c_now_ear c_now_stones c_now_kinds c_now_weights c_paths_width c_paths_steps).bind fun x3 =>
      (f_P_markOpen x3.1 x3.2 c_paths_open).bind fun x4 =>
      (f_M_planks_l41 c_now_width x3.2 (0 : Int32) c_paths_turnable).bind fun x8 =>
      (f_P_fewestTurned (1 : Int32) x3.1 x4 x8 c_paths_turned).bind fun x9 =>
      (f_M_toldOfFewest x9.1 v2 x9.2.2 c_refusals).bind fun x10 =>
      some (x10.1, x3.1, x3.2, x9.2.1, x8, x9.2.2, x10.2)
    else
      f_M_planks_j13 c_paths_width c_paths_steps c_paths_open c_paths_turnable c_paths_turned c_refusals
def f_D_cellAt (v1 : Int32) (v2 : Int32) (c_width : Int32) : Option Int32 :=
  some ((v1 * c_width) + v2)
def f_M_column_b41 (v1 : Int32) (v4 : Int32) (c_now_width : Int32) (c_now_rain : Int32) (c_now_stones : (Nat → Int32)) (c_now_kinds : (Nat → Int32)) (c_now_weights : (Nat → Int32)) (v5 : Int32) (v6 : Int32) : Option ((Int32 × Int32) ⊕ Int32) :=
  if c_now_width ≤ v6 then
    some (.inr v5)
  else
    (f_D_cellAt v6 v4 c_now_width).bind fun x2 =>
    (f_D_stepOn v1 x2 c_now_width c_now_rain c_now_stones c_now_kinds c_now_weights).bind fun x3 =>
    some (.inl ((v5 + x3), (v6 + (1 : Int32))))
def f_M_column_l41 (v1 : Int32) (v4 : Int32) (c_now_width : Int32) (c_now_rain : Int32) (c_now_stones : (Nat → Int32)) (c_now_kinds : (Nat → Int32)) (c_now_weights : (Nat → Int32)) (v5 : Int32) (v6 : Int32) : Option Int32 :=
  iter (fun s => f_M_column_b41 v1 v4 c_now_width c_now_rain c_now_stones c_now_kinds c_now_weights s.1 s.2) FUEL (v5, v6)
def f_M_column_b23 (v1 : Int32) (c_now_width : Int32) (c_now_rain : Int32) (c_now_stones : (Nat → Int32)) (c_now_kinds : (Nat → Int32)) (c_now_weights : (Nat → Int32)) (v2 : Int32) (v3 : Int32) (v4 : Int32) : Option ((Int32 × Int32 × Int32) ⊕ Int32) :=
  if c_now_width ≤ v4 then
    some (.inr v2)
  else
    (f_M_column_l41 v1 v4 c_now_width c_now_rain c_now_stones c_now_kinds c_now_weights (0 : Int32) (0 : Int32)).bind fun x4 =>
    if v3 ≤ x4 then
      some (.inl (v2, v3, (v4 + (1 : Int32))))
    else
      some (.inl (v4, x4, (v4 + (1 : Int32))))
def f_M_column_l23 (v1 : Int32) (c_now_width : Int32) (c_now_rain : Int32) (c_now_stones : (Nat → Int32)) (c_now_kinds : (Nat → Int32)) (c_now_weights : (Nat → Int32)) (v2 : Int32) (v3 : Int32) (v4 : Int32) : Option Int32 :=
  iter (fun s => f_M_column_b23 v1 c_now_width c_now_rain c_now_stones c_now_kinds c_now_weights s.1 s.2.1 s.2.2) FUEL (v2, v3, v4)
def f_M_column (v1 : Int32) (c_now_width : Int32) (c_now_rain : Int32) (c_now_walkers : Int32) (c_now_stones : (Nat → Int32)) (c_now_kinds : (Nat → Int32)) (c_now_weights : (Nat → Int32)) (c_refusals : (Nat → Int32)) : Option (Int32 × (Nat → Int32)) :=
  (f_M_isFeet v1 c_now_walkers).bind fun x1 =>
  if x1 = 0 then
    (f_M_refuse (-2 : Int32) c_refusals).bind fun x6 =>
    some (x6.1, x6.2)
  else
    (f_M_column_l23 v1 c_now_width c_now_rain c_now_stones c_now_kinds c_now_weights (0 : Int32) (1000000 : Int32) (0 : Int32)).bind fun x5 =>
    some (x5, c_refusals)
def f_M_worst_b22 (v1 : Int32) (c_now_width : Int32) (c_now_rain : Int32) (c_now_stones : (Nat → Int32)) (c_now_kinds : (Nat → Int32)) (c_now_weights : (Nat → Int32)) (v2 : Int32) (v3 : Int32) (v4 : Int32) : Option ((Int32 × Int32 × Int32) ⊕ Int32) :=
  (f_D_cells c_now_width).bind fun x2 =>
  if x2 ≤ v4 then
    some (.inr v2)
  else
    (f_D_stepOn v1 v4 c_now_width c_now_rain c_now_stones c_now_kinds c_now_weights).bind fun x3 =>
    if x3 ≤ v3 then
      some (.inl (v2, v3, (v4 + (1 : Int32))))
    else
      some (.inl (v4, x3, (v4 + (1 : Int32))))
def f_M_worst_l22 (v1 : Int32) (c_now_width : Int32) (c_now_rain : Int32) (c_now_stones : (Nat → Int32)) (c_now_kinds : (Nat → Int32)) (c_now_weights : (Nat → Int32)) (v2 : Int32) (v3 : Int32) (v4 : Int32) : Option Int32 :=
  iter (fun s => f_M_worst_b22 v1 c_now_width c_now_rain c_now_stones c_now_kinds c_now_weights s.1 s.2.1 s.2.2) FUEL (v2, v3, v4)
def f_M_worst (v1 : Int32) (c_now_width : Int32) (c_now_rain : Int32) (c_now_walkers : Int32) (c_now_stones : (Nat → Int32)) (c_now_kinds : (Nat → Int32)) (c_now_weights : (Nat → Int32)) (c_refusals : (Nat → Int32)) : Option (Int32 × (Nat → Int32)) :=
  (f_M_isFeet v1 c_now_walkers).bind fun x1 =>
  if x1 = 0 then
    (f_M_refuse (-2 : Int32) c_refusals).bind fun x5 =>
    some (x5.1, x5.2)
  else
    (f_M_worst_l22 v1 c_now_width c_now_rain c_now_stones c_now_kinds c_now_weights (0 : Int32) (-1 : Int32) (0 : Int32)).bind fun x4 =>
    some (x4, c_refusals)
def f_M_placeOf_b4 (v1 : Int32) (c_now_walkers : Int32) (c_volumes : (Nat → Int32)) (v2 : Int32) (v3 : Int32) : Option ((Int32 × Int32) ⊕ Int32) :=
  (f_D_count c_now_walkers).bind fun x1 =>
  if x1 ≤ v3 then
    some (.inr v2)
  else
    (rd c_volumes 8 v3).bind fun x2 =>
    (rd c_volumes 8 v1).bind fun x3 =>
    if x2 < x3 then
      some (.inl ((v2 + (1 : Int32)), (v3 + (1 : Int32))))
    else
      (rd c_volumes 8 v3).bind fun x4 =>
      (rd c_volumes 8 v1).bind fun x5 =>
      if x4 = x5 then
        if v1 ≤ v3 then
          some (.inl (v2, (v3 + (1 : Int32))))
        else
          some (.inl ((v2 + (1 : Int32)), (v3 + (1 : Int32))))
      else
        some (.inl (v2, (v3 + (1 : Int32))))
def f_M_placeOf_l4 (v1 : Int32) (c_now_walkers : Int32) (c_volumes : (Nat → Int32)) (v2 : Int32) (v3 : Int32) : Option Int32 :=
  iter (fun s => f_M_placeOf_b4 v1 c_now_walkers c_volumes s.1 s.2) FUEL (v2, v3)
def f_M_placeOf (v1 : Int32) (c_now_walkers : Int32) (c_volumes : (Nat → Int32)) : Option Int32 :=
  (f_M_placeOf_l4 v1 c_now_walkers c_volumes (0 : Int32) (0 : Int32)).bind fun x6 =>
  some x6
def f_M_ranked_b17 (c_now_width : Int32) (c_now_rain : Int32) (c_now_walkers : Int32) (c_now_stones : (Nat → Int32)) (c_now_kinds : (Nat → Int32)) (c_now_weights : (Nat → Int32)) (v2 : Int32) (c_paths_width : Int32) (c_paths_steps : (Nat → Int32)) (c_paths_rest : (Nat → Int32)) (c_paths_way : (Nat → Int32)) (c_volumes : (Nat → Int32)) : Option ((Int32 × Int32 × (Nat → Int32) × (Nat → Int32) × (Nat → Int32) × (Nat → Int32)) ⊕ (Int32 × (Nat → Int32) × (Nat → Int32) × (Nat → Int32) × (Nat → Int32))) :=
  (f_D_count c_now_walkers).bind fun x2 =>
  if x2 ≤ v2 then
    some (.inr (c_paths_width, c_paths_steps, c_paths_rest, c_paths_way, c_volumes))
  else
    (f_M_leastOf v2 c_now_width c_now_rain c_now_stones c_now_kinds c_now_weights c_paths_width c_paths_steps c_paths_rest c_paths_way).bind fun x3 =>
    (wr c_volumes 8 v2 x3.1).bind fun x4 =>
    some (.inl ((v2 + (1 : Int32)), x3.2.1, x3.2.2.1, x3.2.2.2.1, x3.2.2.2.2, x4))
def f_M_ranked_l17 (c_now_width : Int32) (c_now_rain : Int32) (c_now_walkers : Int32) (c_now_stones : (Nat → Int32)) (c_now_kinds : (Nat → Int32)) (c_now_weights : (Nat → Int32)) (v2 : Int32) (c_paths_width : Int32) (c_paths_steps : (Nat → Int32)) (c_paths_rest : (Nat → Int32)) (c_paths_way : (Nat → Int32)) (c_volumes : (Nat → Int32)) : Option (Int32 × (Nat → Int32) × (Nat → Int32) × (Nat → Int32) × (Nat → Int32)) :=
  iter (fun s => f_M_ranked_b17 c_now_width c_now_rain c_now_walkers c_now_stones c_now_kinds c_now_weights s.1 s.2.1 s.2.2.1 s.2.2.2.1 s.2.2.2.2.1 s.2.2.2.2.2) FUEL (v2, c_paths_width, c_paths_steps, c_paths_rest, c_paths_way, c_volumes)
def f_M_ranked_b47 (v1 : Int32) (c_now_walkers : Int32) (c_volumes : (Nat → Int32)) (v2 : Int32) : Option (Int32 ⊕ (Int32 ⊕ Unit)) :=
  (f_D_count c_now_walkers).bind fun x6 =>
  if x6 ≤ v2 then
    some (.inr (.inr ()))
  else
    (f_M_placeOf v2 c_now_walkers c_volumes).bind fun x7 =>
    if x7 = v1 then
      some (.inr (.inl v2))
    else
      some (.inl (v2 + (1 : Int32)))
def f_M_ranked_l47 (v1 : Int32) (c_now_walkers : Int32) (c_volumes : (Nat → Int32)) (v2 : Int32) : Option (Int32 ⊕ Unit) :=
  iter (fun s => f_M_ranked_b47 v1 c_now_walkers c_volumes s) FUEL v2
def f_M_ranked (v1 : Int32) (c_now_width : Int32) (c_now_rain : Int32) (c_now_walkers : Int32) (c_now_stones : (Nat → Int32)) (c_now_kinds : (Nat → Int32)) (c_now_weights : (Nat → Int32)) (c_paths_width : Int32) (c_paths_steps : (Nat → Int32)) (c_paths_rest : (Nat → Int32)) (c_paths_way : (Nat → Int32)) (c_volumes : (Nat → Int32)) (c_refusals : (Nat → Int32)) : Option (Int32 × Int32 × (Nat → Int32) × (Nat → Int32) × (Nat → Int32) × (Nat → Int32) × (Nat → Int32)) :=
  (f_M_isFeet v1 c_now_walkers).bind fun x1 =>
  if x1 = 0 then
    (f_M_refuse (-2 : Int32) c_refusals).bind fun x11 =>
    some (x11.1, c_paths_width, c_paths_steps, c_paths_rest, c_paths_way, c_volumes, x11.2)
  else
    (f_M_ranked_l17 c_now_width c_now_rain c_now_walkers c_now_stones c_now_kinds c_now_weights (0 : Int32) c_paths_width c_paths_steps c_paths_rest c_paths_way c_volumes).bind fun x5 =>
    (f_M_ranked_l47 v1 c_now_walkers x5.2.2.2.2 (0 : Int32)).bind fun x8 =>
    Sum.elim (fun x9 =>
      some (x9, x5.1, x5.2.1, x5.2.2.1, x5.2.2.2.1, x5.2.2.2.2, c_refusals))
    (fun x10 =>
      some ((-1 : Int32), x5.1, x5.2.1, x5.2.2.1, x5.2.2.2.1, x5.2.2.2.2, c_refusals)) x8
def f_M_duel_j17 (c_paths_width : Int32) (c_paths_steps : (Nat → Int32)) (c_paths_rest : (Nat → Int32)) (c_paths_way : (Nat → Int32)) (c_refusals : (Nat → Int32)) : Option (Int32 × Int32 × (Nat → Int32) × (Nat → Int32) × (Nat → Int32) × (Nat → Int32)) :=
  (f_M_refuse (-2 : Int32) c_refusals).bind fun x2 =>
  some (x2.1, c_paths_width, c_paths_steps, c_paths_rest, c_paths_way, x2.2)
def f_M_duel_b38 (v1 : Int32) (c_now_width : Int32) (c_now_rain : Int32) (c_now_kinds : (Nat → Int32)) (c_now_weights : (Nat → Int32)) (c_paths_width : Int32) (v3 : Int32) (v4 : Int32) (v5 : Int32) (c_paths_steps : (Nat → Int32)) (c_paths_rest : (Nat → Int32)) (c_paths_way : (Nat → Int32)) : Option ((Int32 × Int32 × Int32 × (Nat → Int32) × (Nat → Int32) × (Nat → Int32)) ⊕ (Int32 × Int32 × (Nat → Int32) × (Nat → Int32) × (Nat → Int32))) :=
  (f_D_cells c_now_width).bind fun x5 =>
  if x5 ≤ v5 then
    some (.inr (v3, v4, c_paths_steps, c_paths_rest, c_paths_way))
  else
    (f_P_stepOn v5 c_paths_steps).bind fun x6 =>
    (f_D_raisedStep v1 v5 c_now_width c_now_rain c_now_kinds c_now_weights).bind fun x7 =>
    (f_P_putStep v5 x7 c_paths_steps).bind fun x8 =>
    (f_P_leastTogether c_paths_width x8 c_paths_rest c_paths_way).bind fun x9 =>
    (f_P_putStep v5 x6 x8).bind fun x10 =>
    if x9.1 ≤ v4 then
      some (.inl (v3, v4, (v5 + (1 : Int32)), x10, x9.2.1, x9.2.2))
    else
      some (.inl (v5, x9.1, (v5 + (1 : Int32)), x10, x9.2.1, x9.2.2))
def f_M_duel_l38 (v1 : Int32) (c_now_width : Int32) (c_now_rain : Int32) (c_now_kinds : (Nat → Int32)) (c_now_weights : (Nat → Int32)) (c_paths_width : Int32) (v3 : Int32) (v4 : Int32) (v5 : Int32) (c_paths_steps : (Nat → Int32)) (c_paths_rest : (Nat → Int32)) (c_paths_way : (Nat → Int32)) : Option (Int32 × Int32 × (Nat → Int32) × (Nat → Int32) × (Nat → Int32)) :=
  iter (fun s => f_M_duel_b38 v1 c_now_width c_now_rain c_now_kinds c_now_weights c_paths_width s.1 s.2.1 s.2.2.1 s.2.2.2.1 s.2.2.2.2.1 s.2.2.2.2.2) FUEL (v3, v4, v5, c_paths_steps, c_paths_rest, c_paths_way)
def f_M_duel (v1 : Int32) (v2 : Int32) (c_now_width : Int32) (c_now_rain : Int32) (c_now_walkers : Int32) (c_now_stones : (Nat → Int32)) (c_now_kinds : (Nat → Int32)) (c_now_weights : (Nat → Int32)) (c_paths_width : Int32) (c_paths_steps : (Nat → Int32)) (c_paths_rest : (Nat → Int32)) (c_paths_way : (Nat → Int32)) (c_refusals : (Nat → Int32)) : Option (Int32 × Int32 × (Nat → Int32) × (Nat → Int32) × (Nat → Int32) × (Nat → Int32)) :=
  (f_M_isFeet v1 c_now_walkers).bind fun x1 =>
  if x1 = 0 then
    f_M_duel_j17 c_paths_width c_paths_steps c_paths_rest c_paths_way c_refusals
  else
    (f_M_isWithin v2 (0 : Int32) (1 : Int32)).bind fun x3 =>
    if x3 = 0 then
      f_M_duel_j17 c_paths_width c_paths_steps c_paths_rest c_paths_way c_refusals
    else
      (f_M_layCrunches v1 (1 : Int32) c_now_width c_now_rain c_now_stones c_now_kinds c_now_weights c_paths_width c_paths_steps).bind fun x4 =>
      (f_M_duel_l38 v1 c_now_width c_now_rain c_now_kinds c_now_weights x4.1 (0 : Int32) (-1 : Int32) (0 : Int32) x4.2 c_paths_rest c_paths_way).bind fun x11 =>
      if v2 = 0 then
        some (x11.1, x4.1, x11.2.2.1, x11.2.2.2.1, x11.2.2.2.2, c_refusals)
      else
        some (x11.2.1, x4.1, x11.2.2.1, x11.2.2.2.1, x11.2.2.2.2, c_refusals)
def f_M_heardOn_b19 (v1 : Int32) (c_now_width : Int32) (c_now_rain : Int32) (c_now_ear : Int32) (c_now_walkers : Int32) (c_now_stones : (Nat → Int32)) (c_now_kinds : (Nat → Int32)) (c_now_weights : (Nat → Int32)) (v2 : Int32) (v3 : Int32) : Option ((Int32 × Int32) ⊕ Int32) :=
  (f_D_count c_now_walkers).bind fun x2 =>
  if x2 ≤ v3 then
    some (.inr v2)
  else
    (f_D_stepOn v3 v1 c_now_width c_now_rain c_now_stones c_now_kinds c_now_weights).bind fun x3 =>
    if x3 < c_now_ear then
      some (.inl (v2, (v3 + (1 : Int32))))
    else
      some (.inl ((v2 ||| ((1 : Int32) <<< (v3 &&& 31))), (v3 + (1 : Int32))))
def f_M_heardOn_l19 (v1 : Int32) (c_now_width : Int32) (c_now_rain : Int32) (c_now_ear : Int32) (c_now_walkers : Int32) (c_now_stones : (Nat → Int32)) (c_now_kinds : (Nat → Int32)) (c_now_weights : (Nat → Int32)) (v2 : Int32) (v3 : Int32) : Option Int32 :=
  iter (fun s => f_M_heardOn_b19 v1 c_now_width c_now_rain c_now_ear c_now_walkers c_now_stones c_now_kinds c_now_weights s.1 s.2) FUEL (v2, v3)
def f_M_heardOn (v1 : Int32) (c_now_width : Int32) (c_now_rain : Int32) (c_now_ear : Int32) (c_now_walkers : Int32) (c_now_stones : (Nat → Int32)) (c_now_kinds : (Nat → Int32)) (c_now_weights : (Nat → Int32)) (c_refusals : (Nat → Int32)) : Option (Int32 × (Nat → Int32)) :=
  (f_M_isCell v1 c_now_width).bind fun x1 =>
  if x1 = 0 then
    (f_M_refuse (-2 : Int32) c_refusals).bind fun x5 =>
    some (x5.1, x5.2)
  else
    (f_M_heardOn_l19 v1 c_now_width c_now_rain c_now_ear c_now_walkers c_now_stones c_now_kinds c_now_weights (0 : Int32) (0 : Int32)).bind fun x4 =>
    some (x4, c_refusals)
def f_M_silent_b4 (c_now_width : Int32) (c_now_rain : Int32) (c_now_stones : (Nat → Int32)) (v1 : Int32) (v2 : Int32) : Option ((Int32 × Int32) ⊕ Int32) :=
  (f_D_cells c_now_width).bind fun x1 =>
  if x1 ≤ v2 then
    some (.inr v1)
  else
    (f_D_wetOn v2 c_now_rain c_now_stones).bind fun x2 =>
    if x2 = 0 then
      some (.inl ((v1 + (1 : Int32)), (v2 + (1 : Int32))))
    else
      some (.inl (v1, (v2 + (1 : Int32))))
def f_M_silent_l4 (c_now_width : Int32) (c_now_rain : Int32) (c_now_stones : (Nat → Int32)) (v1 : Int32) (v2 : Int32) : Option Int32 :=
  iter (fun s => f_M_silent_b4 c_now_width c_now_rain c_now_stones s.1 s.2) FUEL (v1, v2)
def f_M_silent (c_now_width : Int32) (c_now_rain : Int32) (c_now_stones : (Nat → Int32)) : Option Int32 :=
  (f_M_silent_l4 c_now_width c_now_rain c_now_stones (0 : Int32) (0 : Int32)).bind fun x3 =>
  some x3
def f_M_heardBy_b19 (v1 : Int32) (c_now_width : Int32) (c_now_rain : Int32) (c_now_ear : Int32) (c_now_stones : (Nat → Int32)) (c_now_kinds : (Nat → Int32)) (c_now_weights : (Nat → Int32)) (v2 : Int32) (v3 : Int32) : Option ((Int32 × Int32) ⊕ Int32) :=
  (f_D_cells c_now_width).bind fun x2 =>
  if x2 ≤ v3 then
    some (.inr v2)
  else
    (f_D_stepOn v1 v3 c_now_width c_now_rain c_now_stones c_now_kinds c_now_weights).bind fun x3 =>
    if x3 < c_now_ear then
      some (.inl (v2, (v3 + (1 : Int32))))
    else
      some (.inl ((v2 + (1 : Int32)), (v3 + (1 : Int32))))
def f_M_heardBy_l19 (v1 : Int32) (c_now_width : Int32) (c_now_rain : Int32) (c_now_ear : Int32) (c_now_stones : (Nat → Int32)) (c_now_kinds : (Nat → Int32)) (c_now_weights : (Nat → Int32)) (v2 : Int32) (v3 : Int32) : Option Int32 :=
  iter (fun s => f_M_heardBy_b19 v1 c_now_width c_now_rain c_now_ear c_now_stones c_now_kinds c_now_weights s.1 s.2) FUEL (v2, v3)
def f_M_heardBy (v1 : Int32) (c_now_width : Int32) (c_now_rain : Int32) (c_now_ear : Int32) (c_now_walkers : Int32) (c_now_stones : (Nat → Int32)) (c_now_kinds : (Nat → Int32)) (c_now_weights : (Nat → Int32)) (c_refusals : (Nat → Int32)) : Option (Int32 × (Nat → Int32)) :=
  (f_M_isFeet v1 c_now_walkers).bind fun x1 =>
  if x1 = 0 then
    (f_M_refuse (-2 : Int32) c_refusals).bind fun x5 =>
    some (x5.1, x5.2)
  else
    (f_M_heardBy_l19 v1 c_now_width c_now_rain c_now_ear c_now_stones c_now_kinds c_now_weights (0 : Int32) (0 : Int32)).bind fun x4 =>
    some (x4, c_refusals)
def f_M_isPair (v1 : Int32) (v2 : Int32) (c_now_walkers : Int32) : Option Int32 :=
  (f_M_isFeet v1 c_now_walkers).bind fun x1 =>
  if x1 = 0 then
    some (0 : Int32)
  else
    (f_M_isFeet v2 c_now_walkers).bind fun x2 =>
    if x2 = 0 then
      some (0 : Int32)
    else
      if v1 = v2 then
        some (0 : Int32)
      else
        some (1 : Int32)
def f_M_isColumn (v1 : Int32) (c_now_width : Int32) : Option Int32 :=
  (f_M_isWithin v1 (0 : Int32) (c_now_width - (1 : Int32))).bind fun x1 =>
  (zr x1).bind fun x2 =>
  some x2
def f_M_gap_j17 (c_refusals : (Nat → Int32)) : Option (Int32 × (Nat → Int32)) :=
  (f_M_refuse (-2 : Int32) c_refusals).bind fun x2 =>
  some (x2.1, x2.2)
def f_M_gap_b27 (v1 : Int32) (v2 : Int32) (v3 : Int32) (c_now_width : Int32) (c_now_rain : Int32) (c_now_stones : (Nat → Int32)) (c_now_kinds : (Nat → Int32)) (c_now_weights : (Nat → Int32)) (v4 : Int32) : Option (Int32 ⊕ (Int32 ⊕ Unit)) :=
  if c_now_width ≤ v4 then
    some (.inr (.inr ()))
  else
    (f_D_cellAt v4 v3 c_now_width).bind fun x4 =>
    (f_D_stepOn v1 x4 c_now_width c_now_rain c_now_stones c_now_kinds c_now_weights).bind fun x5 =>
    (f_D_stepOn v2 x4 c_now_width c_now_rain c_now_stones c_now_kinds c_now_weights).bind fun x6 =>
    if x5 = x6 then
      some (.inl (v4 + (1 : Int32)))
    else
      some (.inr (.inl v4))
def f_M_gap_l27 (v1 : Int32) (v2 : Int32) (v3 : Int32) (c_now_width : Int32) (c_now_rain : Int32) (c_now_stones : (Nat → Int32)) (c_now_kinds : (Nat → Int32)) (c_now_weights : (Nat → Int32)) (v4 : Int32) : Option (Int32 ⊕ Unit) :=
  iter (fun s => f_M_gap_b27 v1 v2 v3 c_now_width c_now_rain c_now_stones c_now_kinds c_now_weights s) FUEL v4
def f_M_gap (v1 : Int32) (v2 : Int32) (v3 : Int32) (c_now_width : Int32) (c_now_rain : Int32) (c_now_walkers : Int32) (c_now_stones : (Nat → Int32)) (c_now_kinds : (Nat → Int32)) (c_now_weights : (Nat → Int32)) (c_refusals : (Nat → Int32)) : Option (Int32 × (Nat → Int32)) :=
  (f_M_isPair v1 v2 c_now_walkers).bind fun x1 =>
  if x1 = 0 then
    f_M_gap_j17 c_refusals
  else
    (f_M_isColumn v3 c_now_width).bind fun x3 =>
    if x3 = 0 then
      f_M_gap_j17 c_refusals
    else
      (f_M_gap_l27 v1 v2 v3 c_now_width c_now_rain c_now_stones c_now_kinds c_now_weights (0 : Int32)).bind fun x7 =>
      Sum.elim (fun x8 =>
        some (x8, c_refusals))
      (fun x9 =>
        some ((-1 : Int32), c_refusals)) x7
def f_D_soundUnder_b20 (v2 : Int32) (v3 : Int32) (v4 : Int32) (v5 : Int32) (c_width : Int32) (c_stones : (Nat → Int32)) (v6 : Int64) (v8 : Int32) : Option ((Int64 × Int32) ⊕ Int64) :=
  if c_width ≤ v8 then
    some (.inr v6)
  else
    (f_D_cellAt v8 v2 c_width).bind fun x3 =>
    (f_D_wetOn x3 v3 c_stones).bind fun x4 =>
    (f_D_stepBy v4 v5 x4 v8).bind fun x5 =>
    some (.inl (((v6 <<< ((6 : Int32).toInt64 &&& 63)) ||| (Int32.toInt64 x5)), (v8 + (1 : Int32))))
def f_D_soundUnder_l20 (v2 : Int32) (v3 : Int32) (v4 : Int32) (v5 : Int32) (c_width : Int32) (c_stones : (Nat → Int32)) (v6 : Int64) (v8 : Int32) : Option Int64 :=
  iter (fun s => f_D_soundUnder_b20 v2 v3 v4 v5 c_width c_stones s.1 s.2) FUEL (v6, v8)
def f_D_soundUnder (v1 : Int32) (v2 : Int32) (v3 : Int32) (c_width : Int32) (c_stones : (Nat → Int32)) (c_kinds : (Nat → Int32)) (c_weights : (Nat → Int32)) : Option Int64 :=
  (f_D_kindOf v1 c_kinds).bind fun x1 =>
  (f_D_weightOf v1 c_weights).bind fun x2 =>
  (f_D_soundUnder_l20 v2 v3 x1 x2 c_width c_stones (0 : Int64) (0 : Int32)).bind fun x6 =>
  some x6
def f_M_listen_b2 (v1 : Int32) (v2 : Int32) (c_now_width : Int32) (c_now_walkers : Int32) (c_now_stones : (Nat → Int32)) (c_now_kinds : (Nat → Int32)) (c_now_weights : (Nat → Int32)) (v3 : Int32) (c_sounds : (Nat → Int64)) : Option ((Int32 × (Nat → Int64)) ⊕ (Nat → Int64)) :=
  (f_D_count c_now_walkers).bind fun x1 =>
  if x1 ≤ v3 then
    some (.inr c_sounds)
  else
    (f_D_soundUnder v3 v1 v2 c_now_width c_now_stones c_now_kinds c_now_weights).bind fun x2 =>
    (wrL c_sounds 8 v3 x2).bind fun x3 =>
    some (.inl ((v3 + (1 : Int32)), x3))
def f_M_listen_l2 (v1 : Int32) (v2 : Int32) (c_now_width : Int32) (c_now_walkers : Int32) (c_now_stones : (Nat → Int32)) (c_now_kinds : (Nat → Int32)) (c_now_weights : (Nat → Int32)) (v3 : Int32) (c_sounds : (Nat → Int64)) : Option (Nat → Int64) :=
  iter (fun s => f_M_listen_b2 v1 v2 c_now_width c_now_walkers c_now_stones c_now_kinds c_now_weights s.1 s.2) FUEL (v3, c_sounds)
def f_M_listen (v1 : Int32) (v2 : Int32) (c_now_width : Int32) (c_now_walkers : Int32) (c_now_stones : (Nat → Int32)) (c_now_kinds : (Nat → Int32)) (c_now_weights : (Nat → Int32)) (c_sounds : (Nat → Int64)) : Option (Nat → Int64) :=
  (f_M_listen_l2 v1 v2 c_now_width c_now_walkers c_now_stones c_now_kinds c_now_weights (0 : Int32) c_sounds).bind fun x4 =>
  some x4
def f_M_confused_b45 (v1 : Int32) (c_now_walkers : Int32) (c_sounds : (Nat → Int64)) (v2 : Int32) (v4 : Int32) : Option ((Int32 × Int32) ⊕ Int32) :=
  (f_D_count c_now_walkers).bind fun x3 =>
  if x3 ≤ v4 then
    some (.inr v2)
  else
    if v4 = v1 then
      some (.inl (v2, (v4 + (1 : Int32))))
    else
      (rdL c_sounds 8 v4).bind fun x4 =>
      (rdL c_sounds 8 v1).bind fun x5 =>
      if (lg_cmp x4 x5) = 0 then
        some (.inl ((v2 ||| ((1 : Int32) <<< (v4 &&& 31))), (v4 + (1 : Int32))))
      else
        some (.inl (v2, (v4 + (1 : Int32))))
def f_M_confused_l45 (v1 : Int32) (c_now_walkers : Int32) (c_sounds : (Nat → Int64)) (v2 : Int32) (v4 : Int32) : Option Int32 :=
  iter (fun s => f_M_confused_b45 v1 c_now_walkers c_sounds s.1 s.2) FUEL (v2, v4)
def f_M_confused_b19 (v1 : Int32) (c_now_width : Int32) (c_now_rain : Int32) (c_now_walkers : Int32) (c_now_stones : (Nat → Int32)) (c_now_kinds : (Nat → Int32)) (c_now_weights : (Nat → Int32)) (v2 : Int32) (v3 : Int32) (c_sounds : (Nat → Int64)) : Option ((Int32 × Int32 × (Nat → Int64)) ⊕ (Int32 × (Nat → Int64))) :=
  if c_now_width ≤ v3 then
    some (.inr (v2, c_sounds))
  else
    (f_M_listen v3 c_now_rain c_now_width c_now_walkers c_now_stones c_now_kinds c_now_weights c_sounds).bind fun x2 =>
    (f_M_confused_l45 v1 c_now_walkers x2 v2 (0 : Int32)).bind fun x6 =>
    some (.inl (x6, (v3 + (1 : Int32)), x2))
def f_M_confused_l19 (v1 : Int32) (c_now_width : Int32) (c_now_rain : Int32) (c_now_walkers : Int32) (c_now_stones : (Nat → Int32)) (c_now_kinds : (Nat → Int32)) (c_now_weights : (Nat → Int32)) (v2 : Int32) (v3 : Int32) (c_sounds : (Nat → Int64)) : Option (Int32 × (Nat → Int64)) :=
  iter (fun s => f_M_confused_b19 v1 c_now_width c_now_rain c_now_walkers c_now_stones c_now_kinds c_now_weights s.1 s.2.1 s.2.2) FUEL (v2, v3, c_sounds)
def f_M_confused (v1 : Int32) (c_now_width : Int32) (c_now_rain : Int32) (c_now_walkers : Int32) (c_now_stones : (Nat → Int32)) (c_now_kinds : (Nat → Int32)) (c_now_weights : (Nat → Int32)) (c_sounds : (Nat → Int64)) (c_refusals : (Nat → Int32)) : Option (Int32 × (Nat → Int64) × (Nat → Int32)) :=
  (f_M_isFeet v1 c_now_walkers).bind fun x1 =>
  if x1 = 0 then
    (f_M_refuse (-2 : Int32) c_refusals).bind fun x8 =>
    some (x8.1, c_sounds, x8.2)
  else
    (f_M_confused_l19 v1 c_now_width c_now_rain c_now_walkers c_now_stones c_now_kinds c_now_weights (0 : Int32) (0 : Int32) c_sounds).bind fun x7 =>
    some (x7.1, x7.2, c_refusals)
def f_D_allChances_b4 (c_walkers : Int32) (c_chances : (Nat → Int32)) (v1 : Int32) (v2 : Int32) : Option ((Int32 × Int32) ⊕ Int32) :=
  (f_D_count c_walkers).bind fun x1 =>
  if x1 ≤ v2 then
    some (.inr v1)
  else
    (f_D_chanceOf v2 c_chances).bind fun x2 =>
    some (.inl ((v1 + x2), (v2 + (1 : Int32))))
def f_D_allChances_l4 (c_walkers : Int32) (c_chances : (Nat → Int32)) (v1 : Int32) (v2 : Int32) : Option Int32 :=
  iter (fun s => f_D_allChances_b4 c_walkers c_chances s.1 s.2) FUEL (v1, v2)
def f_D_allChances (c_walkers : Int32) (c_chances : (Nat → Int32)) : Option Int32 :=
  (f_D_allChances_l4 c_walkers c_chances (0 : Int32) (0 : Int32)).bind fun x3 =>
  some x3
def f_M_odds (v1 : Int32) (c_now_walkers : Int32) (c_now_chances : (Nat → Int32)) (c_refusals : (Nat → Int32)) : Option (Int32 × (Nat → Int32)) :=
  (f_M_isFeet v1 c_now_walkers).bind fun x1 =>
  if x1 = 0 then
    (f_M_refuse (-2 : Int32) c_refusals).bind fun x5 =>
    some (x5.1, x5.2)
  else
    (f_D_chanceOf v1 c_now_chances).bind fun x2 =>
    (f_D_allChances c_now_walkers c_now_chances).bind fun x3 =>
    (f_M_thousandths x2 x3).bind fun x4 =>
    some (x4, c_refusals)
def f_M_whyNoRowOf (v1 : Int32) (v2 : Int32) (c_shelves_marks : (Nat → Int32)) (c_shelves_sizes : (Nat → Int32)) : Option Int32 :=
  (f_S_whyNoRow v1 c_shelves_marks).bind fun x1 =>
  if x1 = 0 then
    (f_S_sizeOf v1 c_shelves_sizes).bind fun x2 =>
    if v2 ≤ x2 then
      some (0 : Int32)
    else
      some (-2 : Int32)
  else
    some x1
def f_M_isToldSo_b3 (v1 : Int32) (v2 : Int32) (v3 : Int32) (v4 : Int32) (v5 : Int32) (c_now_width : Int32) (c_now_rain : Int32) (c_now_stones : (Nat → Int32)) (c_shelves_sizes : (Nat → Int32)) (c_shelves_elements : (Nat → Int64)) (v6 : Int32) : Option (Int32 ⊕ (Unit ⊕ Unit)) :=
  if v5 ≤ v6 then
    some (.inr (.inr ()))
  else
    (f_D_cellAt v6 v4 c_now_width).bind fun x1 =>
    (f_D_wetOn x1 c_now_rain c_now_stones).bind fun x2 =>
    (f_D_stepBy v2 v3 x2 v6).bind fun x3 =>
    (f_S_elementOf v1 v6 c_shelves_sizes c_shelves_elements).bind fun x4 =>
    if (lg_cmp (Int32.toInt64 x3) x4) = 0 then
      some (.inl (v6 + (1 : Int32)))
    else
      some (.inr (.inl ()))
def f_M_isToldSo_l3 (v1 : Int32) (v2 : Int32) (v3 : Int32) (v4 : Int32) (v5 : Int32) (c_now_width : Int32) (c_now_rain : Int32) (c_now_stones : (Nat → Int32)) (c_shelves_sizes : (Nat → Int32)) (c_shelves_elements : (Nat → Int64)) (v6 : Int32) : Option (Unit ⊕ Unit) :=
  iter (fun s => f_M_isToldSo_b3 v1 v2 v3 v4 v5 c_now_width c_now_rain c_now_stones c_shelves_sizes c_shelves_elements s) FUEL v6
def f_M_isToldSo (v1 : Int32) (v2 : Int32) (v3 : Int32) (v4 : Int32) (v5 : Int32) (c_now_width : Int32) (c_now_rain : Int32) (c_now_stones : (Nat → Int32)) (c_shelves_sizes : (Nat → Int32)) (c_shelves_elements : (Nat → Int64)) : Option Int32 :=
  (f_M_isToldSo_l3 v1 v2 v3 v4 v5 c_now_width c_now_rain c_now_stones c_shelves_sizes c_shelves_elements (0 : Int32)).bind fun x5 =>
  Sum.elim (fun x6 =>
    some (0 : Int32))
  (fun x7 =>
    some (1 : Int32)) x5
def f_M_fitting_b6 (v1 : Int32) (v2 : Int32) (v3 : Int32) (c_now_width : Int32) (c_now_rain : Int32) (c_now_walkers : Int32) (c_now_stones : (Nat → Int32)) (c_now_kinds : (Nat → Int32)) (c_now_weights : (Nat → Int32)) (c_shelves_sizes : (Nat → Int32)) (c_shelves_elements : (Nat → Int64)) (v4 : Int32) (v5 : Int32) : Option ((Int32 × Int32) ⊕ Int32) :=
  (f_D_count c_now_walkers).bind fun x1 =>
  if x1 ≤ v5 then
    some (.inr v4)
  else
    (f_D_kindOf v5 c_now_kinds).bind fun x2 =>
    (f_D_weightOf v5 c_now_weights).bind fun x3 =>
    (f_M_isToldSo v1 x2 x3 v2 v3 c_now_width c_now_rain c_now_stones c_shelves_sizes c_shelves_elements).bind fun x4 =>
    if x4 = 0 then
      some (.inl (v4, (v5 + (1 : Int32))))
    else
      some (.inl ((v4 ||| ((1 : Int32) <<< (v5 &&& 31))), (v5 + (1 : Int32))))
def f_M_fitting_l6 (v1 : Int32) (v2 : Int32) (v3 : Int32) (c_now_width : Int32) (c_now_rain : Int32) (c_now_walkers : Int32) (c_now_stones : (Nat → Int32)) (c_now_kinds : (Nat → Int32)) (c_now_weights : (Nat → Int32)) (c_shelves_sizes : (Nat → Int32)) (c_shelves_elements : (Nat → Int64)) (v4 : Int32) (v5 : Int32) : Option Int32 :=
  iter (fun s => f_M_fitting_b6 v1 v2 v3 c_now_width c_now_rain c_now_walkers c_now_stones c_now_kinds c_now_weights c_shelves_sizes c_shelves_elements s.1 s.2) FUEL (v4, v5)
def f_M_fitting (v1 : Int32) (v2 : Int32) (v3 : Int32) (c_now_width : Int32) (c_now_rain : Int32) (c_now_walkers : Int32) (c_now_stones : (Nat → Int32)) (c_now_kinds : (Nat → Int32)) (c_now_weights : (Nat → Int32)) (c_shelves_sizes : (Nat → Int32)) (c_shelves_elements : (Nat → Int64)) : Option Int32 :=
  (f_M_fitting_l6 v1 v2 v3 c_now_width c_now_rain c_now_walkers c_now_stones c_now_kinds c_now_weights c_shelves_sizes c_shelves_elements (0 : Int32) (0 : Int32)).bind fun x5 =>
  some x5
def f_JI_bitCount (v0 : Int32) : Option Int32 :=
  some ((((((((v0 - ((ushr v0 (1 : Int32)) &&& (1431655765 : Int32))) &&& (858993459 : Int32)) + ((ushr (v0 - ((ushr v0 (1 : Int32)) &&& (1431655765 : Int32))) (2 : Int32)) &&& (858993459 : Int32))) + (ushr (((v0 - ((ushr v0 (1 : Int32)) &&& (1431655765 : Int32))) &&& (858993459 : Int32)) + ((ushr (v0 - ((ushr v0 (1 : Int32)) &&& (1431655765 : Int32))) (2 : Int32)) &&& (858993459 : Int32))) (4 : Int32))) &&& (252645135 : Int32)) + (ushr (((((v0 - ((ushr v0 (1 : Int32)) &&& (1431655765 : Int32))) &&& (858993459 : Int32)) + ((ushr (v0 - ((ushr v0 (1 : Int32)) &&& (1431655765 : Int32))) (2 : Int32)) &&& (858993459 : Int32))) + (ushr (((v0 - ((ushr v0 (1 : Int32)) &&& (1431655765 : Int32))) &&& (858993459 : Int32)) + ((ushr (v0 - ((ushr v0 (1 : Int32)) &&& (1431655765 : Int32))) (2 : Int32)) &&& (858993459 : Int32))) (4 : Int32))) &&& (252645135 : Int32)) (8 : Int32))) + (ushr ((((((v0 - ((ushr v0 (1 : Int32)) &&& (1431655765 : Int32))) &&& (858993459 : Int32)) + ((ushr (v0 - ((ushr v0 (1 : Int32)) &&& (1431655765 : Int32))) (2 : Int32)) &&& (858993459 : Int32))) + (ushr (((v0 - ((ushr v0 (1 : Int32)) &&& (1431655765 : Int32))) &&& (858993459 : Int32)) + ((ushr (v0 - ((ushr v0 (1 : Int32)) &&& (1431655765 : Int32))) (2 : Int32)) &&& (858993459 : Int32))) (4 : Int32))) &&& (252645135 : Int32)) + (ushr (((((v0 - ((ushr v0 (1 : Int32)) &&& (1431655765 : Int32))) &&& (858993459 : Int32)) + ((ushr (v0 - ((ushr v0 (1 : Int32)) &&& (1431655765 : Int32))) (2 : Int32)) &&& (858993459 : Int32))) + (ushr (((v0 - ((ushr v0 (1 : Int32)) &&& (1431655765 : Int32))) &&& (858993459 : Int32)) + ((ushr (v0 - ((ushr v0 (1 : Int32)) &&& (1431655765 : Int32))) (2 : Int32)) &&& (858993459 : Int32))) (4 : Int32))) &&& (252645135 : Int32)) (8 : Int32))) (16 : Int32))) &&& (63 : Int32))
def f_M_sureBehind_b2 (v1 : Int32) (v2 : Int32) (c_now_width : Int32) (c_now_rain : Int32) (c_now_walkers : Int32) (c_now_stones : (Nat → Int32)) (c_now_kinds : (Nat → Int32)) (c_now_weights : (Nat → Int32)) (c_shelves_sizes : (Nat → Int32)) (c_shelves_elements : (Nat → Int64)) (v3 : Int32) : Option (Int32 ⊕ (Int32 ⊕ Unit)) :=
  if c_now_width < v3 then
    some (.inr (.inr ()))
  else
    (f_M_fitting v1 v2 v3 c_now_width c_now_rain c_now_walkers c_now_stones c_now_kinds c_now_weights c_shelves_sizes c_shelves_elements).bind fun x1 =>
    (f_JI_bitCount x1).bind fun x2 =>
    if x2 = (1 : Int32) then
      some (.inr (.inl v3))
    else
      some (.inl (v3 + (1 : Int32)))
def f_M_sureBehind_l2 (v1 : Int32) (v2 : Int32) (c_now_width : Int32) (c_now_rain : Int32) (c_now_walkers : Int32) (c_now_stones : (Nat → Int32)) (c_now_kinds : (Nat → Int32)) (c_now_weights : (Nat → Int32)) (c_shelves_sizes : (Nat → Int32)) (c_shelves_elements : (Nat → Int64)) (v3 : Int32) : Option (Int32 ⊕ Unit) :=
  iter (fun s => f_M_sureBehind_b2 v1 v2 c_now_width c_now_rain c_now_walkers c_now_stones c_now_kinds c_now_weights c_shelves_sizes c_shelves_elements s) FUEL v3
def f_M_sureBehind (v1 : Int32) (v2 : Int32) (c_now_width : Int32) (c_now_rain : Int32) (c_now_walkers : Int32) (c_now_stones : (Nat → Int32)) (c_now_kinds : (Nat → Int32)) (c_now_weights : (Nat → Int32)) (c_shelves_sizes : (Nat → Int32)) (c_shelves_elements : (Nat → Int64)) : Option Int32 :=
  (f_M_sureBehind_l2 v1 v2 c_now_width c_now_rain c_now_walkers c_now_stones c_now_kinds c_now_weights c_shelves_sizes c_shelves_elements (1 : Int32)).bind fun x3 =>
  Sum.elim (fun x4 =>
    some x4)
  (fun x5 =>
    some (-1 : Int32)) x3
def f_M_likeliestOf_b7 (v1 : Int32) (c_now_walkers : Int32) (c_now_chances : (Nat → Int32)) (v2 : Int32) (v3 : Int32) (v4 : Int32) : Option ((Int32 × Int32 × Int32) ⊕ Int32) :=
  (f_D_count c_now_walkers).bind fun x1 =>
  if x1 ≤ v4 then
    some (.inr v2)
  else
    if ((v1 >>> (v4 &&& 31)) &&& (1 : Int32)) = (1 : Int32) then
      (f_D_chanceOf v4 c_now_chances).bind fun x2 =>
      if x2 ≤ v3 then
        some (.inl (v2, v3, (v4 + (1 : Int32))))
      else
        (f_D_chanceOf v4 c_now_chances).bind fun x3 =>
        some (.inl (v4, x3, (v4 + (1 : Int32))))
    else
      some (.inl (v2, v3, (v4 + (1 : Int32))))
def f_M_likeliestOf_l7 (v1 : Int32) (c_now_walkers : Int32) (c_now_chances : (Nat → Int32)) (v2 : Int32) (v3 : Int32) (v4 : Int32) : Option Int32 :=
  iter (fun s => f_M_likeliestOf_b7 v1 c_now_walkers c_now_chances s.1 s.2.1 s.2.2) FUEL (v2, v3, v4)
def f_M_likeliestOf (v1 : Int32) (c_now_walkers : Int32) (c_now_chances : (Nat → Int32)) : Option Int32 :=
  (f_M_likeliestOf_l7 v1 c_now_walkers c_now_chances (-1 : Int32) (0 : Int32) (0 : Int32)).bind fun x4 =>
  some x4
def f_M_chancesOf_b4 (v1 : Int32) (c_now_walkers : Int32) (c_now_chances : (Nat → Int32)) (v2 : Int32) (v3 : Int32) : Option ((Int32 × Int32) ⊕ Int32) :=
  (f_D_count c_now_walkers).bind fun x1 =>
  if x1 ≤ v3 then
    some (.inr v2)
  else
    if ((v1 >>> (v3 &&& 31)) &&& (1 : Int32)) = (1 : Int32) then
      (f_D_chanceOf v3 c_now_chances).bind fun x2 =>
      some (.inl ((v2 + x2), (v3 + (1 : Int32))))
    else
      some (.inl (v2, (v3 + (1 : Int32))))
def f_M_chancesOf_l4 (v1 : Int32) (c_now_walkers : Int32) (c_now_chances : (Nat → Int32)) (v2 : Int32) (v3 : Int32) : Option Int32 :=
  iter (fun s => f_M_chancesOf_b4 v1 c_now_walkers c_now_chances s.1 s.2) FUEL (v2, v3)
def f_M_chancesOf (v1 : Int32) (c_now_walkers : Int32) (c_now_chances : (Nat → Int32)) : Option Int32 :=
  (f_M_chancesOf_l4 v1 c_now_walkers c_now_chances (0 : Int32) (0 : Int32)).bind fun x3 =>
  some x3
def f_M_who_j24 (c_refusals : (Nat → Int32)) : Option (Int32 × (Nat → Int32)) :=
  (f_M_refuse (-2 : Int32) c_refusals).bind fun x2 =>
  some (x2.1, x2.2)
def f_M_who (v1 : Int32) (v2 : Int32) (v3 : Int32) (c_now_width : Int32) (c_now_rain : Int32) (c_now_walkers : Int32) (c_now_stones : (Nat → Int32)) (c_now_kinds : (Nat → Int32)) (c_now_weights : (Nat → Int32)) (c_now_chances : (Nat → Int32)) (c_shelves_marks : (Nat → Int32)) (c_shelves_sizes : (Nat → Int32)) (c_shelves_elements : (Nat → Int64)) (c_refusals : (Nat → Int32)) : Option (Int32 × (Nat → Int32)) :=
  (f_M_isShelf v1).bind fun x1 =>
  if x1 = 0 then
    f_M_who_j24 c_refusals
  else
    (f_M_isColumn v2 c_now_width).bind fun x3 =>
    if x3 = 0 then
      f_M_who_j24 c_refusals
    else
      (f_M_isWithin v3 (0 : Int32) (3 : Int32)).bind fun x4 =>
      if x4 = 0 then
        f_M_who_j24 c_refusals
      else
        (f_M_whyNoRowOf v1 c_now_width c_shelves_marks c_shelves_sizes).bind fun x5 =>
        if x5 = 0 then
          (f_M_fitting v1 v2 c_now_width c_now_width c_now_rain c_now_walkers c_now_stones c_now_kinds c_now_weights c_shelves_sizes c_shelves_elements).bind fun x6 =>
          if v3 = 0 then
            some (x6, c_refusals)
          else
            if v3 = (3 : Int32) then
              if x6 = 0 then
                some ((-1 : Int32), c_refusals)
              else
                (f_M_sureBehind v1 v2 c_now_width c_now_rain c_now_walkers c_now_stones c_now_kinds c_now_weights c_shelves_sizes c_shelves_elements).bind fun x12 =>
                some (x12, c_refusals)
            else
              (f_M_likeliestOf x6 c_now_walkers c_now_chances).bind fun x7 =>
              if v3 = (1 : Int32) then
                some (x7, c_refusals)
              else
                if x7 = (-1 : Int32) then
                  (f_M_refuse (-5 : Int32) c_refusals).bind fun x11 =>
                  some (x11.1, x11.2)
                else
                  (f_D_chanceOf x7 c_now_chances).bind fun x8 =>
                  (f_M_chancesOf x6 c_now_walkers c_now_chances).bind fun x9 =>
                  (f_M_thousandths x8 x9).bind fun x10 =>
                  some (x10, c_refusals)
        else
          (f_M_refuse x5 c_refusals).bind fun x13 =>
          some (x13.1, x13.2)
def f_M_soundingAs_b4 (v1 : Int32) (c_now_walkers : Int32) (c_sounds : (Nat → Int64)) (v2 : Int32) (v3 : Int32) : Option ((Int32 × Int32) ⊕ Int32) :=
  (f_D_count c_now_walkers).bind fun x1 =>
  if x1 ≤ v3 then
    some (.inr v2)
  else
    (rdL c_sounds 8 v3).bind fun x2 =>
    (rdL c_sounds 8 v1).bind fun x3 =>
    if (lg_cmp x2 x3) = 0 then
      some (.inl ((v2 ||| ((1 : Int32) <<< (v3 &&& 31))), (v3 + (1 : Int32))))
    else
      some (.inl (v2, (v3 + (1 : Int32))))
def f_M_soundingAs_l4 (v1 : Int32) (c_now_walkers : Int32) (c_sounds : (Nat → Int64)) (v2 : Int32) (v3 : Int32) : Option Int32 :=
  iter (fun s => f_M_soundingAs_b4 v1 c_now_walkers c_sounds s.1 s.2) FUEL (v2, v3)
def f_M_soundingAs (v1 : Int32) (c_now_walkers : Int32) (c_sounds : (Nat → Int64)) : Option Int32 :=
  (f_M_soundingAs_l4 v1 c_now_walkers c_sounds (0 : Int32) (0 : Int32)).bind fun x4 =>
  some x4
def f_M_apartUnder_b11 (c_now_walkers : Int32) (c_sounds : (Nat → Int64)) (v3 : Int32) (v4 : Int32) : Option ((Int32 × Int32) ⊕ Int32) :=
  (f_D_count c_now_walkers).bind fun x2 =>
  if x2 ≤ v4 then
    some (.inr v3)
  else
    (f_M_soundingAs v4 c_now_walkers c_sounds).bind fun x3 =>
    if x3 = ((1 : Int32) <<< (v4 &&& 31)) then
      some (.inl ((v3 + (1 : Int32)), (v4 + (1 : Int32))))
    else
      some (.inl (v3, (v4 + (1 : Int32))))
def f_M_apartUnder_l11 (c_now_walkers : Int32) (c_sounds : (Nat → Int64)) (v3 : Int32) (v4 : Int32) : Option Int32 :=
  iter (fun s => f_M_apartUnder_b11 c_now_walkers c_sounds s.1 s.2) FUEL (v3, v4)
def f_M_apartUnder (v1 : Int32) (v2 : Int32) (c_now_width : Int32) (c_now_walkers : Int32) (c_now_stones : (Nat → Int32)) (c_now_kinds : (Nat → Int32)) (c_now_weights : (Nat → Int32)) (c_sounds : (Nat → Int64)) : Option (Int32 × (Nat → Int64)) :=
  (f_M_listen v1 v2 c_now_width c_now_walkers c_now_stones c_now_kinds c_now_weights c_sounds).bind fun x1 =>
  (f_M_apartUnder_l11 c_now_walkers x1 (0 : Int32) (0 : Int32)).bind fun x4 =>
  some (x4, x1)
def f_M_apart (v1 : Int32) (c_now_width : Int32) (c_now_rain : Int32) (c_now_walkers : Int32) (c_now_stones : (Nat → Int32)) (c_now_kinds : (Nat → Int32)) (c_now_weights : (Nat → Int32)) (c_sounds : (Nat → Int64)) (c_refusals : (Nat → Int32)) : Option (Int32 × (Nat → Int64) × (Nat → Int32)) :=
  (f_M_isColumn v1 c_now_width).bind fun x1 =>
  if x1 = 0 then
    (f_M_refuse (-2 : Int32) c_refusals).bind fun x3 =>
    some (x3.1, c_sounds, x3.2)
  else
    (f_M_apartUnder v1 c_now_rain c_now_width c_now_walkers c_now_stones c_now_kinds c_now_weights c_sounds).bind fun x2 =>
    some (x2.1, x2.2, c_refusals)
def f_M_mostApart_b6 (c_now_width : Int32) (c_now_rain : Int32) (c_now_walkers : Int32) (c_now_stones : (Nat → Int32)) (c_now_kinds : (Nat → Int32)) (c_now_weights : (Nat → Int32)) (v1 : Int32) (v2 : Int32) (v3 : Int32) (c_sounds : (Nat → Int64)) : Option ((Int32 × Int32 × Int32 × (Nat → Int64)) ⊕ (Int32 × (Nat → Int64))) :=
  if c_now_width ≤ v3 then
    some (.inr (v1, c_sounds))
  else
    (f_M_apartUnder v3 c_now_rain c_now_width c_now_walkers c_now_stones c_now_kinds c_now_weights c_sounds).bind fun x1 =>
    if x1.1 ≤ v2 then
      some (.inl (v1, v2, (v3 + (1 : Int32)), x1.2))
    else
      some (.inl (v3, x1.1, (v3 + (1 : Int32)), x1.2))
def f_M_mostApart_l6 (c_now_width : Int32) (c_now_rain : Int32) (c_now_walkers : Int32) (c_now_stones : (Nat → Int32)) (c_now_kinds : (Nat → Int32)) (c_now_weights : (Nat → Int32)) (v1 : Int32) (v2 : Int32) (v3 : Int32) (c_sounds : (Nat → Int64)) : Option (Int32 × (Nat → Int64)) :=
  iter (fun s => f_M_mostApart_b6 c_now_width c_now_rain c_now_walkers c_now_stones c_now_kinds c_now_weights s.1 s.2.1 s.2.2.1 s.2.2.2) FUEL (v1, v2, v3, c_sounds)
def f_M_mostApart (c_now_width : Int32) (c_now_rain : Int32) (c_now_walkers : Int32) (c_now_stones : (Nat → Int32)) (c_now_kinds : (Nat → Int32)) (c_now_weights : (Nat → Int32)) (c_sounds : (Nat → Int64)) : Option (Int32 × (Nat → Int64)) :=
  (f_M_mostApart_l6 c_now_width c_now_rain c_now_walkers c_now_stones c_now_kinds c_now_weights (0 : Int32) (-1 : Int32) (0 : Int32) c_sounds).bind fun x2 =>
  some (x2.1, x2.2)
def f_M_leastRainApart_b10 (v1 : Int32) (c_now_width : Int32) (c_now_walkers : Int32) (c_now_stones : (Nat → Int32)) (c_now_kinds : (Nat → Int32)) (c_now_weights : (Nat → Int32)) (v2 : Int32) (c_sounds : (Nat → Int64)) : Option ((Int32 × (Nat → Int64)) ⊕ ((Nat → Int64) ⊕ (Nat → Int64))) :=
  if c_now_width ≤ v2 then
    some (.inr (.inr c_sounds))
  else
    (f_M_apartUnder v2 v1 c_now_width c_now_walkers c_now_stones c_now_kinds c_now_weights c_sounds).bind fun x1 =>
    (f_D_count c_now_walkers).bind fun x2 =>
    if x1.1 = x2 then
      some (.inr (.inl x1.2))
    else
      some (.inl ((v2 + (1 : Int32)), x1.2))
def f_M_leastRainApart_l10 (v1 : Int32) (c_now_width : Int32) (c_now_walkers : Int32) (c_now_stones : (Nat → Int32)) (c_now_kinds : (Nat → Int32)) (c_now_weights : (Nat → Int32)) (v2 : Int32) (c_sounds : (Nat → Int64)) : Option ((Nat → Int64) ⊕ (Nat → Int64)) :=
  iter (fun s => f_M_leastRainApart_b10 v1 c_now_width c_now_walkers c_now_stones c_now_kinds c_now_weights s.1 s.2) FUEL (v2, c_sounds)
def f_M_leastRainApart_b2 (c_now_width : Int32) (c_now_walkers : Int32) (c_now_stones : (Nat → Int32)) (c_now_kinds : (Nat → Int32)) (c_now_weights : (Nat → Int32)) (v1 : Int32) (c_sounds : (Nat → Int64)) : Option ((Int32 × (Nat → Int64)) ⊕ ((Int32 × (Nat → Int64)) ⊕ (Nat → Int64))) :=
  if (9 : Int32) < v1 then
    some (.inr (.inr c_sounds))
  else
    (f_M_leastRainApart_l10 v1 c_now_width c_now_walkers c_now_stones c_now_kinds c_now_weights (0 : Int32) c_sounds).bind fun x3 =>
    Sum.elim (fun x4 =>
      some (.inr (.inl (v1, x4))))
    (fun x5 =>
      some (.inl ((v1 + (1 : Int32)), x5))) x3
def f_M_leastRainApart_l2 (c_now_width : Int32) (c_now_walkers : Int32) (c_now_stones : (Nat → Int32)) (c_now_kinds : (Nat → Int32)) (c_now_weights : (Nat → Int32)) (v1 : Int32) (c_sounds : (Nat → Int64)) : Option ((Int32 × (Nat → Int64)) ⊕ (Nat → Int64)) :=
  iter (fun s => f_M_leastRainApart_b2 c_now_width c_now_walkers c_now_stones c_now_kinds c_now_weights s.1 s.2) FUEL (v1, c_sounds)
def f_M_leastRainApart (c_now_width : Int32) (c_now_walkers : Int32) (c_now_stones : (Nat → Int32)) (c_now_kinds : (Nat → Int32)) (c_now_weights : (Nat → Int32)) (c_sounds : (Nat → Int64)) : Option (Int32 × (Nat → Int64)) :=
  (f_M_leastRainApart_l2 c_now_width c_now_walkers c_now_stones c_now_kinds c_now_weights (0 : Int32) c_sounds).bind fun x6 =>
  Sum.elim (fun x7 =>
    some (x7.1, x7.2))
  (fun x8 =>
    some ((-1 : Int32), x8)) x6
def f_M_telling (v1 : Int32) (c_now_width : Int32) (c_now_rain : Int32) (c_now_walkers : Int32) (c_now_stones : (Nat → Int32)) (c_now_kinds : (Nat → Int32)) (c_now_weights : (Nat → Int32)) (c_sounds : (Nat → Int64)) (c_refusals : (Nat → Int32)) : Option (Int32 × (Nat → Int64) × (Nat → Int32)) :=
  (f_M_isWithin v1 (0 : Int32) (1 : Int32)).bind fun x1 =>
  if x1 = 0 then
    (f_M_refuse (-2 : Int32) c_refusals).bind fun x4 =>
    some (x4.1, c_sounds, x4.2)
  else
    if v1 = 0 then
      (f_M_mostApart c_now_width c_now_rain c_now_walkers c_now_stones c_now_kinds c_now_weights c_sounds).bind fun x3 =>
      some (x3.1, x3.2, c_refusals)
    else
      (f_M_leastRainApart c_now_width c_now_walkers c_now_stones c_now_kinds c_now_weights c_sounds).bind fun x2 =>
      some (x2.1, x2.2, c_refusals)
def f_M_as_j26 (c_paths_width : Int32) (c_paths_steps : (Nat → Int32)) (c_paths_rest : (Nat → Int32)) (c_paths_counts : (Nat → Int32)) (c_paths_way : (Nat → Int32)) (c_refusals : (Nat → Int32)) : Option (Int32 × Int32 × (Nat → Int32) × (Nat → Int32) × (Nat → Int32) × (Nat → Int32) × (Nat → Int32)) :=
  (f_M_refuse (-2 : Int32) c_refusals).bind fun x2 =>
  some (x2.1, c_paths_width, c_paths_steps, c_paths_rest, c_paths_counts, c_paths_way, x2.2)
def f_M_as_j115 (v5 : Int32) (t1 : Int32) (t2 : Int32) (c_paths_steps : (Nat → Int32)) : Option ((Int32 × (Nat → Int32)) ⊕ (Nat → Int32)) :=
  (f_P_putStep t1 t2 c_paths_steps).bind fun x10 =>
  some (.inl ((v5 + (1 : Int32)), x10))
def f_M_as_b50 (v1 : Int32) (v2 : Int32) (v3 : Int32) (c_now_width : Int32) (c_now_rain : Int32) (c_now_stones : (Nat → Int32)) (c_now_kinds : (Nat → Int32)) (c_now_weights : (Nat → Int32)) (v5 : Int32) (c_paths_steps : (Nat → Int32)) : Option ((Int32 × (Nat → Int32)) ⊕ (Nat → Int32)) :=
  (f_D_cells c_now_width).bind fun x5 =>
  if x5 ≤ v5 then
    some (.inr c_paths_steps)
  else
    (f_D_rowOf v5 c_now_width).bind fun x6 =>
    (f_D_cellAt x6 v3 c_now_width).bind fun x7 =>
    (f_D_stepOn v1 v5 c_now_width c_now_rain c_now_stones c_now_kinds c_now_weights).bind fun x8 =>
    (f_D_stepOn v2 x7 c_now_width c_now_rain c_now_stones c_now_kinds c_now_weights).bind fun x9 =>
    if x8 = x9 then
      f_M_as_j115 v5 v5 (0 : Int32) c_paths_steps
    else
      f_M_as_j115 v5 v5 (1 : Int32) c_paths_steps
def f_M_as_l50 (v1 : Int32) (v2 : Int32) (v3 : Int32) (c_now_width : Int32) (c_now_rain : Int32) (c_now_stones : (Nat → Int32)) (c_now_kinds : (Nat → Int32)) (c_now_weights : (Nat → Int32)) (v5 : Int32) (c_paths_steps : (Nat → Int32)) : Option (Nat → Int32) :=
  iter (fun s => f_M_as_b50 v1 v2 v3 c_now_width c_now_rain c_now_stones c_now_kinds c_now_weights s.1 s.2) FUEL (v5, c_paths_steps)
def f_M_as (v1 : Int32) (v2 : Int32) (v3 : Int32) (v4 : Int32) (c_now_width : Int32) (c_now_rain : Int32) (c_now_walkers : Int32) (c_now_stones : (Nat → Int32)) (c_now_kinds : (Nat → Int32)) (c_now_weights : (Nat → Int32)) (c_paths_width : Int32) (c_paths_steps : (Nat → Int32)) (c_paths_rest : (Nat → Int32)) (c_paths_counts : (Nat → Int32)) (c_paths_way : (Nat → Int32)) (c_refusals : (Nat → Int32)) : Option (Int32 × Int32 × (Nat → Int32) × (Nat → Int32) × (Nat → Int32) × (Nat → Int32) × (Nat → Int32)) :=
  (f_M_isPair v1 v2 c_now_walkers).bind fun x1 =>
  if x1 = 0 then
    f_M_as_j26 c_paths_width c_paths_steps c_paths_rest c_paths_counts c_paths_way c_refusals
  else
    (f_M_isColumn v3 c_now_width).bind fun x3 =>
    if x3 = 0 then
      f_M_as_j26 c_paths_width c_paths_steps c_paths_rest c_paths_counts c_paths_way c_refusals
    else
      (f_M_isStepOrNone v4 c_now_width).bind fun x4 =>
      if x4 = 0 then
        f_M_as_j26 c_paths_width c_paths_steps c_paths_rest c_paths_counts c_paths_way c_refusals
      else
        (f_M_as_l50 v1 v2 v3 c_now_width c_now_rain c_now_stones c_now_kinds c_now_weights (0 : Int32) c_paths_steps).bind fun x11 =>
        (f_M_toldOfOpenWays v4 c_now_width x11 c_paths_rest c_paths_counts c_paths_way c_refusals).bind fun x12 =>
        some (x12.1, c_now_width, x11, x12.2.1, x12.2.2.1, x12.2.2.2.1, x12.2.2.2.2)
def f_M_areTogether_b3 (v1 : Int32) (v2 : Int32) (v3 : Int32) (v4 : Int32) (v5 : Int32) (c_now_width : Int32) (c_now_rain : Int32) (c_now_stones : (Nat → Int32)) (c_now_kinds : (Nat → Int32)) (c_now_weights : (Nat → Int32)) (c_shelves_sizes : (Nat → Int32)) (c_shelves_elements : (Nat → Int64)) (v6 : Int32) : Option (Int32 ⊕ (Unit ⊕ Unit)) :=
  if c_now_width ≤ v6 then
    some (.inr (.inr ()))
  else
    (f_D_cellAt v6 v3 c_now_width).bind fun x1 =>
    (f_D_stepOn v2 x1 c_now_width c_now_rain c_now_stones c_now_kinds c_now_weights).bind fun x2 =>
    (f_D_cellAt v6 v5 c_now_width).bind fun x3 =>
    (f_D_stepOn v4 x3 c_now_width c_now_rain c_now_stones c_now_kinds c_now_weights).bind fun x4 =>
    (f_S_elementOf v1 v6 c_shelves_sizes c_shelves_elements).bind fun x5 =>
    if (lg_cmp (Int32.toInt64 (x2 + x4)) x5) = 0 then
      some (.inl (v6 + (1 : Int32)))
    else
      some (.inr (.inl ()))
def f_M_areTogether_l3 (v1 : Int32) (v2 : Int32) (v3 : Int32) (v4 : Int32) (v5 : Int32) (c_now_width : Int32) (c_now_rain : Int32) (c_now_stones : (Nat → Int32)) (c_now_kinds : (Nat → Int32)) (c_now_weights : (Nat → Int32)) (c_shelves_sizes : (Nat → Int32)) (c_shelves_elements : (Nat → Int64)) (v6 : Int32) : Option (Unit ⊕ Unit) :=
  iter (fun s => f_M_areTogether_b3 v1 v2 v3 v4 v5 c_now_width c_now_rain c_now_stones c_now_kinds c_now_weights c_shelves_sizes c_shelves_elements s) FUEL v6
def f_M_areTogether (v1 : Int32) (v2 : Int32) (v3 : Int32) (v4 : Int32) (v5 : Int32) (c_now_width : Int32) (c_now_rain : Int32) (c_now_stones : (Nat → Int32)) (c_now_kinds : (Nat → Int32)) (c_now_weights : (Nat → Int32)) (c_shelves_sizes : (Nat → Int32)) (c_shelves_elements : (Nat → Int64)) : Option Int32 :=
  (f_M_areTogether_l3 v1 v2 v3 v4 v5 c_now_width c_now_rain c_now_stones c_now_kinds c_now_weights c_shelves_sizes c_shelves_elements (0 : Int32)).bind fun x6 =>
  Sum.elim (fun x7 =>
    some (0 : Int32))
  (fun x8 =>
    some (1 : Int32)) x6
def f_M_two_j38 (c_refusals : (Nat → Int32)) : Option (Int32 × (Nat → Int32)) :=
  (f_M_refuse (-2 : Int32) c_refusals).bind fun x2 =>
  some (x2.1, x2.2)
def f_M_two_b95 (v1 : Int32) (v2 : Int32) (v3 : Int32) (v8 : Int32) (c_now_width : Int32) (c_now_rain : Int32) (c_now_walkers : Int32) (c_now_stones : (Nat → Int32)) (c_now_kinds : (Nat → Int32)) (c_now_weights : (Nat → Int32)) (c_shelves_sizes : (Nat → Int32)) (c_shelves_elements : (Nat → Int64)) (v6 : Int32) (v7 : Int32) (v9 : Int32) : Option ((Int32 × Int32 × Int32) ⊕ (Int32 × Int32)) :=
  (f_D_count c_now_walkers).bind fun x8 =>
  if x8 ≤ v9 then
    some (.inr (v6, v7))
  else
    if v8 = v9 then
      some (.inl (v6, v7, (v9 + (1 : Int32))))
    else
      (f_M_areTogether v1 v8 v2 v9 v3 c_now_width c_now_rain c_now_stones c_now_kinds c_now_weights c_shelves_sizes c_shelves_elements).bind fun x9 =>
      if x9 = 0 then
        some (.inl (v6, v7, (v9 + (1 : Int32))))
      else
        if v6 = 0 then
          some (.inl ((v6 + (1 : Int32)), (((10 : Int32) * v8) + v9), (v9 + (1 : Int32))))
        else
          some (.inl ((v6 + (1 : Int32)), v7, (v9 + (1 : Int32))))
def f_M_two_l95 (v1 : Int32) (v2 : Int32) (v3 : Int32) (v8 : Int32) (c_now_width : Int32) (c_now_rain : Int32) (c_now_walkers : Int32) (c_now_stones : (Nat → Int32)) (c_now_kinds : (Nat → Int32)) (c_now_weights : (Nat → Int32)) (c_shelves_sizes : (Nat → Int32)) (c_shelves_elements : (Nat → Int64)) (v6 : Int32) (v7 : Int32) (v9 : Int32) : Option (Int32 × Int32) :=
  iter (fun s => f_M_two_b95 v1 v2 v3 v8 c_now_width c_now_rain c_now_walkers c_now_stones c_now_kinds c_now_weights c_shelves_sizes c_shelves_elements s.1 s.2.1 s.2.2) FUEL (v6, v7, v9)
def f_M_two_b80 (v1 : Int32) (v2 : Int32) (v3 : Int32) (c_now_width : Int32) (c_now_rain : Int32) (c_now_walkers : Int32) (c_now_stones : (Nat → Int32)) (c_now_kinds : (Nat → Int32)) (c_now_weights : (Nat → Int32)) (c_shelves_sizes : (Nat → Int32)) (c_shelves_elements : (Nat → Int64)) (v6 : Int32) (v7 : Int32) (v8 : Int32) : Option ((Int32 × Int32 × Int32) ⊕ (Int32 × Int32)) :=
  (f_D_count c_now_walkers).bind fun x7 =>
  if x7 ≤ v8 then
    some (.inr (v6, v7))
  else
    (f_M_two_l95 v1 v2 v3 v8 c_now_width c_now_rain c_now_walkers c_now_stones c_now_kinds c_now_weights c_shelves_sizes c_shelves_elements v6 v7 (0 : Int32)).bind fun x10 =>
    some (.inl (x10.1, x10.2, (v8 + (1 : Int32))))
def f_M_two_l80 (v1 : Int32) (v2 : Int32) (v3 : Int32) (c_now_width : Int32) (c_now_rain : Int32) (c_now_walkers : Int32) (c_now_stones : (Nat → Int32)) (c_now_kinds : (Nat → Int32)) (c_now_weights : (Nat → Int32)) (c_shelves_sizes : (Nat → Int32)) (c_shelves_elements : (Nat → Int64)) (v6 : Int32) (v7 : Int32) (v8 : Int32) : Option (Int32 × Int32) :=
  iter (fun s => f_M_two_b80 v1 v2 v3 c_now_width c_now_rain c_now_walkers c_now_stones c_now_kinds c_now_weights c_shelves_sizes c_shelves_elements s.1 s.2.1 s.2.2) FUEL (v6, v7, v8)
def f_M_two (v1 : Int32) (v2 : Int32) (v3 : Int32) (v4 : Int32) (c_now_width : Int32) (c_now_rain : Int32) (c_now_walkers : Int32) (c_now_stones : (Nat → Int32)) (c_now_kinds : (Nat → Int32)) (c_now_weights : (Nat → Int32)) (c_shelves_marks : (Nat → Int32)) (c_shelves_sizes : (Nat → Int32)) (c_shelves_elements : (Nat → Int64)) (c_refusals : (Nat → Int32)) : Option (Int32 × (Nat → Int32)) :=
  (f_M_isShelf v1).bind fun x1 =>
  if x1 = 0 then
    f_M_two_j38 c_refusals
  else
    (f_M_isColumn v2 c_now_width).bind fun x3 =>
    if x3 = 0 then
      f_M_two_j38 c_refusals
    else
      (f_M_isColumn v3 c_now_width).bind fun x4 =>
      if x4 = 0 then
        f_M_two_j38 c_refusals
      else
        if v2 = v3 then
          f_M_two_j38 c_refusals
        else
          (f_M_isWithin v4 (0 : Int32) (1 : Int32)).bind fun x5 =>
          if x5 = 0 then
            f_M_two_j38 c_refusals
          else
            (f_M_whyNoRowOf v1 c_now_width c_shelves_marks c_shelves_sizes).bind fun x6 =>
            if x6 = 0 then
              (f_M_two_l80 v1 v2 v3 c_now_width c_now_rain c_now_walkers c_now_stones c_now_kinds c_now_weights c_shelves_sizes c_shelves_elements (0 : Int32) (-1 : Int32) (0 : Int32)).bind fun x11 =>
              if v4 = 0 then
                some (x11.1, c_refusals)
              else
                some (x11.2, c_refusals)
            else
              (f_M_refuse x6 c_refusals).bind fun x12 =>
              some (x12.1, x12.2)
def f_M_kindsMeant_b6 (v1 : Int32) (v2 : Int32) (v3 : Int32) (c_now_width : Int32) (c_now_rain : Int32) (c_now_stones : (Nat → Int32)) (c_now_weights : (Nat → Int32)) (c_shelves_sizes : (Nat → Int32)) (c_shelves_elements : (Nat → Int64)) (v4 : Int32) (v5 : Int32) : Option ((Int32 × Int32) ⊕ Int32) :=
  if (6 : Int32) ≤ v5 then
    some (.inr v4)
  else
    (f_D_weightOf v2 c_now_weights).bind fun x1 =>
    (f_M_isToldSo v1 v5 x1 v3 c_now_width c_now_width c_now_rain c_now_stones c_shelves_sizes c_shelves_elements).bind fun x2 =>
    if x2 = 0 then
      some (.inl (v4, (v5 + (1 : Int32))))
    else
      some (.inl ((v4 ||| ((1 : Int32) <<< (v5 &&& 31))), (v5 + (1 : Int32))))
def f_M_kindsMeant_l6 (v1 : Int32) (v2 : Int32) (v3 : Int32) (c_now_width : Int32) (c_now_rain : Int32) (c_now_stones : (Nat → Int32)) (c_now_weights : (Nat → Int32)) (c_shelves_sizes : (Nat → Int32)) (c_shelves_elements : (Nat → Int64)) (v4 : Int32) (v5 : Int32) : Option Int32 :=
  iter (fun s => f_M_kindsMeant_b6 v1 v2 v3 c_now_width c_now_rain c_now_stones c_now_weights c_shelves_sizes c_shelves_elements s.1 s.2) FUEL (v4, v5)
def f_M_kindsMeant (v1 : Int32) (v2 : Int32) (v3 : Int32) (c_now_width : Int32) (c_now_rain : Int32) (c_now_stones : (Nat → Int32)) (c_now_weights : (Nat → Int32)) (c_shelves_sizes : (Nat → Int32)) (c_shelves_elements : (Nat → Int64)) : Option Int32 :=
  (f_M_kindsMeant_l6 v1 v2 v3 c_now_width c_now_rain c_now_stones c_now_weights c_shelves_sizes c_shelves_elements (0 : Int32) (0 : Int32)).bind fun x3 =>
  some x3
def f_M_leastWeightMeant_b3 (v1 : Int32) (v2 : Int32) (v3 : Int32) (c_now_width : Int32) (c_now_rain : Int32) (c_now_stones : (Nat → Int32)) (c_now_kinds : (Nat → Int32)) (c_shelves_sizes : (Nat → Int32)) (c_shelves_elements : (Nat → Int64)) (v4 : Int32) : Option (Int32 ⊕ (Int32 ⊕ Unit)) :=
  if (9 : Int32) < v4 then
    some (.inr (.inr ()))
  else
    (f_D_kindOf v2 c_now_kinds).bind fun x1 =>
    (f_M_isToldSo v1 x1 v4 v3 c_now_width c_now_width c_now_rain c_now_stones c_shelves_sizes c_shelves_elements).bind fun x2 =>
    if x2 = 0 then
      some (.inl (v4 + (1 : Int32)))
    else
      some (.inr (.inl v4))
def f_M_leastWeightMeant_l3 (v1 : Int32) (v2 : Int32) (v3 : Int32) (c_now_width : Int32) (c_now_rain : Int32) (c_now_stones : (Nat → Int32)) (c_now_kinds : (Nat → Int32)) (c_shelves_sizes : (Nat → Int32)) (c_shelves_elements : (Nat → Int64)) (v4 : Int32) : Option (Int32 ⊕ Unit) :=
  iter (fun s => f_M_leastWeightMeant_b3 v1 v2 v3 c_now_width c_now_rain c_now_stones c_now_kinds c_shelves_sizes c_shelves_elements s) FUEL v4
def f_M_leastWeightMeant (v1 : Int32) (v2 : Int32) (v3 : Int32) (c_now_width : Int32) (c_now_rain : Int32) (c_now_stones : (Nat → Int32)) (c_now_kinds : (Nat → Int32)) (c_shelves_sizes : (Nat → Int32)) (c_shelves_elements : (Nat → Int64)) : Option Int32 :=
  (f_M_leastWeightMeant_l3 v1 v2 v3 c_now_width c_now_rain c_now_stones c_now_kinds c_shelves_sizes c_shelves_elements (0 : Int32)).bind fun x3 =>
  Sum.elim (fun x4 =>
    some x4)
  (fun x5 =>
    some (-1 : Int32)) x3
def f_M_meant_j33 (c_refusals : (Nat → Int32)) : Option (Int32 × (Nat → Int32)) :=
  (f_M_refuse (-2 : Int32) c_refusals).bind fun x2 =>
  some (x2.1, x2.2)
def f_M_meant (v1 : Int32) (v2 : Int32) (v3 : Int32) (v4 : Int32) (c_now_width : Int32) (c_now_rain : Int32) (c_now_walkers : Int32) (c_now_stones : (Nat → Int32)) (c_now_kinds : (Nat → Int32)) (c_now_weights : (Nat → Int32)) (c_shelves_marks : (Nat → Int32)) (c_shelves_sizes : (Nat → Int32)) (c_shelves_elements : (Nat → Int64)) (c_refusals : (Nat → Int32)) : Option (Int32 × (Nat → Int32)) :=
  (f_M_isShelf v1).bind fun x1 =>
  if x1 = 0 then
    f_M_meant_j33 c_refusals
  else
    (f_M_isFeet v2 c_now_walkers).bind fun x3 =>
    if x3 = 0 then
      f_M_meant_j33 c_refusals
    else
      (f_M_isColumn v3 c_now_width).bind fun x4 =>
      if x4 = 0 then
        f_M_meant_j33 c_refusals
      else
        (f_M_isWithin v4 (0 : Int32) (1 : Int32)).bind fun x5 =>
        if x5 = 0 then
          f_M_meant_j33 c_refusals
        else
          (f_M_whyNoRowOf v1 c_now_width c_shelves_marks c_shelves_sizes).bind fun x6 =>
          if x6 = 0 then
            if v4 = 0 then
              (f_M_kindsMeant v1 v2 v3 c_now_width c_now_rain c_now_stones c_now_weights c_shelves_sizes c_shelves_elements).bind fun x8 =>
              some (x8, c_refusals)
            else
              (f_M_leastWeightMeant v1 v2 v3 c_now_width c_now_rain c_now_stones c_now_kinds c_shelves_sizes c_shelves_elements).bind fun x7 =>
              some (x7, c_refusals)
          else
            (f_M_refuse x6 c_refusals).bind fun x9 =>
            some (x9.1, x9.2)
def f_JM_abs1 (v0 : Int64) : Option Int64 :=
  if 0 ≤ (lg_cmp v0 (0 : Int64)) then
    some v0
  else
    some (-v0)
def f_M_wrongIn_j100 (v3 : Int32) (v6 : Int64) (t0 : Int64) : Option (Int32 ⊕ (Int32 ⊕ (Int32 ⊕ Unit))) :=
  (f_JM_abs1 (v6 - t0)).bind fun x3 =>
  if (lg_cmp x3 (1 : Int64)) ≤ 0 then
    some (.inl (v3 + (1 : Int32)))
  else
    some (.inr (.inr (.inl v3)))
def f_M_wrongIn_b2 (v1 : Int32) (v2 : Int32) (c_now_width : Int32) (c_shelves_sizes : (Nat → Int32)) (c_shelves_elements : (Nat → Int64)) (v3 : Int32) : Option (Int32 ⊕ (Int32 ⊕ (Int32 ⊕ Unit))) :=
  if v2 ≤ v3 then
    some (.inr (.inr (.inr ())))
  else
    (f_S_elementOf v1 v3 c_shelves_sizes c_shelves_elements).bind fun x1 =>
    if c_now_width ≤ v3 then
      some (.inr (.inl v3))
    else
      if (lg_cmp (x1 - ((Int32.toInt64 v3) * (Int32.toInt64 c_now_width))) (0 : Int64)) < 0 then
        some (.inr (.inl v3))
      else
        if (lg_cmp (x1 - ((Int32.toInt64 v3) * (Int32.toInt64 c_now_width))) (Int32.toInt64 c_now_width)) < 0 then
          if v3 = 0 then
            f_M_wrongIn_j100 v3 (x1 - ((Int32.toInt64 v3) * (Int32.toInt64 c_now_width))) (x1 - ((Int32.toInt64 v3) * (Int32.toInt64 c_now_width)))
          else
            (f_S_elementOf v1 (v3 - (1 : Int32)) c_shelves_sizes c_shelves_elements).bind fun x2 =>
            f_M_wrongIn_j100 v3 (x1 - ((Int32.toInt64 v3) * (Int32.toInt64 c_now_width))) ((x2 - ((Int32.toInt64 v3) * (Int32.toInt64 c_now_width))) + (Int32.toInt64 c_now_width))
        else
          some (.inr (.inl v3))
def f_M_wrongIn_l2 (v1 : Int32) (v2 : Int32) (c_now_width : Int32) (c_shelves_sizes : (Nat → Int32)) (c_shelves_elements : (Nat → Int64)) (v3 : Int32) : Option (Int32 ⊕ (Int32 ⊕ Unit)) :=
  iter (fun s => f_M_wrongIn_b2 v1 v2 c_now_width c_shelves_sizes c_shelves_elements s) FUEL v3
def f_M_wrongIn (v1 : Int32) (v2 : Int32) (c_now_width : Int32) (c_shelves_sizes : (Nat → Int32)) (c_shelves_elements : (Nat → Int64)) : Option Int32 :=
  (f_M_wrongIn_l2 v1 v2 c_now_width c_shelves_sizes c_shelves_elements (0 : Int32)).bind fun x4 =>
  Sum.elim (fun x5 =>
    some x5)
  (fun x6 =>
    Sum.elim (fun x7 =>
      some x7)
    (fun x8 =>
      if c_now_width ≤ v2 then
        some (-1 : Int32)
      else
        some v2) x6) x4
def f_M_judge_j17 (c_refusals : (Nat → Int32)) : Option (Int32 × (Nat → Int32)) :=
  (f_M_refuse (-2 : Int32) c_refusals).bind fun x2 =>
  some (x2.1, x2.2)
def f_M_judge (v1 : Int32) (v2 : Int32) (c_now_width : Int32) (c_shelves_marks : (Nat → Int32)) (c_shelves_sizes : (Nat → Int32)) (c_shelves_elements : (Nat → Int64)) (c_refusals : (Nat → Int32)) : Option (Int32 × (Nat → Int32)) :=
  (f_M_isShelf v1).bind fun x1 =>
  if x1 = 0 then
    f_M_judge_j17 c_refusals
  else
    (f_M_isWithin v2 (0 : Int32) (40 : Int32)).bind fun x3 =>
    if x3 = 0 then
      f_M_judge_j17 c_refusals
    else
      (f_M_whyNoRowOf v1 v2 c_shelves_marks c_shelves_sizes).bind fun x4 =>
      if x4 = 0 then
        (f_M_wrongIn v1 v2 c_now_width c_shelves_sizes c_shelves_elements).bind fun x5 =>
        some (x5, c_refusals)
      else
        (f_M_refuse x4 c_refusals).bind fun x6 =>
        some (x6.1, x6.2)
def f_M_whyNoWay (v1 : Int32) (v2 : Int32) (c_now_width : Int32) (c_shelves_marks : (Nat → Int32)) (c_shelves_sizes : (Nat → Int32)) (c_shelves_elements : (Nat → Int64)) : Option Int32 :=
  (f_M_whyNoRowOf v1 v2 c_shelves_marks c_shelves_sizes).bind fun x1 =>
  if x1 = 0 then
    (f_M_wrongIn v1 v2 c_now_width c_shelves_sizes c_shelves_elements).bind fun x2 =>
    if x2 = (-1 : Int32) then
      some (0 : Int32)
    else
      some (-5 : Int32)
  else
    some x1
def f_M_allAlong_b5 (v1 : Int32) (v2 : Int32) (c_now_width : Int32) (c_now_rain : Int32) (c_now_stones : (Nat → Int32)) (c_now_kinds : (Nat → Int32)) (c_now_weights : (Nat → Int32)) (c_shelves_sizes : (Nat → Int32)) (c_shelves_elements : (Nat → Int64)) (v3 : Int32) (v4 : Int32) : Option ((Int32 × Int32) ⊕ Int32) :=
  if c_now_width ≤ v4 then
    some (.inr v3)
  else
    (f_S_elementOf v1 v4 c_shelves_sizes c_shelves_elements).bind fun x1 =>
    (f_D_stepOn v2 (Int64.toInt32 x1) c_now_width c_now_rain c_now_stones c_now_kinds c_now_weights).bind fun x2 =>
    some (.inl ((v3 + x2), (v4 + (1 : Int32))))
def f_M_allAlong_l5 (v1 : Int32) (v2 : Int32) (c_now_width : Int32) (c_now_rain : Int32) (c_now_stones : (Nat → Int32)) (c_now_kinds : (Nat → Int32)) (c_now_weights : (Nat → Int32)) (c_shelves_sizes : (Nat → Int32)) (c_shelves_elements : (Nat → Int64)) (v3 : Int32) (v4 : Int32) : Option Int32 :=
  iter (fun s => f_M_allAlong_b5 v1 v2 c_now_width c_now_rain c_now_stones c_now_kinds c_now_weights c_shelves_sizes c_shelves_elements s.1 s.2) FUEL (v3, v4)
def f_M_allAlong (v1 : Int32) (v2 : Int32) (c_now_width : Int32) (c_now_rain : Int32) (c_now_stones : (Nat → Int32)) (c_now_kinds : (Nat → Int32)) (c_now_weights : (Nat → Int32)) (c_shelves_sizes : (Nat → Int32)) (c_shelves_elements : (Nat → Int64)) : Option Int32 :=
  (f_M_allAlong_l5 v1 v2 c_now_width c_now_rain c_now_stones c_now_kinds c_now_weights c_shelves_sizes c_shelves_elements (0 : Int32) (0 : Int32)).bind fun x3 =>
  some x3
def f_M_firstHeardAlong_b2 (v1 : Int32) (v2 : Int32) (c_now_width : Int32) (c_now_rain : Int32) (c_now_ear : Int32) (c_now_stones : (Nat → Int32)) (c_now_kinds : (Nat → Int32)) (c_now_weights : (Nat → Int32)) (c_shelves_sizes : (Nat → Int32)) (c_shelves_elements : (Nat → Int64)) (v3 : Int32) : Option (Int32 ⊕ (Int32 ⊕ Unit)) :=
  if c_now_width ≤ v3 then
    some (.inr (.inr ()))
  else
    (f_S_elementOf v1 v3 c_shelves_sizes c_shelves_elements).bind fun x1 =>
    (f_D_stepOn v2 (Int64.toInt32 x1) c_now_width c_now_rain c_now_stones c_now_kinds c_now_weights).bind fun x2 =>
    if x2 < c_now_ear then
      some (.inl (v3 + (1 : Int32)))
    else
      some (.inr (.inl v3))
def f_M_firstHeardAlong_l2 (v1 : Int32) (v2 : Int32) (c_now_width : Int32) (c_now_rain : Int32) (c_now_ear : Int32) (c_now_stones : (Nat → Int32)) (c_now_kinds : (Nat → Int32)) (c_now_weights : (Nat → Int32)) (c_shelves_sizes : (Nat → Int32)) (c_shelves_elements : (Nat → Int64)) (v3 : Int32) : Option (Int32 ⊕ Unit) :=
  iter (fun s => f_M_firstHeardAlong_b2 v1 v2 c_now_width c_now_rain c_now_ear c_now_stones c_now_kinds c_now_weights c_shelves_sizes c_shelves_elements s) FUEL v3
def f_M_firstHeardAlong (v1 : Int32) (v2 : Int32) (c_now_width : Int32) (c_now_rain : Int32) (c_now_ear : Int32) (c_now_stones : (Nat → Int32)) (c_now_kinds : (Nat → Int32)) (c_now_weights : (Nat → Int32)) (c_shelves_sizes : (Nat → Int32)) (c_shelves_elements : (Nat → Int64)) : Option Int32 :=
  (f_M_firstHeardAlong_l2 v1 v2 c_now_width c_now_rain c_now_ear c_now_stones c_now_kinds c_now_weights c_shelves_sizes c_shelves_elements (0 : Int32)).bind fun x3 =>
  Sum.elim (fun x4 =>
    some x4)
  (fun x5 =>
    some (-1 : Int32)) x3
def f_M_loud_j35 (c_refusals : (Nat → Int32)) : Option (Int32 × (Nat → Int32)) :=
  (f_M_refuse (-2 : Int32) c_refusals).bind fun x2 =>
  some (x2.1, x2.2)
def f_M_loud (v1 : Int32) (v2 : Int32) (v3 : Int32) (v4 : Int32) (c_now_width : Int32) (c_now_rain : Int32) (c_now_ear : Int32) (c_now_walkers : Int32) (c_now_stones : (Nat → Int32)) (c_now_kinds : (Nat → Int32)) (c_now_weights : (Nat → Int32)) (c_shelves_marks : (Nat → Int32)) (c_shelves_sizes : (Nat → Int32)) (c_shelves_elements : (Nat → Int64)) (c_refusals : (Nat → Int32)) : Option (Int32 × (Nat → Int32)) :=
  (f_M_isShelf v1).bind fun x1 =>
  if x1 = 0 then
    f_M_loud_j35 c_refusals
  else
    (f_M_isWithin v2 (0 : Int32) (40 : Int32)).bind fun x3 =>
    if x3 = 0 then
      f_M_loud_j35 c_refusals
    else
      (f_M_isFeet v3 c_now_walkers).bind fun x4 =>
      if x4 = 0 then
        f_M_loud_j35 c_refusals
      else
        (f_M_isWithin v4 (0 : Int32) (1 : Int32)).bind fun x5 =>
        if x5 = 0 then
          f_M_loud_j35 c_refusals
        else
          (f_M_whyNoWay v1 v2 c_now_width c_shelves_marks c_shelves_sizes c_shelves_elements).bind fun x6 =>
          if x6 = 0 then
            if v4 = 0 then
              (f_M_allAlong v1 v3 c_now_width c_now_rain c_now_stones c_now_kinds c_now_weights c_shelves_sizes c_shelves_elements).bind fun x8 =>
              some (x8, c_refusals)
            else
              (f_M_firstHeardAlong v1 v3 c_now_width c_now_rain c_now_ear c_now_stones c_now_kinds c_now_weights c_shelves_sizes c_shelves_elements).bind fun x7 =>
              some (x7, c_refusals)
          else
            (f_M_refuse x6 c_refusals).bind fun x9 =>
            some (x9.1, x9.2)
def f_M_done_j25 (c_now_stones : (Nat → Int32)) (c_refusals : (Nat → Int32)) : Option (Int32 × (Nat → Int32) × (Nat → Int32)) :=
  (f_M_refuse (-2 : Int32) c_refusals).bind fun x2 =>
  some (x2.1, c_now_stones, x2.2)
def f_M_done_b63 (v1 : Int32) (c_now_width : Int32) (c_shelves_sizes : (Nat → Int32)) (c_shelves_elements : (Nat → Int64)) (v6 : Int32) (c_now_stones : (Nat → Int32)) : Option ((Int32 × (Nat → Int32)) ⊕ (Nat → Int32)) :=
  if c_now_width ≤ v6 then
    some (.inr c_now_stones)
  else
    (f_S_elementOf v1 v6 c_shelves_sizes c_shelves_elements).bind fun x7 =>
    (f_D_stonesOn (Int64.toInt32 x7) c_now_stones).bind fun x8 =>
    (f_D_pour (Int64.toInt32 x7) (imax (0 : Int32) (x8 - (1 : Int32))) c_now_stones).bind fun x9 =>
    some (.inl ((v6 + (1 : Int32)), x9))
def f_M_done_l63 (v1 : Int32) (c_now_width : Int32) (c_shelves_sizes : (Nat → Int32)) (c_shelves_elements : (Nat → Int64)) (v6 : Int32) (c_now_stones : (Nat → Int32)) : Option (Nat → Int32) :=
  iter (fun s => f_M_done_b63 v1 c_now_width c_shelves_sizes c_shelves_elements s.1 s.2) FUEL (v6, c_now_stones)
def f_M_done (v1 : Int32) (v2 : Int32) (v3 : Int32) (c_now_width : Int32) (c_now_rain : Int32) (c_now_walkers : Int32) (c_now_stones : (Nat → Int32)) (c_now_kinds : (Nat → Int32)) (c_now_weights : (Nat → Int32)) (c_shelves_marks : (Nat → Int32)) (c_shelves_sizes : (Nat → Int32)) (c_shelves_elements : (Nat → Int64)) (c_refusals : (Nat → Int32)) : Option (Int32 × (Nat → Int32) × (Nat → Int32)) :=
  (f_M_isShelf v1).bind fun x1 =>
  if x1 = 0 then
    f_M_done_j25 c_now_stones c_refusals
  else
    (f_M_isWithin v2 (0 : Int32) (40 : Int32)).bind fun x3 =>
    if x3 = 0 then
      f_M_done_j25 c_now_stones c_refusals
    else
      (f_M_isFeet v3 c_now_walkers).bind fun x4 =>
      if x4 = 0 then
        f_M_done_j25 c_now_stones c_refusals
      else
        (f_M_whyNoWay v1 v2 c_now_width c_shelves_marks c_shelves_sizes c_shelves_elements).bind fun x5 =>
        if x5 = 0 then
          (f_M_allAlong v1 v3 c_now_width c_now_rain c_now_stones c_now_kinds c_now_weights c_shelves_sizes c_shelves_elements).bind fun x6 =>
          (f_M_done_l63 v1 c_now_width c_shelves_sizes c_shelves_elements (0 : Int32) c_now_stones).bind fun x10 =>
          some (x6, x10, c_refusals)
        else
          (f_M_refuse x5 c_refusals).bind fun x11 =>
          some (x11.1, c_now_stones, x11.2)
def f_D_allStones_b4 (c_width : Int32) (c_stones : (Nat → Int32)) (v1 : Int32) (v2 : Int32) : Option ((Int32 × Int32) ⊕ Int32) :=
  (f_D_cells c_width).bind fun x1 =>
  if x1 ≤ v2 then
    some (.inr v1)
  else
    (rd c_stones 36 v2).bind fun x2 =>
    some (.inl ((v1 + x2), (v2 + (1 : Int32))))
def f_D_allStones_l4 (c_width : Int32) (c_stones : (Nat → Int32)) (v1 : Int32) (v2 : Int32) : Option Int32 :=
  iter (fun s => f_D_allStones_b4 c_width c_stones s.1 s.2) FUEL (v1, v2)
def f_D_allStones (c_width : Int32) (c_stones : (Nat → Int32)) : Option Int32 :=
  (f_D_allStones_l4 c_width c_stones (0 : Int32) (0 : Int32)).bind fun x3 =>
  some x3
def f_M_rake (c_now_width : Int32) (c_now_stones : (Nat → Int32)) : Option (Int32 × (Nat → Int32)) :=
  (f_D_rakeAll c_now_width c_now_stones).bind fun x1 =>
  (f_D_allStones c_now_width x1).bind fun x2 =>
  some (x2, x1)
def f_M_sweep_b19 (v1 : Int32) (c_now_width : Int32) (v2 : Int32) (v3 : Int32) (c_now_stones : (Nat → Int32)) : Option ((Int32 × Int32 × (Nat → Int32)) ⊕ (Int32 × (Nat → Int32))) :=
  if c_now_width ≤ v3 then
    some (.inr (v2, c_now_stones))
  else
    (f_D_cellAt v3 v1 c_now_width).bind fun x2 =>
    (f_D_stonesOn x2 c_now_stones).bind fun x3 =>
    (f_D_pour x2 (0 : Int32) c_now_stones).bind fun x4 =>
    some (.inl ((v2 + x3), (v3 + (1 : Int32)), x4))
def f_M_sweep_l19 (v1 : Int32) (c_now_width : Int32) (v2 : Int32) (v3 : Int32) (c_now_stones : (Nat → Int32)) : Option (Int32 × (Nat → Int32)) :=
  iter (fun s => f_M_sweep_b19 v1 c_now_width s.1 s.2.1 s.2.2) FUEL (v2, v3, c_now_stones)
def f_M_sweep (v1 : Int32) (c_now_width : Int32) (c_now_stones : (Nat → Int32)) (c_refusals : (Nat → Int32)) : Option (Int32 × (Nat → Int32) × (Nat → Int32)) :=
  (f_M_isColumn v1 c_now_width).bind fun x1 =>
  if x1 = 0 then
    (f_M_refuse (-2 : Int32) c_refusals).bind fun x6 =>
    some (x6.1, c_now_stones, x6.2)
  else
    (f_M_sweep_l19 v1 c_now_width (0 : Int32) (0 : Int32) c_now_stones).bind fun x5 =>
    some (x5.1, x5.2, c_refusals)
def f_D_drawBelow (v1 : Int32) (c_seed : Int32) : Option (Int32 × Int32) :=
  if v1 ≤ 0 then
    some ((0 : Int32), ((c_seed * (1103515245 : Int32)) + (12345 : Int32)))
  else
    (rm (ushr ((c_seed * (1103515245 : Int32)) + (12345 : Int32)) (16 : Int32)) v1).bind fun x1 =>
    some (x1, ((c_seed * (1103515245 : Int32)) + (12345 : Int32)))
def f_D_drawFeet_b11 (c_walkers : Int32) (c_chances : (Nat → Int32)) (v1 : Int32) (v2 : Int32) : Option ((Int32 × Int32) ⊕ (Int32 ⊕ Unit)) :=
  (f_D_count c_walkers).bind fun x3 =>
  if x3 ≤ v2 then
    some (.inr (.inr ()))
  else
    (f_D_chanceOf v2 c_chances).bind fun x4 =>
    if 0 ≤ (v1 - x4) then
      some (.inl ((v1 - x4), (v2 + (1 : Int32))))
    else
      some (.inr (.inl v2))
def f_D_drawFeet_l11 (c_walkers : Int32) (c_chances : (Nat → Int32)) (v1 : Int32) (v2 : Int32) : Option (Int32 ⊕ Unit) :=
  iter (fun s => f_D_drawFeet_b11 c_walkers c_chances s.1 s.2) FUEL (v1, v2)
def f_D_drawFeet (c_walkers : Int32) (c_seed : Int32) (c_chances : (Nat → Int32)) : Option (Int32 × Int32) :=
  (f_D_allChances c_walkers c_chances).bind fun x1 =>
  (f_D_drawBelow x1 c_seed).bind fun x2 =>
  (f_D_drawFeet_l11 c_walkers c_chances x2.1 (0 : Int32)).bind fun x5 =>
  Sum.elim (fun x6 =>
    some (x6, x2.2))
  (fun x7 =>
    some ((0 : Int32), x2.2)) x5
def f_M_arrivals_b38 (v1 : Int32) (c_now_width : Int32) (c_now_rain : Int32) (c_now_walkers : Int32) (c_now_stones : (Nat → Int32)) (c_now_kinds : (Nat → Int32)) (c_now_weights : (Nat → Int32)) (c_now_chances : (Nat → Int32)) (v2 : Int32) (v3 : Int32) (c_now_seed : Int32) (c_sounds : (Nat → Int64)) : Option ((Int32 × Int32 × Int32 × (Nat → Int64)) ⊕ (Int32 × Int32 × (Nat → Int64))) :=
  if v1 ≤ v3 then
    some (.inr (v2, c_now_seed, c_sounds))
  else
    (f_D_drawFeet c_now_walkers c_now_seed c_now_chances).bind fun x3 =>
    (f_D_drawBelow c_now_width x3.2).bind fun x4 =>
    (f_M_listen x4.1 c_now_rain c_now_width c_now_walkers c_now_stones c_now_kinds c_now_weights c_sounds).bind fun x5 =>
    (f_M_soundingAs x3.1 c_now_walkers x5).bind fun x6 =>
    (f_M_likeliestOf x6 c_now_walkers c_now_chances).bind fun x7 =>
    if x3.1 = x7 then
      some (.inl ((v2 + (1 : Int32)), (v3 + (1 : Int32)), x4.2, x5))
    else
      some (.inl (v2, (v3 + (1 : Int32)), x4.2, x5))
def f_M_arrivals_l38 (v1 : Int32) (c_now_width : Int32) (c_now_rain : Int32) (c_now_walkers : Int32) (c_now_stones : (Nat → Int32)) (c_now_kinds : (Nat → Int32)) (c_now_weights : (Nat → Int32)) (c_now_chances : (Nat → Int32)) (v2 : Int32) (v3 : Int32) (c_now_seed : Int32) (c_sounds : (Nat → Int64)) : Option (Int32 × Int32 × (Nat → Int64)) :=
  iter (fun s => f_M_arrivals_b38 v1 c_now_width c_now_rain c_now_walkers c_now_stones c_now_kinds c_now_weights c_now_chances s.1 s.2.1 s.2.2.1 s.2.2.2) FUEL (v2, v3, c_now_seed, c_sounds)
def f_M_arrivals (v1 : Int32) (c_now_width : Int32) (c_now_rain : Int32) (c_now_walkers : Int32) (c_now_seed : Int32) (c_now_stones : (Nat → Int32)) (c_now_kinds : (Nat → Int32)) (c_now_weights : (Nat → Int32)) (c_now_chances : (Nat → Int32)) (c_sounds : (Nat → Int64)) (c_refusals : (Nat → Int32)) : Option (Int32 × Int32 × (Nat → Int64) × (Nat → Int32)) :=
  (f_M_isWithin v1 (1 : Int32) (60 : Int32)).bind fun x1 =>
  if x1 = 0 then
    (f_M_refuse (-2 : Int32) c_refusals).bind fun x10 =>
    some (x10.1, c_now_seed, c_sounds, x10.2)
  else
    (f_D_count c_now_walkers).bind fun x2 =>
    if x2 = 0 then
      (f_M_refuse (-5 : Int32) c_refusals).bind fun x9 =>
      some (x9.1, c_now_seed, c_sounds, x9.2)
    else
      (f_M_arrivals_l38 v1 c_now_width c_now_rain c_now_walkers c_now_stones c_now_kinds c_now_weights c_now_chances (0 : Int32) (0 : Int32) c_now_seed c_sounds).bind fun x8 =>
      some (x8.1, x8.2.1, x8.2.2, c_refusals)
def f_M_seed (v1 : Int32) (c_now_seed : Int32) : Option (Int32 × Int32) :=
  some (c_now_seed, v1)
def f_M_image (c_isKept : Int32) (c_now_width : Int32) (c_now_rain : Int32) (c_now_ear : Int32) (c_now_walkers : Int32) (c_now_seed : Int32) (c_now_stones : (Nat → Int32)) (c_now_kinds : (Nat → Int32)) (c_now_weights : (Nat → Int32)) (c_now_chances : (Nat → Int32)) (c_kept_width : Int32) (c_kept_rain : Int32) (c_kept_ear : Int32) (c_kept_walkers : Int32) (c_kept_seed : Int32) (c_kept_stones : (Nat → Int32)) (c_kept_kinds : (Nat → Int32)) (c_kept_weights : (Nat → Int32)) (c_kept_chances : (Nat → Int32)) : Option (Int32 × Int32 × Int32 × Int32 × Int32 × Int32 × Int32 × (Nat → Int32) × (Nat → Int32) × (Nat → Int32) × (Nat → Int32)) :=
  (f_D_takeFrom c_kept_width c_kept_rain c_kept_ear c_kept_walkers c_kept_seed c_kept_stones c_kept_kinds c_kept_weights c_kept_chances c_now_width c_now_rain c_now_ear c_now_walkers c_now_seed c_now_stones c_now_kinds c_now_weights c_now_chances).bind fun x1 =>
  some ((1 : Int32), (1 : Int32), x1.1, x1.2.1, x1.2.2.1, x1.2.2.2.1, x1.2.2.2.2.1, x1.2.2.2.2.2.1, x1.2.2.2.2.2.2.1, x1.2.2.2.2.2.2.2.1, x1.2.2.2.2.2.2.2.2)
def f_S_dropFeetFrom_b2 (v1 : Int32) (v2 : Int32) (c_marks : (Nat → Int32)) : Option ((Int32 × (Nat → Int32)) ⊕ (Nat → Int32)) :=
  if (8 : Int32) ≤ v2 then
    some (.inr c_marks)
  else
    (rd c_marks 8 v2).bind fun x1 =>
    if x1 < ((10 : Int32) + v1) then
      some (.inl ((v2 + (1 : Int32)), c_marks))
    else
      (wr c_marks 8 v2 (-1 : Int32)).bind fun x2 =>
      some (.inl ((v2 + (1 : Int32)), x2))
def f_S_dropFeetFrom_l2 (v1 : Int32) (v2 : Int32) (c_marks : (Nat → Int32)) : Option (Nat → Int32) :=
  iter (fun s => f_S_dropFeetFrom_b2 v1 s.1 s.2) FUEL (v2, c_marks)
def f_S_dropFeetFrom (v1 : Int32) (c_marks : (Nat → Int32)) : Option (Nat → Int32) :=
  (f_S_dropFeetFrom_l2 v1 (0 : Int32) c_marks).bind fun x3 =>
  some x3
def f_M_back (c_isKept : Int32) (c_now_width : Int32) (c_now_rain : Int32) (c_now_ear : Int32) (c_now_walkers : Int32) (c_now_seed : Int32) (c_now_stones : (Nat → Int32)) (c_now_kinds : (Nat → Int32)) (c_now_weights : (Nat → Int32)) (c_now_chances : (Nat → Int32)) (c_kept_width : Int32) (c_kept_rain : Int32) (c_kept_ear : Int32) (c_kept_walkers : Int32) (c_kept_seed : Int32) (c_kept_stones : (Nat → Int32)) (c_kept_kinds : (Nat → Int32)) (c_kept_weights : (Nat → Int32)) (c_kept_chances : (Nat → Int32)) (c_shelves_marks : (Nat → Int32)) (c_refusals : (Nat → Int32)) : Option (Int32 × Int32 × Int32 × Int32 × Int32 × Int32 × (Nat → Int32) × (Nat → Int32) × (Nat → Int32) × (Nat → Int32) × (Nat → Int32) × (Nat → Int32)) :=
  if c_isKept = 0 then
    (f_M_refuse (-5 : Int32) c_refusals).bind fun x4 =>
    some (x4.1, c_now_width, c_now_rain, c_now_ear, c_now_walkers, c_now_seed, c_now_stones, c_now_kinds, c_now_weights, c_now_chances, c_shelves_marks, x4.2)
  else
    (f_D_takeFrom c_now_width c_now_rain c_now_ear c_now_walkers c_now_seed c_now_stones c_now_kinds c_now_weights c_now_chances c_kept_width c_kept_rain c_kept_ear c_kept_walkers c_kept_seed c_kept_stones c_kept_kinds c_kept_weights c_kept_chances).bind fun x1 =>
    (f_D_count x1.2.2.2.1).bind fun x2 =>
    (f_S_dropFeetFrom x2 c_shelves_marks).bind fun x3 =>
    some ((1 : Int32), x1.1, x1.2.1, x1.2.2.1, x1.2.2.2.1, x1.2.2.2.2.1, x1.2.2.2.2.2.1, x1.2.2.2.2.2.2.1, x1.2.2.2.2.2.2.2.1, x1.2.2.2.2.2.2.2.2, x3, c_refusals)
def f_S_taken_b4 (c_marks : (Nat → Int32)) (v1 : Int32) (v2 : Int32) : Option ((Int32 × Int32) ⊕ Int32) :=
  if (8 : Int32) ≤ v2 then
    some (.inr v1)
  else
    (rd c_marks 8 v2).bind fun x1 =>
    if x1 = (-1 : Int32) then
      some (.inl (v1, (v2 + (1 : Int32))))
    else
      some (.inl ((v1 + (1 : Int32)), (v2 + (1 : Int32))))
def f_S_taken_l4 (c_marks : (Nat → Int32)) (v1 : Int32) (v2 : Int32) : Option Int32 :=
  iter (fun s => f_S_taken_b4 c_marks s.1 s.2) FUEL (v1, v2)
def f_S_taken (c_marks : (Nat → Int32)) : Option Int32 :=
  (f_S_taken_l4 c_marks (0 : Int32) (0 : Int32)).bind fun x2 =>
  some x2
def f_M_status (v1 : Int32) (c_now_width : Int32) (c_now_rain : Int32) (c_now_ear : Int32) (c_now_walkers : Int32) (c_now_seed : Int32) (c_now_stones : (Nat → Int32)) (c_now_chances : (Nat → Int32)) (c_shelves_marks : (Nat → Int32)) (c_tape_size : Int32) (c_refusals : (Nat → Int32)) : Option Int32 :=
  if v1 = (0 : Int32) then
    (f_D_count c_now_walkers).bind fun x1 =>
    some x1
  else
  if v1 = (1 : Int32) then
    some c_now_width
  else
  if v1 = (2 : Int32) then
    some c_now_rain
  else
  if v1 = (3 : Int32) then
    some c_now_ear
  else
  if v1 = (4 : Int32) then
    (f_D_allStones c_now_width c_now_stones).bind fun x2 =>
    some x2
  else
  if v1 = (5 : Int32) then
    (f_D_allChances c_now_walkers c_now_chances).bind fun x3 =>
    some x3
  else
  if v1 = (6 : Int32) then
    some c_tape_size
  else
  if v1 = (7 : Int32) then
    some c_now_seed
  else
  if v1 = (8 : Int32) then
    (f_S_taken c_shelves_marks).bind fun x4 =>
    some x4
  else
  (f_M_isWithin v1 (12 : Int32) (16 : Int32)).bind fun x5 =>
  if x5 = 0 then
    some (-1 : Int32)
  else
    (rd c_refusals 5 (v1 - (12 : Int32))).bind fun x6 =>
    some x6
def f_JM_abs0 (v0 : Int32) : Option Int32 :=
  if 0 ≤ v0 then
    some v0
  else
    some (-v0)
