/-! ===== the printed functions of the methods ===== -/
def f_X8_copyRow (g1 j1 n1 : Nat) (g2 j2 n2 : Nat) (M : Mem) : Option Mem :=
  if cpk (0 : Int32) (0 : Int32) (imin (Int32.ofNat n1) (Int32.ofNat n2)) n1 n2 then
    some (wrs M g2 j2 (va_cpy (M.1 g1 j1) (M.1 g2 j2) (cl (0 : Int32)) (cl (0 : Int32)) (cl (imin (Int32.ofNat n1) (Int32.ofNat n2)))))
  else none
def f_X0_copyFrom (g : Nat) (g2 : Nat) (M : Mem) : Option Mem :=
  (f_X8_copyRow g2 9 50 g 9 50 M).bind fun q1 =>
    (f_X8_copyRow g2 10 1200 g 10 1200 q1).bind fun q2 =>
      (f_X8_copyRow g2 11 1200 g 11 1200 q2).bind fun q3 =>
        some (wr q3 g 8 3 (q3.1 g2 8 3))
def f_X0_has (g : Nat) (x1 : Int32) (M : Mem) : Int32 :=
  if x1 < 0 then
    (0 : Int32)
  else
    if (10 : Int32) ≤ x1 then
      (0 : Int32)
    else
      if ((ushr (M.1 g 8 3) x1) &&& (1 : Int32)) = 0 then
        (0 : Int32)
      else
        (1 : Int32)
def B_X0_fact_26 (g : Nat) (x1 : Int32) (x2 : Int32) (z0 : Int32) (M : Mem) : Option Int32 :=
  if z0 = 0 then
    some (0 : Int32)
  else
    if x2 < 0 then
      some (0 : Int32)
    else
      if (5 : Int32) ≤ x2 then
        some (0 : Int32)
      else
        if inb ((x1 * (5 : Int32)) + x2) 50 then
          some (M.1 g 9 (cl ((x1 * (5 : Int32)) + x2)))
        else none
def B_X0_fact_25 (g : Nat) (x1 : Int32) (x2 : Int32) (M : Mem) : Option Int32 :=
  B_X0_fact_26 g x1 x2 (0 : Int32) M
def f_X0_fact (g : Nat) (x1 : Int32) (x2 : Int32) (M : Mem) : Option Int32 :=
  if x1 < 0 then
    B_X0_fact_25 g x1 x2 M
  else
    if (10 : Int32) ≤ x1 then
      B_X0_fact_25 g x1 x2 M
    else
      if ((ushr (M.1 g 8 3) x1) &&& (1 : Int32)) = 0 then
        B_X0_fact_25 g x1 x2 M
      else
        B_X0_fact_26 g x1 x2 (1 : Int32) M
def f_X0_setFact (g : Nat) (x1 : Int32) (x2 : Int32) (x3 : Int32) (M : Mem) : Option Mem :=
  if x1 < 0 then
    some M
  else
    if (10 : Int32) ≤ x1 then
      some M
    else
      if x2 < 0 then
        some M
      else
        if (5 : Int32) ≤ x2 then
          some M
        else
          if inb ((x1 * (5 : Int32)) + x2) 50 then
            some (wr M g 9 (cl ((x1 * (5 : Int32)) + x2)) x3)
          else none
def f_X0_isHeld (g : Nat) (x1 : Int32) (M : Mem) : Option Int32 :=
  (f_X0_fact g x1 (3 : Int32) M).bind fun q1 =>
    if q1 = (1 : Int32) then
      some (1 : Int32)
    else
      some (0 : Int32)
def f_X0_isShared (g : Nat) (x1 : Int32) (M : Mem) : Option Int32 :=
  (f_X0_fact g x1 (4 : Int32) M).bind fun q1 =>
    if q1 = (1 : Int32) then
      some (1 : Int32)
    else
      some (0 : Int32)
def B_X0_tops_41 (g : Nat) (k4 : Int32 → Int32 → Option Int32) (x1 : Int32) (x2 : Int32) (x3 : Int32) (M : Mem) : Option Int32 :=
  k4 x2 (x3 + 1)
def B_X0_tops_30 (g : Nat) (k4 : Int32 → Int32 → Option Int32) (x1 : Int32) (x2 : Int32) (x3 : Int32) (M : Mem) : Option Int32 :=
  (f_X0_fact g x3 (1 : Int32) M).bind fun q5 =>
    B_X0_tops_41 g k4 x1 (x2 ||| ((1 : Int32) <<< (q5 &&& 31))) x3 M
def L_X0_tops_4 (g : Nat) (x1 : Int32) (M : Mem) : Nat → Int32 → Int32 → Option Int32
  | 0, _, _ => none
  | n + 1, x2, x3 =>
    if (10 : Int32) ≤ x3 then
      some x2
    else
      if (f_X0_has g x3 M) = 0 then
        B_X0_tops_41 g (L_X0_tops_4 g x1 M n) x1 x2 x3 M
      else
        if x1 = 0 then
          B_X0_tops_30 g (L_X0_tops_4 g x1 M n) x1 x2 x3 M
        else
          (f_X0_isHeld g x3 M).bind fun q6 =>
            if q6 = 0 then
              B_X0_tops_41 g (L_X0_tops_4 g x1 M n) x1 x2 x3 M
            else
              B_X0_tops_30 g (L_X0_tops_4 g x1 M n) x1 x2 x3 M
def f_X0_tops (g : Nat) (x1 : Int32) (M : Mem) : Option Int32 :=
  L_X0_tops_4 g x1 M FU (0 : Int32) (0 : Int32)
def f_J6_bitCount_0f7a4 (x0 : Int32) : Int32 :=
  ((((((((x0 - ((ushr x0 (1 : Int32)) &&& (1431655765 : Int32))) &&& (858993459 : Int32)) + ((ushr (x0 - ((ushr x0 (1 : Int32)) &&& (1431655765 : Int32))) (2 : Int32)) &&& (858993459 : Int32))) + (ushr (((x0 - ((ushr x0 (1 : Int32)) &&& (1431655765 : Int32))) &&& (858993459 : Int32)) + ((ushr (x0 - ((ushr x0 (1 : Int32)) &&& (1431655765 : Int32))) (2 : Int32)) &&& (858993459 : Int32))) (4 : Int32))) &&& (252645135 : Int32)) + (ushr (((((x0 - ((ushr x0 (1 : Int32)) &&& (1431655765 : Int32))) &&& (858993459 : Int32)) + ((ushr (x0 - ((ushr x0 (1 : Int32)) &&& (1431655765 : Int32))) (2 : Int32)) &&& (858993459 : Int32))) + (ushr (((x0 - ((ushr x0 (1 : Int32)) &&& (1431655765 : Int32))) &&& (858993459 : Int32)) + ((ushr (x0 - ((ushr x0 (1 : Int32)) &&& (1431655765 : Int32))) (2 : Int32)) &&& (858993459 : Int32))) (4 : Int32))) &&& (252645135 : Int32)) (8 : Int32))) + (ushr ((((((x0 - ((ushr x0 (1 : Int32)) &&& (1431655765 : Int32))) &&& (858993459 : Int32)) + ((ushr (x0 - ((ushr x0 (1 : Int32)) &&& (1431655765 : Int32))) (2 : Int32)) &&& (858993459 : Int32))) + (ushr (((x0 - ((ushr x0 (1 : Int32)) &&& (1431655765 : Int32))) &&& (858993459 : Int32)) + ((ushr (x0 - ((ushr x0 (1 : Int32)) &&& (1431655765 : Int32))) (2 : Int32)) &&& (858993459 : Int32))) (4 : Int32))) &&& (252645135 : Int32)) + (ushr (((((x0 - ((ushr x0 (1 : Int32)) &&& (1431655765 : Int32))) &&& (858993459 : Int32)) + ((ushr (x0 - ((ushr x0 (1 : Int32)) &&& (1431655765 : Int32))) (2 : Int32)) &&& (858993459 : Int32))) + (ushr (((x0 - ((ushr x0 (1 : Int32)) &&& (1431655765 : Int32))) &&& (858993459 : Int32)) + ((ushr (x0 - ((ushr x0 (1 : Int32)) &&& (1431655765 : Int32))) (2 : Int32)) &&& (858993459 : Int32))) (4 : Int32))) &&& (252645135 : Int32)) (8 : Int32))) (16 : Int32))) &&& (63 : Int32))
def f_X0_countWithout (g : Nat) (x1 : Int32) (M : Mem) : Int32 :=
  (f_J6_bitCount_0f7a4 ((M.1 g 8 3) &&& (x1 ^^^ ((-1) : Int32))))
def f_X8_hasBit (x0 : Int32) (x1 : Int32) : Int32 :=
  if ((ushr x0 x1) &&& (1 : Int32)) = 0 then
    (0 : Int32)
  else
    (1 : Int32)
def L_X0_lowestFree_2 (g : Nat) (x1 : Int32) (M : Mem) : Nat → Int32 → Option Int32
  | 0, _ => none
  | n + 1, x2 =>
    if (10 : Int32) ≤ x2 then
      some ((-1) : Int32)
    else
      if (f_X8_hasBit ((M.1 g 8 3) &&& (x1 ^^^ ((-1) : Int32))) x2) = 0 then
        some x2
      else
        (L_X0_lowestFree_2 g x1 M n) (x2 + 1)
def f_X0_lowestFree (g : Nat) (x1 : Int32) (M : Mem) : Option Int32 :=
  L_X0_lowestFree_2 g x1 M FU (0 : Int32)
def f_X8_isWithin (x0 : Int32) (x1 : Int32) (x2 : Int32) : Int32 :=
  if x0 < x1 then
    (0 : Int32)
  else
    if x2 < x0 then
      (0 : Int32)
    else
      (1 : Int32)
def f_X0_open (g : Nat) (x1 : Int32) (x2 : Int32) (x3 : Int32) (x4 : Int32) (x5 : Int32) (M : Mem) : Option Mem :=
  if (f_X8_isWithin x1 (0 : Int32) (9 : Int32)) = 0 then
    some M
  else
    (f_X0_setFact g x1 (0 : Int32) x2 (wr M g 8 3 ((M.1 g 8 3) ||| ((1 : Int32) <<< (x1 &&& 31))))).bind fun q3 =>
      (f_X0_setFact g x1 (1 : Int32) x3 q3).bind fun q4 =>
        (f_X0_setFact g x1 (2 : Int32) x4 q4).bind fun q5 =>
          (f_X0_setFact g x1 (3 : Int32) (1 : Int32) q5).bind fun q6 =>
            (f_X0_setFact g x1 (4 : Int32) x5 q6).bind fun q7 =>
              some q7
def f_X0_setExpiry (g : Nat) (x1 : Int32) (x2 : Int32) (M : Mem) : Option Mem :=
  (f_X0_setFact g x1 (2 : Int32) x2 M).bind fun q1 =>
    some q1
def f_X0_close (g : Nat) (x1 : Int32) (M : Mem) : Option Mem :=
  if (f_X0_has g x1 M) = 0 then
    some M
  else
    some (wr M g 8 3 ((M.1 g 8 3) &&& (((1 : Int32) <<< (x1 &&& 31)) ^^^ ((-1) : Int32))))
def f_X0_closeAll (g : Nat) (x1 : Int32) (M : Mem) : Option Mem :=
  some (wr M g 8 3 ((M.1 g 8 3) &&& (x1 ^^^ ((-1) : Int32))))
def f_X0_lose (g : Nat) (x1 : Int32) (M : Mem) : Option Mem :=
  (f_X0_isShared g x1 M).bind fun q1 =>
    if q1 = 0 then
      (f_X0_setFact g x1 (3 : Int32) (0 : Int32) M).bind fun q3 =>
        some q3
    else
      (f_X0_close g x1 M).bind fun q4 =>
        some q4
def B_X0_baseAt_25 (g : Nat) (x1 : Int32) (x2 : Int32) (z0 : Int32) (M : Mem) : Option Int32 :=
  if z0 = 0 then
    some (0 : Int32)
  else
    if inb ((x1 * (120 : Int32)) + x2) 1200 then
      some (M.1 g 10 (cl ((x1 * (120 : Int32)) + x2)))
    else none
def B_X0_baseAt_24 (g : Nat) (x1 : Int32) (x2 : Int32) (M : Mem) : Option Int32 :=
  B_X0_baseAt_25 g x1 x2 (0 : Int32) M
def f_X0_baseAt (g : Nat) (x1 : Int32) (x2 : Int32) (M : Mem) : Option Int32 :=
  if x1 < 0 then
    B_X0_baseAt_24 g x1 x2 M
  else
    if (10 : Int32) ≤ x1 then
      B_X0_baseAt_24 g x1 x2 M
    else
      if x2 < 0 then
        B_X0_baseAt_24 g x1 x2 M
      else
        if (120 : Int32) ≤ x2 then
          B_X0_baseAt_24 g x1 x2 M
        else
          B_X0_baseAt_25 g x1 x2 (1 : Int32) M
def B_X0_ownAt_25 (g : Nat) (x1 : Int32) (x2 : Int32) (z0 : Int32) (M : Mem) : Option Int32 :=
  if z0 = 0 then
    some (0 : Int32)
  else
    if inb ((x1 * (120 : Int32)) + x2) 1200 then
      some (M.1 g 11 (cl ((x1 * (120 : Int32)) + x2)))
    else none
def B_X0_ownAt_24 (g : Nat) (x1 : Int32) (x2 : Int32) (M : Mem) : Option Int32 :=
  B_X0_ownAt_25 g x1 x2 (0 : Int32) M
def f_X0_ownAt (g : Nat) (x1 : Int32) (x2 : Int32) (M : Mem) : Option Int32 :=
  if x1 < 0 then
    B_X0_ownAt_24 g x1 x2 M
  else
    if (10 : Int32) ≤ x1 then
      B_X0_ownAt_24 g x1 x2 M
    else
      if x2 < 0 then
        B_X0_ownAt_24 g x1 x2 M
      else
        if (120 : Int32) ≤ x2 then
          B_X0_ownAt_24 g x1 x2 M
        else
          B_X0_ownAt_25 g x1 x2 (1 : Int32) M
def f_X0_setOwn (g : Nat) (x1 : Int32) (x2 : Int32) (x3 : Int32) (M : Mem) : Option Mem :=
  if x1 < 0 then
    some M
  else
    if (10 : Int32) ≤ x1 then
      some M
    else
      if x2 < 0 then
        some M
      else
        if (120 : Int32) ≤ x2 then
          some M
        else
          if inb ((x1 * (120 : Int32)) + x2) 1200 then
            some (wr M g 11 (cl ((x1 * (120 : Int32)) + x2)) x3)
          else none
def f_X0_setBase (g : Nat) (x1 : Int32) (x2 : Int32) (x3 : Int32) (M : Mem) : Option Mem :=
  if x1 < 0 then
    some M
  else
    if (10 : Int32) ≤ x1 then
      some M
    else
      if x2 < 0 then
        some M
      else
        if (120 : Int32) ≤ x2 then
          some M
        else
          if inb ((x1 * (120 : Int32)) + x2) 1200 then
            some (wr M g 10 (cl ((x1 * (120 : Int32)) + x2)) x3)
          else none
def f_X7_valueAt (g : Nat) (x1 : Int32) (M : Mem) : Option Int32 :=
  if x1 < 0 then
    some (0 : Int32)
  else
    if (120 : Int32) ≤ x1 then
      some (0 : Int32)
    else
      if inb x1 120 then
        some (M.1 g 5 (cl x1))
      else none
def B_X0_copyDocument_48 (g : Nat) (k3 : Int32 → Mem → Option Mem) (x1 : Int32) (x2 : Int32) (x4 : Int32) (M : Mem) : Option Mem :=
  k3 (x4 + 1) M
def L_X0_copyDocument_3 (g : Nat) (x1 : Int32) (x2 : Int32) : Nat → Int32 → Mem → Option Mem
  | 0, _, _ => none
  | n + 1, x4, M =>
    if (120 : Int32) ≤ x4 then
      some M
    else
      if (f_X8_hasBit x2 (x4 / (6 : Int32))) = 0 then
        B_X0_copyDocument_48 g (L_X0_copyDocument_3 g x1 x2 n) x1 x2 x4 M
      else
        (f_X7_valueAt g x4 M).bind fun q4 =>
          (f_X0_setBase g x1 x4 q4 M).bind fun q5 =>
            (f_X7_valueAt g x4 q5).bind fun q6 =>
              (f_X0_setOwn g x1 x4 q6 q5).bind fun q7 =>
                B_X0_copyDocument_48 g (L_X0_copyDocument_3 g x1 x2 n) x1 x2 x4 q7
def f_X0_copyDocument (g : Nat) (x1 : Int32) (x2 : Int32) (M : Mem) : Option Mem :=
  L_X0_copyDocument_3 g x1 x2 FU (0 : Int32) M
def B_X0_copyOther_50 (g : Nat) (k3 : Int32 → Mem → Option Mem) (x1 : Int32) (x2 : Int32) (x3 : Int32) (x4 : Int32) (M : Mem) : Option Mem :=
  k3 (x4 + 1) M
def L_X0_copyOther_3 (g : Nat) (x1 : Int32) (x2 : Int32) (x3 : Int32) : Nat → Int32 → Mem → Option Mem
  | 0, _, _ => none
  | n + 1, x4, M =>
    if (120 : Int32) ≤ x4 then
      some M
    else
      if (f_X8_hasBit x2 (x4 / (6 : Int32))) = 0 then
        B_X0_copyOther_50 g (L_X0_copyOther_3 g x1 x2 x3 n) x1 x2 x3 x4 M
      else
        (f_X0_baseAt g x3 x4 M).bind fun q4 =>
          (f_X0_setBase g x1 x4 q4 M).bind fun q5 =>
            (f_X0_ownAt g x3 x4 q5).bind fun q6 =>
              (f_X0_setOwn g x1 x4 q6 q5).bind fun q7 =>
                B_X0_copyOther_50 g (L_X0_copyOther_3 g x1 x2 x3 n) x1 x2 x3 x4 q7
def f_X0_copyOther (g : Nat) (x1 : Int32) (x2 : Int32) (x3 : Int32) (M : Mem) : Option Mem :=
  L_X0_copyOther_3 g x1 x2 x3 FU (0 : Int32) M
def f_X7_copyFrom (g : Nat) (g2 : Nat) (M : Mem) : Option Mem :=
  (f_X8_copyRow g2 2 20 g 2 20 M).bind fun q1 =>
    (f_X8_copyRow g2 3 20 g 3 20 q1).bind fun q2 =>
      (f_X8_copyRow g2 4 20 g 4 20 q2).bind fun q3 =>
        (f_X8_copyRow g2 5 120 g 5 120 q3).bind fun q4 =>
          (f_X8_copyRow g2 6 20 g 6 20 q4).bind fun q5 =>
            (f_X8_copyRow g2 7 20 g 7 20 q5).bind fun q6 =>
              some (wr q6 g 1 6 (q6.1 g2 1 6))
def f_X5_copyFrom (g : Nat) (g2 : Nat) (M : Mem) : Option Mem :=
  (f_X8_copyRow g2 13 32 g 13 32 M).bind fun q1 =>
    some (wr q1 g 12 1 (q1.1 g2 12 1))
def f_X2_copyFrom (g : Nat) (g2 : Nat) (M : Mem) : Option Mem :=
  (f_X8_copyRow g2 15 900 g 15 900 M).bind fun q1 =>
    some (wr (wr q1 g 14 1 (q1.1 g2 14 1)) g 14 2 ((wr q1 g 14 1 (q1.1 g2 14 1)).1 g2 14 2))
def f_X1_copyFrom (g : Nat) (g2 : Nat) (M : Mem) : Option Mem :=
  (f_X7_copyFrom g g2 M).bind fun q1 =>
    (f_X0_copyFrom g g2 q1).bind fun q2 =>
      (f_X5_copyFrom g g2 q2).bind fun q3 =>
        (f_X2_copyFrom g g2 q3).bind fun q4 =>
          (f_X8_copyRow g2 16 6 g 16 6 q4).bind fun q5 =>
            some (wr q5 g 0 6 (q5.1 g2 0 6))
def B_X5_fact_24 (g : Nat) (x1 : Int32) (x2 : Int32) (z0 : Int32) (M : Mem) : Option Int32 :=
  if z0 = 0 then
    some (0 : Int32)
  else
    if inb ((x1 * (4 : Int32)) + x2) 32 then
      some (M.1 g 13 (cl ((x1 * (4 : Int32)) + x2)))
    else none
def B_X5_fact_23 (g : Nat) (x1 : Int32) (x2 : Int32) (M : Mem) : Option Int32 :=
  B_X5_fact_24 g x1 x2 (0 : Int32) M
def f_X5_fact (g : Nat) (x1 : Int32) (x2 : Int32) (M : Mem) : Option Int32 :=
  if x1 < 0 then
    B_X5_fact_23 g x1 x2 M
  else
    if (8 : Int32) ≤ x1 then
      B_X5_fact_23 g x1 x2 M
    else
      if x2 < 0 then
        B_X5_fact_23 g x1 x2 M
      else
        if (4 : Int32) ≤ x2 then
          B_X5_fact_23 g x1 x2 M
        else
          B_X5_fact_24 g x1 x2 (1 : Int32) M
def L_X5_tops_4 (g : Nat) (M : Mem) : Nat → Int32 → Int32 → Option Int32
  | 0, _, _ => none
  | n + 1, x1, x2 =>
    if (M.1 g 12 1) ≤ x2 then
      some x1
    else
      (f_X5_fact g x2 (1 : Int32) M).bind fun q2 =>
        (L_X5_tops_4 g M n) (x1 ||| ((1 : Int32) <<< (q2 &&& 31))) (x2 + 1)
def f_X5_tops (g : Nat) (M : Mem) : Option Int32 :=
  L_X5_tops_4 g M FU (0 : Int32) (0 : Int32)
def f_X1_claims (g : Nat) (M : Mem) : Option Int32 :=
  (f_X0_tops g (0 : Int32) M).bind fun q1 =>
    (f_X5_tops g M).bind fun q2 =>
      some (q1 ||| q2)
def f_X7_lineageOf (g : Nat) (x1 : Int32) (M : Mem) : Option Int32 :=
  if x1 < 0 then
    some (0 : Int32)
  else
    if (20 : Int32) ≤ x1 then
      some (0 : Int32)
    else
      if inb x1 20 then
        some (M.1 g 7 (cl x1))
      else none
def f_X1_isCovered (g : Nat) (x1 : Int32) (M : Mem) : Option Int32 :=
  (f_X1_claims g M).bind fun q1 =>
    (f_X7_lineageOf g x1 M).bind fun q2 =>
      if (q1 &&& q2) = 0 then
        some (0 : Int32)
      else
        some (1 : Int32)
def f_X7_subtreeOf (g : Nat) (x1 : Int32) (M : Mem) : Option Int32 :=
  if x1 < 0 then
    some (0 : Int32)
  else
    if (20 : Int32) ≤ x1 then
      some (0 : Int32)
    else
      if inb x1 20 then
        some (M.1 g 6 (cl x1))
      else none
def f_X7_overlapOf (g : Nat) (x1 : Int32) (M : Mem) : Option Int32 :=
  (f_X7_subtreeOf g x1 M).bind fun q1 =>
    (f_X7_lineageOf g x1 M).bind fun q2 =>
      some (q1 ||| q2)
def f_X1_isTouched (g : Nat) (x1 : Int32) (M : Mem) : Option Int32 :=
  (f_X1_claims g M).bind fun q1 =>
    (f_X7_overlapOf g x1 M).bind fun q2 =>
      if (q1 &&& q2) = 0 then
        some (0 : Int32)
      else
        some (1 : Int32)
def f_X1_isHeldAround (g : Nat) (x1 : Int32) (M : Mem) : Option Int32 :=
  (f_X0_tops g (1 : Int32) M).bind fun q1 =>
    (f_X7_overlapOf g x1 M).bind fun q2 =>
      if (q1 &&& q2) = 0 then
        some (0 : Int32)
      else
        some (1 : Int32)
def f_X7_has (g : Nat) (x1 : Int32) (M : Mem) : Option Int32 :=
  if x1 < 0 then
    some (0 : Int32)
  else
    if (20 : Int32) ≤ x1 then
      some (0 : Int32)
    else
      if inb x1 20 then
        if (M.1 g 2 (cl x1)) = ((-2) : Int32) then
          some (0 : Int32)
        else
          some (1 : Int32)
      else none
def f_X8_faultOf (x0 : Int32) (x1 : Int32) (x2 : Int32) : Int32 :=
  if x0 = 0 then
    (1 : Int32)
  else
    if x1 = 0 then
      (2 : Int32)
    else
      if x2 = 0 then
        (3 : Int32)
      else
        (0 : Int32)
def B_X1_addFault_34 (g : Nat) (z0 : Int32) (z1 : Int32) (z2 : Int32) (M : Mem) : Option Int32 :=
  some (f_X8_faultOf z2 z1 z0)
def B_X1_addFault_33 (g : Nat) (z0 : Int32) (z1 : Int32) (M : Mem) : Option Int32 :=
  B_X1_addFault_34 g (0 : Int32) z0 z1 M
def f_X1_addFault (g : Nat) (x1 : Int32) (M : Mem) : Option Int32 :=
  (f_X7_has g x1 M).bind fun q1 =>
    if (20 : Int32) ≤ (M.1 g 1 6) then
      B_X1_addFault_33 g (1 : Int32) q1 M
    else
      (f_X1_isCovered g x1 M).bind fun q4 =>
        if q4 = 0 then
          B_X1_addFault_34 g (1 : Int32) (1 : Int32) q1 M
        else
          B_X1_addFault_33 g (1 : Int32) q1 M
def B_X1_removeFault_30 (g : Nat) (z0 : Int32) (z1 : Int32) (z2 : Int32) (M : Mem) : Option Int32 :=
  some (f_X8_faultOf z2 z1 z0)
def B_X1_removeFault_17 (g : Nat) (x1 : Int32) (z0 : Int32) (z1 : Int32) (M : Mem) : Option Int32 :=
  (f_X1_isTouched g x1 M).bind fun q3 =>
    if q3 = 0 then
      B_X1_removeFault_30 g (1 : Int32) z0 z1 M
    else
      B_X1_removeFault_30 g (0 : Int32) z0 z1 M
def f_X1_removeFault (g : Nat) (x1 : Int32) (M : Mem) : Option Int32 :=
  (f_X7_has g x1 M).bind fun q1 =>
    if x1 = 0 then
      B_X1_removeFault_17 g x1 (0 : Int32) q1 M
    else
      B_X1_removeFault_17 g x1 (1 : Int32) q1 M
def B_X2_indexOf_26 (g : Nat) (x1 : Int32) (x2 : Int32) (z0 : Int32) (M : Mem) : Int32 :=
  if z0 = 0 then
    ((-1) : Int32)
  else
    (((ireM ((M.1 g 14 1) + x1) (150 : Int32)) * (6 : Int32)) + x2)
def B_X2_indexOf_25 (g : Nat) (x1 : Int32) (x2 : Int32) (M : Mem) : Int32 :=
  B_X2_indexOf_26 g x1 x2 (0 : Int32) M
def f_X2_indexOf (g : Nat) (x1 : Int32) (x2 : Int32) (M : Mem) : Int32 :=
  if x1 < 0 then
    B_X2_indexOf_25 g x1 x2 M
  else
    if (150 : Int32) ≤ x1 then
      B_X2_indexOf_25 g x1 x2 M
    else
      if x2 < 0 then
        B_X2_indexOf_25 g x1 x2 M
      else
        if (6 : Int32) ≤ x2 then
          B_X2_indexOf_25 g x1 x2 M
        else
          B_X2_indexOf_26 g x1 x2 (1 : Int32) M
def f_X2_fact (g : Nat) (x1 : Int32) (x2 : Int32) (M : Mem) : Option Int32 :=
  if (f_X2_indexOf g x1 x2 M) < 0 then
    some (0 : Int32)
  else
    if (900 : Int32) ≤ (f_X2_indexOf g x1 x2 M) then
      some (0 : Int32)
    else
      if inb (f_X2_indexOf g x1 x2 M) 900 then
        some (M.1 g 15 (cl (f_X2_indexOf g x1 x2 M)))
      else none
def f_X2_setFact (g : Nat) (x1 : Int32) (x2 : Int32) (x3 : Int32) (M : Mem) : Option Mem :=
  if (f_X2_indexOf g x1 x2 M) < 0 then
    some M
  else
    if (900 : Int32) ≤ (f_X2_indexOf g x1 x2 M) then
      some M
    else
      if inb (f_X2_indexOf g x1 x2 M) 900 then
        some (wr M g 15 (cl (f_X2_indexOf g x1 x2 M)) x3)
      else none
def B_X2_removeOf_58 (g : Nat) (k4 : Int32 → Int32 → Mem → Option Mem) (x1 : Int32) (x2 : Int32) (x3 : Int32) (M : Mem) : Option Mem :=
  k4 x2 (x3 + 1) M
def L_X2_removeOf_28 (g : Nat) (k4 : Int32 → Int32 → Mem → Option Mem) (x1 : Int32) (x2 : Int32) (x3 : Int32) : Nat → Int32 → Mem → Option Mem
  | 0, _, _ => none
  | n + 1, x4, M =>
    if (6 : Int32) ≤ x4 then
      B_X2_removeOf_58 g k4 x1 (x2 + 1) x3 M
    else
      (f_X2_fact g x3 x4 M).bind fun q6 =>
        (f_X2_setFact g x2 x4 q6 M).bind fun q7 =>
          (L_X2_removeOf_28 g k4 x1 x2 x3 n) (x4 + 1) q7
def L_X2_removeOf_4 (g : Nat) (x1 : Int32) : Nat → Int32 → Int32 → Mem → Option Mem
  | 0, _, _, _ => none
  | n + 1, x2, x3, M =>
    if (M.1 g 14 2) ≤ x3 then
      some (wr M g 14 2 x2)
    else
      (f_X2_fact g x3 (1 : Int32) M).bind fun q2 =>
        if (f_X8_hasBit x1 q2) = 0 then
          L_X2_removeOf_28 g (L_X2_removeOf_4 g x1 n) x1 x2 x3 FU (0 : Int32) M
        else
          B_X2_removeOf_58 g (L_X2_removeOf_4 g x1 n) x1 x2 x3 M
def f_X2_removeOf (g : Nat) (x1 : Int32) (M : Mem) : Option Mem :=
  L_X2_removeOf_4 g x1 FU (0 : Int32) (0 : Int32) M
def L_J7_fill_53178_5 (g1 j1 n1 : Nat) (x1 : Int32) (x3 : Int32) : Nat → Int32 → Mem → Option Mem
  | 0, _, _ => none
  | n + 1, x2, M =>
    if x3 ≤ x2 then
      some M
    else
      if inb x2 n1 then
        (L_J7_fill_53178_5 g1 j1 n1 x1 x3 n) (x2 + 1) (wr M g1 j1 (cl x2) x1)
      else none
def f_J7_fill_53178 (g1 j1 n1 : Nat) (x1 : Int32) (M : Mem) : Option Mem :=
  L_J7_fill_53178_5 g1 j1 n1 x1 (Int32.ofNat n1) FU (0 : Int32) M
def B_X7_findOverlaps_79 (g : Nat) (k18 : Int32 → Mem → Option Mem) (x1 : Int32) (M : Mem) : Option Mem :=
  k18 (x1 + 1) M
def L_X7_findOverlaps_28 (g : Nat) (k18 : Int32 → Mem → Option Mem) (x1 : Int32) : Nat → Int32 → Int32 → Mem → Option Mem
  | 0, _, _, _ => none
  | n + 1, x2, x3, M =>
    if (20 : Int32) ≤ x3 then
      B_X7_findOverlaps_79 g k18 x1 M
    else
      (f_X7_has g x2 M).bind fun q5 =>
        if q5 = 0 then
          B_X7_findOverlaps_79 g k18 x1 M
        else
          if inb x2 20 then
            if inb x2 20 then
              if inb x1 20 then
                if inb x1 20 then
                  if inb x2 20 then
                    (L_X7_findOverlaps_28 g k18 x1 n) ((wr (wr M g 6 (cl x2) ((M.1 g 6 (cl x2)) ||| ((1 : Int32) <<< (x1 &&& 31)))) g 7 (cl x1) (((wr M g 6 (cl x2) ((M.1 g 6 (cl x2)) ||| ((1 : Int32) <<< (x1 &&& 31)))).1 g 7 (cl x1)) ||| ((1 : Int32) <<< (x2 &&& 31)))).1 g 2 (cl x2)) (x3 + 1) (wr (wr M g 6 (cl x2) ((M.1 g 6 (cl x2)) ||| ((1 : Int32) <<< (x1 &&& 31)))) g 7 (cl x1) (((wr M g 6 (cl x2) ((M.1 g 6 (cl x2)) ||| ((1 : Int32) <<< (x1 &&& 31)))).1 g 7 (cl x1)) ||| ((1 : Int32) <<< (x2 &&& 31))))
                  else none
                else none
              else none
            else none
          else none
def L_X7_findOverlaps_18 (g : Nat) : Nat → Int32 → Mem → Option Mem
  | 0, _, _ => none
  | n + 1, x1, M =>
    if (20 : Int32) ≤ x1 then
      some M
    else
      L_X7_findOverlaps_28 g (L_X7_findOverlaps_18 g n) x1 FU x1 (0 : Int32) M
def f_X7_findOverlaps (g : Nat) (M : Mem) : Option Mem :=
  (f_J7_fill_53178 g 6 20 (0 : Int32) M).bind fun q1 =>
    (f_J7_fill_53178 g 7 20 (0 : Int32) q1).bind fun q2 =>
      L_X7_findOverlaps_18 g FU (0 : Int32) q2
def B_X7_remove_85 (g : Nat) (x2 : Int32) (M : Mem) : Option Mem :=
  (f_X7_findOverlaps g (wr M g 1 6 x2)).bind fun q2 =>
    some q2
def B_X7_remove_79 (g : Nat) (k10 : Int32 → Int32 → Mem → Option Mem) (x1 : Int32) (x2 : Int32) (x3 : Int32) (x4 : Int32) (M : Mem) : Option Mem :=
  k10 x2 (x4 + 1) M
def L_X7_remove_10 (g : Nat) (x1 : Int32) (x3 : Int32) : Nat → Int32 → Int32 → Mem → Option Mem
  | 0, _, _, _ => none
  | n + 1, x2, x4, M =>
    if x3 ≤ x4 then
      B_X7_remove_85 g x2 M
    else
      if (20 : Int32) ≤ x4 then
        B_X7_remove_85 g x2 M
      else
        if (20 : Int32) ≤ x2 then
          B_X7_remove_85 g x2 M
        else
          if inb x4 20 then
            if (f_X8_hasBit x1 (M.1 g 3 (cl x4))) = 0 then
              if inb x2 20 then
                B_X7_remove_79 g (L_X7_remove_10 g x1 x3 n) x1 (x2 + 1) x3 x4 (wr M g 3 (cl x2) (M.1 g 3 (cl x4)))
              else none
            else
              (f_X7_has g (M.1 g 3 (cl x4)) M).bind fun q8 =>
                if q8 = 0 then
                  B_X7_remove_79 g (L_X7_remove_10 g x1 x3 n) x1 x2 x3 x4 M
                else
                  if inb (M.1 g 3 (cl x4)) 20 then
                    B_X7_remove_79 g (L_X7_remove_10 g x1 x3 n) x1 x2 x3 x4 (wr M g 2 (cl (M.1 g 3 (cl x4))) ((-2) : Int32))
                  else none
          else none
def f_X7_remove (g : Nat) (x1 : Int32) (M : Mem) : Option Mem :=
  L_X7_remove_10 g x1 (M.1 g 1 6) FU (0 : Int32) (0 : Int32) M
def f_X1_removeNow (g : Nat) (x1 : Int32) (M : Mem) : Option (Int32 × Mem) :=
  (f_X7_subtreeOf g x1 M).bind fun q1 =>
    (f_X2_removeOf g q1 M).bind fun q2 =>
      (f_X7_remove g q1 q2).bind fun q3 =>
        some ((f_J6_bitCount_0f7a4 q1), q3)
def f_X7_covers (g : Nat) (x1 : Int32) (x2 : Int32) (M : Mem) : Option Int32 :=
  if (f_X8_isWithin x2 (0 : Int32) (19 : Int32)) = 0 then
    some (0 : Int32)
  else
    (f_X7_subtreeOf g x1 M).bind fun q3 =>
      if (f_X8_hasBit q3 x2) = 0 then
        some (0 : Int32)
      else
        some (1 : Int32)
def B_X1_moveFault_75 (g : Nat) (z0 : Int32) (z1 : Int32) (z2 : Int32) (M : Mem) : Option Int32 :=
  some (f_X8_faultOf z2 z1 z0)
def B_X1_moveFault_74 (g : Nat) (z0 : Int32) (z1 : Int32) (M : Mem) : Option Int32 :=
  B_X1_moveFault_75 g (0 : Int32) z0 z1 M
def B_X1_moveFault_49 (g : Nat) (x1 : Int32) (x2 : Int32) (x3 : Int32) (z0 : Int32) (M : Mem) : Option Int32 :=
  (f_X1_isTouched g x1 M).bind fun q4 =>
    if q4 = 0 then
      (f_X1_isCovered g x2 M).bind fun q7 =>
        if q7 = 0 then
          B_X1_moveFault_75 g (1 : Int32) z0 x3 M
        else
          B_X1_moveFault_74 g z0 x3 M
    else
      B_X1_moveFault_74 g z0 x3 M
def B_X1_moveFault_48 (g : Nat) (x1 : Int32) (x2 : Int32) (x3 : Int32) (M : Mem) : Option Int32 :=
  B_X1_moveFault_49 g x1 x2 x3 (0 : Int32) M
def B_X1_moveFault_27 (g : Nat) (x1 : Int32) (x2 : Int32) (z0 : Int32) (M : Mem) : Option Int32 :=
  if x1 = 0 then
    B_X1_moveFault_48 g x1 x2 z0 M
  else
    (f_X7_covers g x1 x2 M).bind fun q9 =>
      if q9 = 0 then
        B_X1_moveFault_49 g x1 x2 z0 (1 : Int32) M
      else
        B_X1_moveFault_48 g x1 x2 z0 M
def B_X1_moveFault_26 (g : Nat) (x1 : Int32) (x2 : Int32) (M : Mem) : Option Int32 :=
  B_X1_moveFault_27 g x1 x2 (0 : Int32) M
def f_X1_moveFault (g : Nat) (x1 : Int32) (x2 : Int32) (M : Mem) : Option Int32 :=
  (f_X7_has g x1 M).bind fun q1 =>
    if q1 = 0 then
      B_X1_moveFault_26 g x1 x2 M
    else
      (f_X7_has g x2 M).bind fun q11 =>
        if q11 = 0 then
          B_X1_moveFault_26 g x1 x2 M
        else
          B_X1_moveFault_27 g x1 x2 (1 : Int32) M
def f_X8_isLine (x0 : Int32) : Int32 :=
  (f_X8_isWithin x0 (0 : Int32) (5 : Int32))
def f_X1_hasLine (g : Nat) (x1 : Int32) (x2 : Int32) (M : Mem) : Option Int32 :=
  (f_X7_has g x1 M).bind fun q1 =>
    if q1 = 0 then
      some (0 : Int32)
    else
      if (f_X8_isLine x2) = 0 then
        some (0 : Int32)
      else
        some (1 : Int32)
def B_X1_writeFault_51 (g : Nat) (z0 : Int32) (z1 : Int32) (z2 : Int32) (M : Mem) : Option Int32 :=
  some (f_X8_faultOf z2 z1 z0)
def B_X1_writeFault_25 (g : Nat) (x1 : Int32) (x2 : Int32) (x3 : Int32) (z0 : Int32) (M : Mem) : Option Int32 :=
  (f_X1_hasLine g x1 x2 M).bind fun q4 =>
    if z0 = 0 then
      B_X1_writeFault_51 g (1 : Int32) (f_X8_isWithin x3 (0 : Int32) (999 : Int32)) q4 M
    else
      B_X1_writeFault_51 g (0 : Int32) (f_X8_isWithin x3 (0 : Int32) (999 : Int32)) q4 M
def f_X1_writeFault (g : Nat) (x1 : Int32) (x2 : Int32) (x3 : Int32) (M : Mem) : Option Int32 :=
  (f_X0_tops g (1 : Int32) M).bind fun q1 =>
    (f_X7_lineageOf g x1 M).bind fun q2 =>
      if (q1 &&& q2) = 0 then
        B_X1_writeFault_25 g x1 x2 x3 (0 : Int32) M
      else
        B_X1_writeFault_25 g x1 x2 x3 (1 : Int32) M
def f_X8_cellOf (x0 : Int32) (x1 : Int32) : Int32 :=
  ((x0 * (6 : Int32)) + x1)
def f_X1_wantPresent (g : Nat) (M : Mem) : Option Mem :=
  (f_X8_copyRow g 5 120 g 17 120 M).bind fun q1 =>
    some q1
def f_X8_isCell (x0 : Int32) : Int32 :=
  (f_X8_isWithin x0 (0 : Int32) (119 : Int32))
def f_X1_want (g : Nat) (x1 : Int32) (x2 : Int32) (M : Mem) : Option Mem :=
  if (f_X8_isCell x1) = 0 then
    some M
  else
    if inb x1 120 then
      some (wr M g 17 (cl x1) x2)
    else none
def B_X2_add_31 (g : Nat) (x1 : Int32) (x2 : Int32) (x3 : Int32) (x4 : Int32) (x5 : Int32) (M : Mem) : Option Mem :=
  (f_X2_setFact g (M.1 g 14 2) (0 : Int32) x1 M).bind fun q2 =>
    (f_X2_setFact g (q2.1 g 14 2) (1 : Int32) (x2 / (6 : Int32)) q2).bind fun q3 =>
      (f_X2_setFact g (q3.1 g 14 2) (2 : Int32) (ireM x2 (6 : Int32)) q3).bind fun q4 =>
        (f_X2_setFact g (q4.1 g 14 2) (3 : Int32) x3 q4).bind fun q5 =>
          (f_X2_setFact g (q5.1 g 14 2) (4 : Int32) x4 q5).bind fun q6 =>
            (f_X2_setFact g (q6.1 g 14 2) (5 : Int32) x5 q6).bind fun q7 =>
              some (wr q7 g 14 2 ((q7.1 g 14 2) + (1 : Int32)))
def f_X2_add (g : Nat) (x1 : Int32) (x2 : Int32) (x3 : Int32) (x4 : Int32) (x5 : Int32) (M : Mem) : Option Mem :=
  if (M.1 g 14 2) < (150 : Int32) then
    B_X2_add_31 g x1 x2 x3 x4 x5 M
  else
    B_X2_add_31 g x1 x2 x3 x4 x5 (wr (wr M g 14 1 (ireM ((M.1 g 14 1) + (1 : Int32)) (150 : Int32))) g 14 2 (149 : Int32))
def f_X7_setValue (g : Nat) (x1 : Int32) (x2 : Int32) (M : Mem) : Option Mem :=
  if (f_X8_isCell x1) = 0 then
    some M
  else
    if inb x1 120 then
      some (wr M g 5 (cl x1) x2)
    else none
def f_X1_changeCell (g : Nat) (x1 : Int32) (x2 : Int32) (M : Mem) : Option (Int32 × Mem) :=
  if (f_X8_isCell x1) = 0 then
    some ((0 : Int32), M)
  else
    if inb x1 120 then
      (f_X7_valueAt g x1 M).bind fun q4 =>
        if (M.1 g 17 (cl x1)) = q4 then
          some ((0 : Int32), M)
        else
          (f_X7_valueAt g x1 M).bind fun q6 =>
            if inb x1 120 then
              (f_X2_add g (M.1 g 0 6) x1 q6 (M.1 g 17 (cl x1)) x2 M).bind fun q8 =>
                if inb x1 120 then
                  (f_X7_setValue g x1 (q8.1 g 17 (cl x1)) q8).bind fun q10 =>
                    some ((1 : Int32), q10)
                else none
            else none
    else none
def f_X7_raiseVersion (g : Nat) (x1 : Int32) (M : Mem) : Option Mem :=
  (f_X7_has g x1 M).bind fun q1 =>
    if q1 = 0 then
      some M
    else
      if inb x1 20 then
        if inb x1 20 then
          some (wr M g 4 (cl x1) ((M.1 g 4 (cl x1)) + (1 : Int32)))
        else none
      else none
def B_X1_changeToWanted_57 (g : Nat) (k4 : Int32 → Int32 → Mem → Option (Int32 × Mem)) (x1 : Int32) (x2 : Int32) (x3 : Int32) (M : Mem) : Option (Int32 × Mem) :=
  k4 x2 (x3 + 1) M
def L_X1_changeToWanted_16 (g : Nat) (k4 : Int32 → Int32 → Mem → Option (Int32 × Mem)) (x1 : Int32) (x3 : Int32) (x4 : Int32) : Nat → Int32 → Int32 → Mem → Option (Int32 × Mem)
  | 0, _, _, _ => none
  | n + 1, x2, x5, M =>
    if (6 : Int32) ≤ x5 then
      if x2 ≤ x4 then
        B_X1_changeToWanted_57 g k4 x1 x2 x3 M
      else
        (f_X7_raiseVersion g x3 M).bind fun q4 =>
          B_X1_changeToWanted_57 g k4 x1 x2 x3 q4
    else
      (f_X1_changeCell g (f_X8_cellOf x3 x5) x1 M).bind fun q6 =>
        (L_X1_changeToWanted_16 g k4 x1 x3 x4 n) (x2 + q6.1) (x5 + 1) q6.2
def L_X1_changeToWanted_4 (g : Nat) (x1 : Int32) : Nat → Int32 → Int32 → Mem → Option (Int32 × Mem)
  | 0, _, _, _ => none
  | n + 1, x2, x3, M =>
    if (20 : Int32) ≤ x3 then
      some (x2, M)
    else
      L_X1_changeToWanted_16 g (L_X1_changeToWanted_4 g x1 n) x1 x3 x2 FU x2 (0 : Int32) M
def f_X1_changeToWanted (g : Nat) (x1 : Int32) (M : Mem) : Option (Int32 × Mem) :=
  L_X1_changeToWanted_4 g x1 FU (0 : Int32) (0 : Int32) M
def f_X1_writeNow (g : Nat) (x1 : Int32) (x2 : Int32) (x3 : Int32) (M : Mem) : Option (Int32 × Mem) :=
  (f_X7_valueAt g (f_X8_cellOf x1 x2) M).bind fun q2 =>
    (f_X1_wantPresent g M).bind fun q3 =>
      (f_X1_want g (f_X8_cellOf x1 x2) x3 q3).bind fun q4 =>
        (f_X1_changeToWanted g ((-1) : Int32) q4).bind fun q5 =>
          some (q2, q5.2)
def B_X2_turnBack_61 (g : Nat) (k7 : Int32 → Mem → Option Mem) (x1 : Int32) (x3 : Int32) (M : Mem) : Option Mem :=
  k7 (x3 + ((-1) : Int32)) M
def L_X2_turnBack_7 (g : Nat) (x1 : Int32) : Nat → Int32 → Mem → Option Mem
  | 0, _, _ => none
  | n + 1, x3, M =>
    if x3 < 0 then
      some M
    else
      (f_X2_fact g x3 (1 : Int32) M).bind fun q2 =>
        (f_X2_fact g x3 (2 : Int32) M).bind fun q3 =>
          (f_X2_fact g x3 (0 : Int32) M).bind fun q5 =>
            if q5 ≤ x1 then
              B_X2_turnBack_61 g (L_X2_turnBack_7 g x1 n) x1 x3 M
            else
              if (f_X8_isWithin (f_X8_cellOf q2 q3) (0 : Int32) ((Int32.ofNat 120) - (1 : Int32))) = 0 then
                B_X2_turnBack_61 g (L_X2_turnBack_7 g x1 n) x1 x3 M
              else
                (f_X2_fact g x3 (3 : Int32) M).bind fun q9 =>
                  if inb (f_X8_cellOf q2 q3) 120 then
                    B_X2_turnBack_61 g (L_X2_turnBack_7 g x1 n) x1 x3 (wr M g 17 (cl (f_X8_cellOf q2 q3)) q9)
                  else none
def f_X2_turnBack (g : Nat) (x1 : Int32) (M : Mem) : Option Mem :=
  L_X2_turnBack_7 g x1 FU ((M.1 g 14 2) - (1 : Int32)) M
def f_X1_valueAtEndOf (g : Nat) (x1 : Int32) (x2 : Int32) (M : Mem) : Option (Int32 × Mem) :=
  (f_X1_wantPresent g M).bind fun q1 =>
    (f_X2_turnBack g x1 q1).bind fun q2 =>
      if (f_X8_isCell x2) = 0 then
        some ((0 : Int32), q2)
      else
        if inb x2 120 then
          some ((q2.1 g 17 (cl x2)), q2)
        else none
def B_X1_revertFault_30 (g : Nat) (z0 : Int32) (z1 : Int32) (z2 : Int32) (M : Mem) : Option Int32 :=
  some (f_X8_faultOf z2 z1 z0)
def f_X1_revertFault (g : Nat) (x1 : Int32) (x2 : Int32) (M : Mem) : Option Int32 :=
  (f_X7_has g x1 M).bind fun q1 =>
    (f_X1_isHeldAround g x1 M).bind fun q3 =>
      if q3 = 0 then
        B_X1_revertFault_30 g (1 : Int32) (f_X8_isWithin x2 (0 : Int32) (M.1 g 0 6)) q1 M
      else
        B_X1_revertFault_30 g (0 : Int32) (f_X8_isWithin x2 (0 : Int32) (M.1 g 0 6)) q1 M
def B_X1_revertNow_62 (g : Nat) (k28 : Int32 → Mem → Option (Int32 × Mem)) (x3 : Int32) (x4 : Int32) (M : Mem) : Option (Int32 × Mem) :=
  k28 (x4 + 1) M
def L_X1_revertNow_28 (g : Nat) (x3 : Int32) : Nat → Int32 → Mem → Option (Int32 × Mem)
  | 0, _, _ => none
  | n + 1, x4, M =>
    if (120 : Int32) ≤ x4 then
      (f_X1_changeToWanted g ((-1) : Int32) M).bind fun q5 =>
        some (q5.1, q5.2)
    else
      if (f_X8_hasBit x3 (x4 / (6 : Int32))) = 0 then
        (f_X7_valueAt g x4 M).bind fun q8 =>
          (f_X1_want g x4 q8 M).bind fun q9 =>
            B_X1_revertNow_62 g (L_X1_revertNow_28 g x3 n) x3 x4 q9
      else
        B_X1_revertNow_62 g (L_X1_revertNow_28 g x3 n) x3 x4 M
def f_X1_revertNow (g : Nat) (x1 : Int32) (x2 : Int32) (M : Mem) : Option (Int32 × Mem) :=
  (f_X1_wantPresent g M).bind fun q1 =>
    (f_X2_turnBack g x2 q1).bind fun q2 =>
      (f_X7_subtreeOf g x1 q2).bind fun q3 =>
        L_X1_revertNow_28 g q3 FU (0 : Int32) q2
def B_X1_holdsAround_81 (g : Nat) (k28 : Int32 → Option Int32) (x1 : Int32) (x4 : Int32) (x5 : Int32) (M : Mem) : Option Int32 :=
  k28 (x5 + 1)
def L_X1_holdsAround_28 (g : Nat) (x1 : Int32) (x4 : Int32) (M : Mem) : Nat → Int32 → Option Int32
  | 0, _ => none
  | n + 1, x5 =>
    if (10 : Int32) ≤ x5 then
      some (0 : Int32)
    else
      (f_X0_isHeld g x5 M).bind fun q4 =>
        if q4 = 0 then
          B_X1_holdsAround_81 g (L_X1_holdsAround_28 g x1 x4 M n) x1 x4 x5 M
        else
          (f_X0_fact g x5 (0 : Int32) M).bind fun q6 =>
            if q6 = x1 then
              (f_X0_fact g x5 (1 : Int32) M).bind fun q8 =>
                if (f_X8_hasBit x4 q8) = 0 then
                  B_X1_holdsAround_81 g (L_X1_holdsAround_28 g x1 x4 M n) x1 x4 x5 M
                else
                  some (1 : Int32)
            else
              B_X1_holdsAround_81 g (L_X1_holdsAround_28 g x1 x4 M n) x1 x4 x5 M
def B_X1_holdsAround_23 (g : Nat) (x1 : Int32) (z0 : Int32) (M : Mem) : Option Int32 :=
  L_X1_holdsAround_28 g x1 z0 M FU (0 : Int32)
def f_X1_holdsAround (g : Nat) (x1 : Int32) (x2 : Int32) (x3 : Int32) (M : Mem) : Option Int32 :=
  if x3 = 0 then
    (f_X7_lineageOf g x2 M).bind fun q2 =>
      B_X1_holdsAround_23 g x1 q2 M
  else
    (f_X7_overlapOf g x2 M).bind fun q11 =>
      B_X1_holdsAround_23 g x1 q11 M
def L_X5_placeOf_2 (g : Nat) (x1 : Int32) (M : Mem) : Nat → Int32 → Option Int32
  | 0, _ => none
  | n + 1, x2 =>
    if (M.1 g 12 1) ≤ x2 then
      some ((-1) : Int32)
    else
      (f_X5_fact g x2 (0 : Int32) M).bind fun q2 =>
        if q2 = x1 then
          some x2
        else
          (L_X5_placeOf_2 g x1 M n) (x2 + 1)
def f_X5_placeOf (g : Nat) (x1 : Int32) (M : Mem) : Option Int32 :=
  L_X5_placeOf_2 g x1 M FU (0 : Int32)
def f_X5_isFull (g : Nat) (M : Mem) : Int32 :=
  if (M.1 g 12 1) < (8 : Int32) then
    (0 : Int32)
  else
    (1 : Int32)
def f_X8_isUser (x0 : Int32) : Int32 :=
  (f_X8_isWithin x0 (0 : Int32) (5 : Int32))
def B_X1_requestFault_63 (g : Nat) (x3 : Int32) (x5 : Int32) (z0 : Int32) (M : Mem) : Option Int32 :=
  some (f_X8_faultOf z0 (f_X8_isWithin x3 (1 : Int32) (1000 : Int32)) x5)
def B_X1_requestFault_62 (g : Nat) (x3 : Int32) (x5 : Int32) (M : Mem) : Option Int32 :=
  B_X1_requestFault_63 g x3 x5 (0 : Int32) M
def B_X1_requestFault_38 (g : Nat) (x1 : Int32) (x2 : Int32) (x3 : Int32) (z0 : Int32) (M : Mem) : Option Int32 :=
  if (f_X8_isUser x1) = 0 then
    B_X1_requestFault_62 g x3 z0 M
  else
    (f_X7_has g x2 M).bind fun q7 =>
      if q7 = 0 then
        B_X1_requestFault_62 g x3 z0 M
      else
        B_X1_requestFault_63 g x3 z0 (1 : Int32) M
def B_X1_requestFault_37 (g : Nat) (x1 : Int32) (x2 : Int32) (x3 : Int32) (M : Mem) : Option Int32 :=
  B_X1_requestFault_38 g x1 x2 x3 (0 : Int32) M
def f_X1_requestFault (g : Nat) (x1 : Int32) (x2 : Int32) (x3 : Int32) (x4 : Int32) (M : Mem) : Option Int32 :=
  (f_X1_holdsAround g x1 x2 x4 M).bind fun q1 =>
    if q1 = 0 then
      (f_X5_placeOf g x1 M).bind fun q9 =>
        if q9 = ((-1) : Int32) then
          if (f_X5_isFull g M) = 0 then
            B_X1_requestFault_38 g x1 x2 x3 (1 : Int32) M
          else
            B_X1_requestFault_37 g x1 x2 x3 M
        else
          B_X1_requestFault_37 g x1 x2 x3 M
    else
      B_X1_requestFault_37 g x1 x2 x3 M
def f_X5_setFact (g : Nat) (x1 : Int32) (x2 : Int32) (x3 : Int32) (M : Mem) : Option Mem :=
  if x1 < 0 then
    some M
  else
    if (8 : Int32) ≤ x1 then
      some M
    else
      if x2 < 0 then
        some M
      else
        if (4 : Int32) ≤ x2 then
          some M
        else
          if inb ((x1 * (4 : Int32)) + x2) 32 then
            some (wr M g 13 (cl ((x1 * (4 : Int32)) + x2)) x3)
          else none
def B_X5_join_55 (g : Nat) (z0 : Int32) (z1 : Int32) (z2 : Int32) (M : Mem) : Option (Int32 × Mem) :=
  (f_X5_setFact g z2 z1 z0 M).bind fun q7 =>
    some ((((wr q7 g 12 1 ((q7.1 g 12 1) + (1 : Int32))).1 g 12 1) - (1 : Int32)), (wr q7 g 12 1 ((q7.1 g 12 1) + (1 : Int32))))
def f_X5_join (g : Nat) (x1 : Int32) (x2 : Int32) (x3 : Int32) (x4 : Int32) (M : Mem) : Option (Int32 × Mem) :=
  if (f_X5_isFull g M) = 0 then
    (f_X5_setFact g (M.1 g 12 1) (0 : Int32) x1 M).bind fun q3 =>
      (f_X5_setFact g (q3.1 g 12 1) (1 : Int32) x2 q3).bind fun q4 =>
        (f_X5_setFact g (q4.1 g 12 1) (2 : Int32) x3 q4).bind fun q5 =>
          if x4 = 0 then
            B_X5_join_55 g (0 : Int32) (3 : Int32) (q5.1 g 12 1) q5
          else
            B_X5_join_55 g (1 : Int32) (3 : Int32) (q5.1 g 12 1) q5
  else
    some (((-1) : Int32), M)
def B_X1_absorbedBy_113 (g : Nat) (k46 : Int32 → Int32 → Option Int32) (x1 : Int32) (x3 : Int32) (x4 : Int32) (x5 : Int32) (M : Mem) : Option Int32 :=
  k46 x4 (x5 + 1)
def L_X1_absorbedBy_46 (g : Nat) (x1 : Int32) (x3 : Int32) (M : Mem) : Nat → Int32 → Int32 → Option Int32
  | 0, _, _ => none
  | n + 1, x4, x5 =>
    if (10 : Int32) ≤ x5 then
      some x4
    else
      (f_X0_isHeld g x5 M).bind fun q6 =>
        if q6 = 0 then
          B_X1_absorbedBy_113 g (L_X1_absorbedBy_46 g x1 x3 M n) x1 x3 x4 x5 M
        else
          (f_X0_fact g x5 (0 : Int32) M).bind fun q8 =>
            (f_X5_fact g x1 (0 : Int32) M).bind fun q9 =>
              if q8 = q9 then
                (f_X0_fact g x5 (1 : Int32) M).bind fun q11 =>
                  if (f_X8_hasBit x3 q11) = 0 then
                    B_X1_absorbedBy_113 g (L_X1_absorbedBy_46 g x1 x3 M n) x1 x3 x4 x5 M
                  else
                    B_X1_absorbedBy_113 g (L_X1_absorbedBy_46 g x1 x3 M n) x1 x3 (x4 ||| ((1 : Int32) <<< (x5 &&& 31))) x5 M
              else
                B_X1_absorbedBy_113 g (L_X1_absorbedBy_46 g x1 x3 M n) x1 x3 x4 x5 M
def f_X1_absorbedBy (g : Nat) (x1 : Int32) (M : Mem) : Option Int32 :=
  (f_X5_fact g x1 (3 : Int32) M).bind fun q1 =>
    if q1 = (1 : Int32) then
      some (0 : Int32)
    else
      (f_X5_fact g x1 (1 : Int32) M).bind fun q3 =>
        (f_X7_subtreeOf g q3 M).bind fun q4 =>
          L_X1_absorbedBy_46 g x1 (q4 &&& (((1 : Int32) <<< (q3 &&& 31)) ^^^ ((-1) : Int32))) M FU (0 : Int32) (0 : Int32)
def B_X1_hinderersOf_122 (g : Nat) (k43 : Int32 → Int32 → Option Int32) (x2 : Int32) (x3 : Int32) (x4 : Int32) (x5 : Int32) (x6 : Int32) (M : Mem) : Option Int32 :=
  k43 x5 (x6 + 1)
def B_X1_hinderersOf_88 (g : Nat) (k43 : Int32 → Int32 → Option Int32) (x2 : Int32) (x3 : Int32) (x4 : Int32) (x5 : Int32) (x6 : Int32) (M : Mem) : Option Int32 :=
  (f_X0_fact g x6 (1 : Int32) M).bind fun q11 =>
    if (f_X8_hasBit x3 q11) = 0 then
      B_X1_hinderersOf_122 g k43 x2 x3 x4 x5 x6 M
    else
      (f_X0_fact g x6 (0 : Int32) M).bind fun q14 =>
        B_X1_hinderersOf_122 g k43 x2 x3 x4 (x5 ||| ((1 : Int32) <<< (q14 &&& 31))) x6 M
def L_X1_hinderersOf_43 (g : Nat) (x2 : Int32) (x3 : Int32) (x4 : Int32) (M : Mem) : Nat → Int32 → Int32 → Option Int32
  | 0, _, _ => none
  | n + 1, x5, x6 =>
    if (10 : Int32) ≤ x6 then
      some x5
    else
      (f_X0_isHeld g x6 M).bind fun q6 =>
        if q6 = 0 then
          B_X1_hinderersOf_122 g (L_X1_hinderersOf_43 g x2 x3 x4 M n) x2 x3 x4 x5 x6 M
        else
          if (f_X8_hasBit x2 x6) = 0 then
            if x4 = 0 then
              B_X1_hinderersOf_88 g (L_X1_hinderersOf_43 g x2 x3 x4 M n) x2 x3 x4 x5 x6 M
            else
              (f_X0_isShared g x6 M).bind fun q15 =>
                if q15 = 0 then
                  B_X1_hinderersOf_88 g (L_X1_hinderersOf_43 g x2 x3 x4 M n) x2 x3 x4 x5 x6 M
                else
                  B_X1_hinderersOf_122 g (L_X1_hinderersOf_43 g x2 x3 x4 M n) x2 x3 x4 x5 x6 M
          else
            B_X1_hinderersOf_122 g (L_X1_hinderersOf_43 g x2 x3 x4 M n) x2 x3 x4 x5 x6 M
def B_X1_hinderersOf_35 (g : Nat) (x2 : Int32) (x3 : Int32) (z0 : Int32) (M : Mem) : Option Int32 :=
  L_X1_hinderersOf_43 g x2 x3 z0 M FU (0 : Int32) (0 : Int32)
def f_X1_hinderersOf (g : Nat) (x1 : Int32) (x2 : Int32) (M : Mem) : Option Int32 :=
  (f_X5_fact g x1 (1 : Int32) M).bind fun q1 =>
    (f_X7_overlapOf g q1 M).bind fun q2 =>
      (f_X5_fact g x1 (3 : Int32) M).bind fun q3 =>
        if q3 = (1 : Int32) then
          B_X1_hinderersOf_35 g x2 q2 (1 : Int32) M
        else
          B_X1_hinderersOf_35 g x2 q2 (0 : Int32) M
def B_X1_blockersOf_100 (g : Nat) (k42 : Int32 → Int32 → Option Int32) (x1 : Int32) (x2 : Int32) (x3 : Int32) (x4 : Int32) (x5 : Int32) (M : Mem) : Option Int32 :=
  k42 x4 (x5 + 1)
def B_X1_blockersOf_66 (g : Nat) (k42 : Int32 → Int32 → Option Int32) (x1 : Int32) (x2 : Int32) (x3 : Int32) (x4 : Int32) (x5 : Int32) (M : Mem) : Option Int32 :=
  (f_X5_fact g x5 (1 : Int32) M).bind fun q7 =>
    if (f_X8_hasBit x2 q7) = 0 then
      B_X1_blockersOf_100 g k42 x1 x2 x3 x4 x5 M
    else
      (f_X5_fact g x5 (0 : Int32) M).bind fun q10 =>
        B_X1_blockersOf_100 g k42 x1 x2 x3 (x4 ||| ((1 : Int32) <<< (q10 &&& 31))) x5 M
def L_X1_blockersOf_42 (g : Nat) (x1 : Int32) (x2 : Int32) (x3 : Int32) (M : Mem) : Nat → Int32 → Int32 → Option Int32
  | 0, _, _ => none
  | n + 1, x4, x5 =>
    if x1 ≤ x5 then
      some x4
    else
      if x3 = 0 then
        B_X1_blockersOf_66 g (L_X1_blockersOf_42 g x1 x2 x3 M n) x1 x2 x3 x4 x5 M
      else
        (f_X5_fact g x5 (3 : Int32) M).bind fun q11 =>
          if q11 = (1 : Int32) then
            B_X1_blockersOf_100 g (L_X1_blockersOf_42 g x1 x2 x3 M n) x1 x2 x3 x4 x5 M
          else
            B_X1_blockersOf_66 g (L_X1_blockersOf_42 g x1 x2 x3 M n) x1 x2 x3 x4 x5 M
def B_X1_blockersOf_35 (g : Nat) (x1 : Int32) (x2 : Int32) (z0 : Int32) (M : Mem) : Option Int32 :=
  L_X1_blockersOf_42 g x1 x2 z0 M FU (0 : Int32) (0 : Int32)
def f_X1_blockersOf (g : Nat) (x1 : Int32) (M : Mem) : Option Int32 :=
  (f_X5_fact g x1 (1 : Int32) M).bind fun q1 =>
    (f_X7_overlapOf g q1 M).bind fun q2 =>
      (f_X5_fact g x1 (3 : Int32) M).bind fun q3 =>
        if q3 = (1 : Int32) then
          B_X1_blockersOf_35 g x1 q2 (1 : Int32) M
        else
          B_X1_blockersOf_35 g x1 q2 (0 : Int32) M
def B_X1_startCopy_81 (g : Nat) (k13 : Int32 → Int32 → Mem → Option Mem) (x1 : Int32) (x3 : Int32) (x4 : Int32) (x5 : Int32) (M : Mem) : Option Mem :=
  k13 x4 (x5 + 1) M
def L_X1_startCopy_13 (g : Nat) (x1 : Int32) (x3 : Int32) : Nat → Int32 → Int32 → Mem → Option Mem
  | 0, _, _, _ => none
  | n + 1, x4, x5, M =>
    if (10 : Int32) ≤ x5 then
      (f_X0_copyDocument g x1 x4 M).bind fun q3 =>
        some q3
    else
      if (f_X8_hasBit x3 x5) = 0 then
        B_X1_startCopy_81 g (L_X1_startCopy_13 g x1 x3 n) x1 x3 x4 x5 M
      else
        (f_X0_isShared g x5 M).bind fun q6 =>
          if q6 = 0 then
            (f_X0_fact g x5 (1 : Int32) M).bind fun q8 =>
              (f_X7_subtreeOf g q8 M).bind fun q9 =>
                (f_X0_copyOther g x1 q9 x5 M).bind fun q10 =>
                  B_X1_startCopy_81 g (L_X1_startCopy_13 g x1 x3 n) x1 x3 (x4 &&& (q9 ^^^ ((-1) : Int32))) x5 q10
          else
            B_X1_startCopy_81 g (L_X1_startCopy_13 g x1 x3 n) x1 x3 x4 x5 M
def f_X1_startCopy (g : Nat) (x1 : Int32) (x2 : Int32) (x3 : Int32) (M : Mem) : Option Mem :=
  (f_X7_subtreeOf g x2 M).bind fun q1 =>
    L_X1_startCopy_13 g x1 x3 FU q1 (0 : Int32) M
def L_X5_leave_29 (g : Nat) (k19 : Int32 → Mem → Option Mem) (x2 : Int32) : Nat → Int32 → Mem → Option Mem
  | 0, _, _ => none
  | n + 1, x3, M =>
    if (4 : Int32) ≤ x3 then
      k19 (x2 + 1) M
    else
      (f_X5_fact g x2 x3 M).bind fun q5 =>
        (f_X5_setFact g (x2 - (1 : Int32)) x3 q5 M).bind fun q6 =>
          (L_X5_leave_29 g k19 x2 n) (x3 + 1) q6
def L_X5_leave_19 (g : Nat) : Nat → Int32 → Mem → Option Mem
  | 0, _, _ => none
  | n + 1, x2, M =>
    if (M.1 g 12 1) ≤ x2 then
      some (wr M g 12 1 ((M.1 g 12 1) - (1 : Int32)))
    else
      L_X5_leave_29 g (L_X5_leave_19 g n) x2 FU (0 : Int32) M
def f_X5_leave (g : Nat) (x1 : Int32) (M : Mem) : Option Mem :=
  if (f_X8_isWithin x1 (0 : Int32) ((M.1 g 12 1) - (1 : Int32))) = 0 then
    some M
  else
    L_X5_leave_19 g FU (x1 + (1 : Int32)) M
def B_X1_lookAt_24 (g : Nat) (x1 : Int32) (x2 : Int32) (z0 : Int32) (M : Mem) : Option (Int32 × Mem) :=
  if z0 = 0 then
    some (((-1) : Int32), M)
  else
    (f_X1_hinderersOf g x1 x2 M).bind fun q5 =>
      if q5 = 0 then
        (f_X1_blockersOf g x1 M).bind fun q7 =>
          if q7 = 0 then
            (f_X0_lowestFree g x2 M).bind fun q9 =>
              (f_X5_fact g x1 (1 : Int32) M).bind fun q10 =>
                (f_X5_fact g x1 (2 : Int32) M).bind fun q11 =>
                  (f_X1_startCopy g q9 q10 x2 M).bind fun q12 =>
                    (f_X0_closeAll g x2 q12).bind fun q13 =>
                      (f_X5_fact g x1 (0 : Int32) q13).bind fun q14 =>
                        (f_X5_fact g x1 (3 : Int32) q13).bind fun q15 =>
                          (f_X0_open g q9 q14 q10 ((M.1 g 0 6) + q11) q15 q13).bind fun q16 =>
                            (f_X5_leave g x1 q16).bind fun q17 =>
                              some (q9, q17)
          else
            some (((-1) : Int32), M)
      else
        some (((-1) : Int32), M)
def f_X1_lookAt (g : Nat) (x1 : Int32) (M : Mem) : Option (Int32 × Mem) :=
  (f_X1_absorbedBy g x1 M).bind fun q1 =>
    if (10 : Int32) ≤ (f_X0_countWithout g q1 M) then
      B_X1_lookAt_24 g x1 q1 (0 : Int32) M
    else
      B_X1_lookAt_24 g x1 q1 (1 : Int32) M
def f_X1_requestNow (g : Nat) (x1 : Int32) (x2 : Int32) (x3 : Int32) (x4 : Int32) (M : Mem) : Option (Int32 × Mem) :=
  (f_X5_join g x1 x2 x3 x4 M).bind fun q1 =>
    (f_X1_lookAt g q1.1 q1.2).bind fun q2 =>
      some (q2.1, q2.2)
def B_X1_serve_39 (g : Nat) (k15 : Int32 → Int32 → Int32 → Mem → Option (Int32 × Mem)) (x1 : Int32) (x2 : Int32) (x3 : Int32) (x4 : Int32) (M : Mem) : Option (Int32 × Mem) :=
  k15 x1 x2 (x4 + 1) M
def L_X1_serve_15 (g : Nat) (x3 : Int32) : Nat → Int32 → Int32 → Int32 → Mem → Option (Int32 × Mem)
  | 0, _, _, _, _ => none
  | n + 1, x1, x2, x4, M =>
    if x3 ≤ x4 then
      some (x2, M)
    else
      (f_X1_lookAt g x1 M).bind fun q2 =>
        if q2.1 = ((-1) : Int32) then
          B_X1_serve_39 g (L_X1_serve_15 g x3 n) (x1 + 1) x2 x3 x4 q2.2
        else
          B_X1_serve_39 g (L_X1_serve_15 g x3 n) x1 (x2 + 1) x3 x4 q2.2
def f_X1_serve (g : Nat) (M : Mem) : Option (Int32 × Mem) :=
  L_X1_serve_15 g (M.1 g 12 1) FU (0 : Int32) (0 : Int32) (0 : Int32) M
def f_X1_usersBefore (g : Nat) (x1 : Int32) (M : Mem) : Option Int32 :=
  (f_X1_absorbedBy g x1 M).bind fun q1 =>
    (f_X1_hinderersOf g x1 q1 M).bind fun q2 =>
      (f_X1_blockersOf g x1 M).bind fun q3 =>
        some (q2 ||| q3)
def B_X1_waitingFault_22 (g : Nat) (z0 : Int32) (z1 : Int32) (z2 : Int32) (M : Mem) : Option Int32 :=
  some (f_X8_faultOf z2 z1 z0)
def f_X1_waitingFault (g : Nat) (x1 : Int32) (M : Mem) : Option Int32 :=
  (f_X5_placeOf g x1 M).bind fun q2 =>
    if q2 = ((-1) : Int32) then
      B_X1_waitingFault_22 g (0 : Int32) (1 : Int32) (f_X8_isUser x1) M
    else
      B_X1_waitingFault_22 g (1 : Int32) (1 : Int32) (f_X8_isUser x1) M
def f_X1_cancelNow (g : Nat) (x1 : Int32) (M : Mem) : Option (Int32 × Mem) :=
  (f_X5_placeOf g x1 M).bind fun q1 =>
    (f_X5_leave g q1 M).bind fun q2 =>
      (f_X1_serve g q2).bind fun q3 =>
        some ((q3.2.1 g 12 1), q3.2)
def f_X1_checkOutFault (g : Nat) (x1 : Int32) (M : Mem) : Int32 :=
  (f_X8_faultOf (f_X0_has g x1 M) (1 : Int32) (1 : Int32))
def f_X1_sectionsOf (g : Nat) (x1 : Int32) (M : Mem) : Option Int32 :=
  (f_X0_fact g x1 (1 : Int32) M).bind fun q1 =>
    (f_X7_subtreeOf g q1 M).bind fun q2 =>
      some q2
def f_X1_hasCopy (g : Nat) (x1 : Int32) (x2 : Int32) (x3 : Int32) (M : Mem) : Option Int32 :=
  if (f_X0_has g x1 M) = 0 then
    some (0 : Int32)
  else
    (f_X1_hasLine g x2 x3 M).bind fun q3 =>
      if q3 = 0 then
        some (0 : Int32)
      else
        (f_X1_sectionsOf g x1 M).bind fun q5 =>
          if (f_X8_hasBit q5 x2) = 0 then
            some (0 : Int32)
          else
            some (1 : Int32)
def B_X1_renewFault_45 (g : Nat) (x1 : Int32) (x2 : Int32) (z0 : Int32) (M : Mem) : Option Int32 :=
  some (f_X8_faultOf (f_X0_has g x1 M) (f_X8_isWithin x2 (1 : Int32) (1000 : Int32)) z0)
def B_X1_renewFault_44 (g : Nat) (x1 : Int32) (x2 : Int32) (M : Mem) : Option Int32 :=
  B_X1_renewFault_45 g x1 x2 (0 : Int32) M
def f_X1_renewFault (g : Nat) (x1 : Int32) (x2 : Int32) (M : Mem) : Option Int32 :=
  (f_X0_fact g x1 (1 : Int32) M).bind fun q1 =>
    (f_X7_overlapOf g q1 M).bind fun q2 =>
      (f_X0_isHeld g x1 M).bind fun q3 =>
        if q3 = 0 then
          B_X1_renewFault_44 g x1 x2 M
        else
          (f_X5_tops g M).bind fun q8 =>
            if (q8 &&& q2) = 0 then
              B_X1_renewFault_45 g x1 x2 (1 : Int32) M
            else
              B_X1_renewFault_44 g x1 x2 M
def f_X1_renewNow (g : Nat) (x1 : Int32) (x2 : Int32) (M : Mem) : Option (Int32 × Mem) :=
  (f_X0_setExpiry g x1 ((M.1 g 0 6) + x2) M).bind fun q1 =>
    (f_X0_fact g x1 (2 : Int32) q1).bind fun q2 =>
      some (q2, q1)
def f_X1_breakFault (g : Nat) (x1 : Int32) (M : Mem) : Option Int32 :=
  (f_X0_isHeld g x1 M).bind fun q2 =>
    some (f_X8_faultOf (f_X0_has g x1 M) (1 : Int32) q2)
def f_X1_breakNow (g : Nat) (x1 : Int32) (M : Mem) : Option (Int32 × Mem) :=
  (f_X0_fact g x1 (0 : Int32) M).bind fun q1 =>
    (f_X0_lose g x1 M).bind fun q2 =>
      (f_X1_serve g q2).bind fun q3 =>
        some (q1, q3.2)
def B_X1_countEdited_56 (g : Nat) (k11 : Int32 → Int32 → Option Int32) (x1 : Int32) (x2 : Int32) (x3 : Int32) (x4 : Int32) (M : Mem) : Option Int32 :=
  k11 x3 (x4 + 1)
def L_X1_countEdited_11 (g : Nat) (x1 : Int32) (x2 : Int32) (M : Mem) : Nat → Int32 → Int32 → Option Int32
  | 0, _, _ => none
  | n + 1, x3, x4 =>
    if (120 : Int32) ≤ x4 then
      some x3
    else
      if (f_X8_hasBit x2 (x4 / (6 : Int32))) = 0 then
        B_X1_countEdited_56 g (L_X1_countEdited_11 g x1 x2 M n) x1 x2 x3 x4 M
      else
        (f_X0_ownAt g x1 x4 M).bind fun q5 =>
          (f_X0_baseAt g x1 x4 M).bind fun q6 =>
            if q5 = q6 then
              B_X1_countEdited_56 g (L_X1_countEdited_11 g x1 x2 M n) x1 x2 x3 x4 M
            else
              B_X1_countEdited_56 g (L_X1_countEdited_11 g x1 x2 M n) x1 x2 (x3 + 1) x4 M
def f_X1_countEdited (g : Nat) (x1 : Int32) (M : Mem) : Option Int32 :=
  (f_X1_sectionsOf g x1 M).bind fun q1 =>
    L_X1_countEdited_11 g x1 q1 M FU (0 : Int32) (0 : Int32)
def f_X1_discardNow (g : Nat) (x1 : Int32) (M : Mem) : Option (Int32 × Mem) :=
  (f_X1_countEdited g x1 M).bind fun q1 =>
    (f_X0_close g x1 M).bind fun q2 =>
      (f_X1_serve g q2).bind fun q3 =>
        some (q1, q3.2)
def B_X1_editFault_32 (g : Nat) (z0 : Int32) (z1 : Int32) (z2 : Int32) (M : Mem) : Option Int32 :=
  some (f_X8_faultOf z2 z1 z0)
def f_X1_editFault (g : Nat) (x1 : Int32) (x2 : Int32) (x3 : Int32) (x4 : Int32) (M : Mem) : Option Int32 :=
  (f_X1_hasCopy g x1 x2 x3 M).bind fun q1 =>
    (f_X0_isShared g x1 M).bind fun q3 =>
      if q3 = 0 then
        B_X1_editFault_32 g (1 : Int32) (f_X8_isWithin x4 (0 : Int32) (999 : Int32)) q1 M
      else
        B_X1_editFault_32 g (0 : Int32) (f_X8_isWithin x4 (0 : Int32) (999 : Int32)) q1 M
def f_X1_editNow (g : Nat) (x1 : Int32) (x2 : Int32) (x3 : Int32) (x4 : Int32) (M : Mem) : Option (Int32 × Mem) :=
  (f_X0_ownAt g x1 (f_X8_cellOf x2 x3) M).bind fun q2 =>
    (f_X0_setOwn g x1 (f_X8_cellOf x2 x3) x4 M).bind fun q3 =>
      some (q2, q3)
def B_X1_holdersOf_39 (g : Nat) (k4 : Int32 → Int32 → Option Int32) (x1 : Int32) (x2 : Int32) (x3 : Int32) (M : Mem) : Option Int32 :=
  k4 x2 (x3 + 1)
def L_X1_holdersOf_4 (g : Nat) (x1 : Int32) (M : Mem) : Nat → Int32 → Int32 → Option Int32
  | 0, _, _ => none
  | n + 1, x2, x3 =>
    if (10 : Int32) ≤ x3 then
      some x2
    else
      (f_X0_isHeld g x3 M).bind fun q2 =>
        if q2 = 0 then
          B_X1_holdersOf_39 g (L_X1_holdersOf_4 g x1 M n) x1 x2 x3 M
        else
          (f_X1_sectionsOf g x3 M).bind fun q4 =>
            if (f_X8_hasBit q4 x1) = 0 then
              B_X1_holdersOf_39 g (L_X1_holdersOf_4 g x1 M n) x1 x2 x3 M
            else
              B_X1_holdersOf_39 g (L_X1_holdersOf_4 g x1 M n) x1 (x2 ||| ((1 : Int32) <<< (x3 &&& 31))) x3 M
def f_X1_holdersOf (g : Nat) (x1 : Int32) (M : Mem) : Option Int32 :=
  L_X1_holdersOf_4 g x1 M FU (0 : Int32) (0 : Int32)
def f_X1_isConflict (g : Nat) (x1 : Int32) (x2 : Int32) (M : Mem) : Option Int32 :=
  (f_X0_baseAt g x1 x2 M).bind fun q1 =>
    (f_X0_ownAt g x1 x2 M).bind fun q2 =>
      (f_X7_valueAt g x2 M).bind fun q3 =>
        if q2 = q1 then
          some (0 : Int32)
        else
          if q3 = q1 then
            some (0 : Int32)
          else
            if q3 = q2 then
              some (0 : Int32)
            else
              some (1 : Int32)
def B_X1_countConflicts_56 (g : Nat) (k24 : Int32 → Int32 → Option Int32) (x1 : Int32) (x2 : Int32) (x3 : Int32) (x4 : Int32) (M : Mem) : Option Int32 :=
  k24 x3 (x4 + 1)
def L_X1_countConflicts_24 (g : Nat) (x1 : Int32) (x2 : Int32) (M : Mem) : Nat → Int32 → Int32 → Option Int32
  | 0, _, _ => none
  | n + 1, x3, x4 =>
    if (120 : Int32) ≤ x4 then
      some x3
    else
      if (f_X8_hasBit x2 (x4 / (6 : Int32))) = 0 then
        B_X1_countConflicts_56 g (L_X1_countConflicts_24 g x1 x2 M n) x1 x2 x3 x4 M
      else
        (f_X1_isConflict g x1 x4 M).bind fun q7 =>
          if q7 = 0 then
            B_X1_countConflicts_56 g (L_X1_countConflicts_24 g x1 x2 M n) x1 x2 x3 x4 M
          else
            B_X1_countConflicts_56 g (L_X1_countConflicts_24 g x1 x2 M n) x1 x2 (x3 + 1) x4 M
def f_X1_countConflicts (g : Nat) (x1 : Int32) (M : Mem) : Option Int32 :=
  (f_X0_isHeld g x1 M).bind fun q1 =>
    if q1 = 0 then
      (f_X1_sectionsOf g x1 M).bind fun q3 =>
        L_X1_countConflicts_24 g x1 q3 M FU (0 : Int32) (0 : Int32)
    else
      some (0 : Int32)
def B_X1_giveBackFault_44 (g : Nat) (x1 : Int32) (x2 : Int32) (z0 : Int32) (M : Mem) : Option Int32 :=
  some (f_X8_faultOf (f_X0_has g x1 M) (f_X8_isWithin x2 (0 : Int32) (2 : Int32)) z0)
def B_X1_giveBackFault_39 (g : Nat) (x1 : Int32) (x2 : Int32) (M : Mem) : Option Int32 :=
  B_X1_giveBackFault_44 g x1 x2 (1 : Int32) M
def B_X1_giveBackFault_43 (g : Nat) (x1 : Int32) (x2 : Int32) (M : Mem) : Option Int32 :=
  B_X1_giveBackFault_44 g x1 x2 (0 : Int32) M
def f_X1_giveBackFault (g : Nat) (x1 : Int32) (x2 : Int32) (M : Mem) : Option Int32 :=
  (f_X0_isHeld g x1 M).bind fun q1 =>
    if q1 = 0 then
      (f_X0_fact g x1 (1 : Int32) M).bind fun q6 =>
        (f_X1_isHeldAround g q6 M).bind fun q7 =>
          if q7 = 0 then
            if x2 = 0 then
              (f_X1_countConflicts g x1 M).bind fun q10 =>
                if 0 < q10 then
                  B_X1_giveBackFault_43 g x1 x2 M
                else
                  B_X1_giveBackFault_39 g x1 x2 M
            else
              B_X1_giveBackFault_39 g x1 x2 M
          else
            B_X1_giveBackFault_43 g x1 x2 M
    else
      B_X1_giveBackFault_39 g x1 x2 M
def B_X1_returnedValue_58 (g : Nat) (x2 : Int32) (x4 : Int32) (z0 : Int32) (M : Mem) : Option Int32 :=
  if z0 = 0 then
    some x4
  else
    (f_X7_valueAt g x2 M).bind fun q7 =>
      some q7
def B_X1_returnedValue_53 (g : Nat) (x2 : Int32) (x4 : Int32) (M : Mem) : Option Int32 :=
  B_X1_returnedValue_58 g x2 x4 (1 : Int32) M
def B_X1_returnedValue_57 (g : Nat) (x2 : Int32) (x4 : Int32) (M : Mem) : Option Int32 :=
  B_X1_returnedValue_58 g x2 x4 (0 : Int32) M
def f_X1_returnedValue (g : Nat) (x1 : Int32) (x2 : Int32) (x3 : Int32) (M : Mem) : Option Int32 :=
  (f_X0_ownAt g x1 x2 M).bind fun q1 =>
    (f_X0_isHeld g x1 M).bind fun q2 =>
      if q2 = 0 then
        (f_X0_baseAt g x1 x2 M).bind fun q4 =>
          if q1 = q4 then
            B_X1_returnedValue_53 g x2 q1 M
          else
            (f_X1_isConflict g x1 x2 M).bind fun q8 =>
              if q8 = 0 then
                B_X1_returnedValue_57 g x2 q1 M
              else
                if x3 = (1 : Int32) then
                  B_X1_returnedValue_57 g x2 q1 M
                else
                  B_X1_returnedValue_53 g x2 q1 M
      else
        some q1
def B_X1_wantReturned_42 (g : Nat) (k9 : Int32 → Mem → Option Mem) (x1 : Int32) (x2 : Int32) (x3 : Int32) (x4 : Int32) (M : Mem) : Option Mem :=
  k9 (x4 + 1) M
def L_X1_wantReturned_9 (g : Nat) (x1 : Int32) (x2 : Int32) (x3 : Int32) : Nat → Int32 → Mem → Option Mem
  | 0, _, _ => none
  | n + 1, x4, M =>
    if (120 : Int32) ≤ x4 then
      some M
    else
      if (f_X8_hasBit x3 (x4 / (6 : Int32))) = 0 then
        B_X1_wantReturned_42 g (L_X1_wantReturned_9 g x1 x2 x3 n) x1 x2 x3 x4 M
      else
        (f_X1_returnedValue g x1 x4 x2 M).bind fun q5 =>
          (f_X1_want g x4 q5 M).bind fun q6 =>
            B_X1_wantReturned_42 g (L_X1_wantReturned_9 g x1 x2 x3 n) x1 x2 x3 x4 q6
def f_X1_wantReturned (g : Nat) (x1 : Int32) (x2 : Int32) (M : Mem) : Option Mem :=
  (f_X1_sectionsOf g x1 M).bind fun q1 =>
    L_X1_wantReturned_9 g x1 x2 q1 FU (0 : Int32) M
def B_X1_giveBackNow_21 (g : Nat) (x1 : Int32) (M : Mem) : Option (Int32 × Mem) :=
  (f_X0_fact g x1 (0 : Int32) M).bind fun q4 =>
    (f_X1_changeToWanted g q4 M).bind fun q5 =>
      (f_X0_close g x1 q5.2).bind fun q6 =>
        (f_X1_serve g q6).bind fun q7 =>
          some (q5.1, q7.2)
def f_X1_giveBackNow (g : Nat) (x1 : Int32) (x2 : Int32) (M : Mem) : Option (Int32 × Mem) :=
  (f_X1_wantPresent g M).bind fun q1 =>
    (f_X0_isShared g x1 q1).bind fun q2 =>
      if q2 = 0 then
        (f_X1_wantReturned g x1 x2 q1).bind fun q8 =>
          B_X1_giveBackNow_21 g x1 q8
      else
        B_X1_giveBackNow_21 g x1 q1
def f_X1_passFault (g : Nat) (x1 : Int32) : Int32 :=
  (f_X8_faultOf (1 : Int32) (f_X8_isWithin x1 (0 : Int32) (1000 : Int32)) (1 : Int32))
def B_X1_ticksToExpiry_40 (g : Nat) (k4 : Int32 → Int32 → Option Int32) (x2 : Int32) (x3 : Int32) (M : Mem) : Option Int32 :=
  k4 x2 (x3 + 1)
def L_X1_ticksToExpiry_4 (g : Nat) (M : Mem) : Nat → Int32 → Int32 → Option Int32
  | 0, _, _ => none
  | n + 1, x2, x3 =>
    if (10 : Int32) ≤ x3 then
      some (imax (1 : Int32) x2)
    else
      (f_X0_isHeld g x3 M).bind fun q2 =>
        if q2 = 0 then
          B_X1_ticksToExpiry_40 g (L_X1_ticksToExpiry_4 g M n) x2 x3 M
        else
          (f_X0_fact g x3 (2 : Int32) M).bind fun q4 =>
            B_X1_ticksToExpiry_40 g (L_X1_ticksToExpiry_4 g M n) (imin x2 (q4 - (M.1 g 0 6))) x3 M
def f_X1_ticksToExpiry (g : Nat) (x1 : Int32) (M : Mem) : Option Int32 :=
  L_X1_ticksToExpiry_4 g M FU x1 (0 : Int32)
def B_X1_countUse_46 (g : Nat) (k2 : Int32 → Mem → Option Mem) (x1 : Int32) (x2 : Int32) (M : Mem) : Option Mem :=
  k2 (x2 + 1) M
def L_X1_countUse_2 (g : Nat) (x1 : Int32) : Nat → Int32 → Mem → Option Mem
  | 0, _, _ => none
  | n + 1, x2, M =>
    if (10 : Int32) ≤ x2 then
      some M
    else
      (f_X0_fact g x2 (0 : Int32) M).bind fun q2 =>
        (f_X0_isHeld g x2 M).bind fun q3 =>
          if q3 = 0 then
            B_X1_countUse_46 g (L_X1_countUse_2 g x1 n) x1 x2 M
          else
            if (f_X8_isUser q2) = 0 then
              B_X1_countUse_46 g (L_X1_countUse_2 g x1 n) x1 x2 M
            else
              if inb q2 6 then
                if inb q2 6 then
                  B_X1_countUse_46 g (L_X1_countUse_2 g x1 n) x1 x2 (wr M g 16 (cl q2) ((M.1 g 16 (cl q2)) + x1))
                else none
              else none
def f_X1_countUse (g : Nat) (x1 : Int32) (M : Mem) : Option Mem :=
  L_X1_countUse_2 g x1 FU (0 : Int32) M
def B_X1_loseExpired_43 (g : Nat) (k2 : Int32 → Mem → Option Mem) (x1 : Int32) (M : Mem) : Option Mem :=
  k2 (x1 + 1) M
def L_X1_loseExpired_2 (g : Nat) : Nat → Int32 → Mem → Option Mem
  | 0, _, _ => none
  | n + 1, x1, M =>
    if (10 : Int32) ≤ x1 then
      some M
    else
      (f_X0_isHeld g x1 M).bind fun q2 =>
        if q2 = 0 then
          B_X1_loseExpired_43 g (L_X1_loseExpired_2 g n) x1 M
        else
          (f_X0_fact g x1 (2 : Int32) M).bind fun q4 =>
            if q4 = (M.1 g 0 6) then
              (f_X0_lose g x1 M).bind fun q6 =>
                B_X1_loseExpired_43 g (L_X1_loseExpired_2 g n) x1 q6
            else
              B_X1_loseExpired_43 g (L_X1_loseExpired_2 g n) x1 M
def f_X1_loseExpired (g : Nat) (M : Mem) : Option Mem :=
  L_X1_loseExpired_2 g FU (0 : Int32) M
def B_X1_passTicks_88 (g : Nat) (k8 : Int32 → Int32 → Int32 → Mem → Option Mem) (x1 : Int32) (x2 : Int32) (x4 : Int32) (x5 : Int32) (x6 : Int32) (z0 : Int32) (M : Mem) : Option Mem :=
  (f_X1_countUse g (1 : Int32) M).bind fun q9 =>
    k8 z0 (x4 - x6) (x5 + 1) q9
def B_X1_passTicks_51 (g : Nat) (k8 : Int32 → Int32 → Int32 → Mem → Option Mem) (x1 : Int32) (x2 : Int32) (x4 : Int32) (x5 : Int32) (z0 : Int32) (M : Mem) : Option Mem :=
  (f_X1_countUse g (z0 - (1 : Int32)) M).bind fun q5 =>
    (f_X1_loseExpired g (wr q5 g 0 6 ((q5.1 g 0 6) + z0))).bind fun q6 =>
      (f_X1_serve g q6).bind fun q7 =>
        if q7.1 = 0 then
          B_X1_passTicks_88 g k8 x1 x2 x4 x5 z0 (1 : Int32) q7.2
        else
          B_X1_passTicks_88 g k8 x1 x2 x4 x5 z0 (0 : Int32) q7.2
def B_X1_passTicks_37 (g : Nat) (k8 : Int32 → Int32 → Int32 → Mem → Option Mem) (x1 : Int32) (x2 : Int32) (x3 : Int32) (x4 : Int32) (x5 : Int32) (M : Mem) : Option Mem :=
  if x3 = 0 then
    B_X1_passTicks_51 g k8 x1 x2 x4 x5 (1 : Int32) M
  else
    (f_X1_ticksToExpiry g x4 M).bind fun q10 =>
      B_X1_passTicks_51 g k8 x1 x2 x4 x5 q10 M
def L_X1_passTicks_8 (g : Nat) (x1 : Int32) (x2 : Int32) : Nat → Int32 → Int32 → Int32 → Mem → Option Mem
  | 0, _, _, _, _ => none
  | n + 1, x3, x4, x5, M =>
    if x1 ≤ x5 then
      some M
    else
      if x4 ≤ 0 then
        some M
      else
        if x2 = ((-1) : Int32) then
          B_X1_passTicks_37 g (L_X1_passTicks_8 g x1 x2 n) x1 x2 x3 x4 x5 M
        else
          (f_X5_placeOf g x2 M).bind fun q11 =>
            if q11 = ((-1) : Int32) then
              some M
            else
              B_X1_passTicks_37 g (L_X1_passTicks_8 g x1 x2 n) x1 x2 x3 x4 x5 M
def f_X1_passTicks (g : Nat) (x1 : Int32) (x2 : Int32) (M : Mem) : Option Mem :=
  L_X1_passTicks_8 g x1 x2 FU (0 : Int32) x1 (0 : Int32) M
def f_X1_heldTicksOf (g : Nat) (x1 : Int32) (M : Mem) : Option Int32 :=
  if (f_X8_isUser x1) = 0 then
    some (0 : Int32)
  else
    if inb x1 6 then
      some (M.1 g 16 (cl x1))
    else none
def B_X2_latestUserOf_38 (g : Nat) (k7 : Int32 → Option Int32) (x1 : Int32) (x2 : Int32) (x3 : Int32) (M : Mem) : Option Int32 :=
  k7 (x3 + ((-1) : Int32))
def L_X2_latestUserOf_7 (g : Nat) (x1 : Int32) (x2 : Int32) (M : Mem) : Nat → Int32 → Option Int32
  | 0, _ => none
  | n + 1, x3 =>
    if x3 < 0 then
      some ((-1) : Int32)
    else
      (f_X2_fact g x3 (1 : Int32) M).bind fun q2 =>
        if q2 = x1 then
          (f_X2_fact g x3 (2 : Int32) M).bind fun q4 =>
            if q4 = x2 then
              (f_X2_fact g x3 (5 : Int32) M).bind fun q6 =>
                some q6
            else
              B_X2_latestUserOf_38 g (L_X2_latestUserOf_7 g x1 x2 M n) x1 x2 x3 M
        else
          B_X2_latestUserOf_38 g (L_X2_latestUserOf_7 g x1 x2 M n) x1 x2 x3 M
def f_X2_latestUserOf (g : Nat) (x1 : Int32) (x2 : Int32) (M : Mem) : Option Int32 :=
  L_X2_latestUserOf_7 g x1 x2 M FU ((M.1 g 14 2) - (1 : Int32))
def B_X3_put_33 (M : Mem) : Option (Int32 × Mem) :=
  some ((M.1 6 3 1), M)
def f_X3_put (x1 : Int32) (M : Mem) : Option (Int32 × Mem) :=
  if (f_X8_isWithin (M.1 6 3 1) (0 : Int32) (119 : Int32)) = 0 then
    B_X3_put_33 M
  else
    if inb (M.1 6 3 1) 120 then
      B_X3_put_33 (wr (wr M 6 4 (cl (M.1 6 3 1)) x1) 6 3 1 (((wr M 6 4 (cl (M.1 6 3 1)) x1).1 6 3 1) + (1 : Int32)))
    else none
def f_X3_numbersAfter (x0 : Int32) : Int32 :=
  if x0 = (98 : Int32) then
    (1 : Int32)
  else
  if x0 = (99 : Int32) then
    (0 : Int32)
  else
  if x0 = (100 : Int32) then
    (1 : Int32)
  else
  if x0 = (101 : Int32) then
    (4 : Int32)
  else
  if x0 = (102 : Int32) then
    (0 : Int32)
  else
  if x0 = (103 : Int32) then
    (2 : Int32)
  else
  if x0 = (104 : Int32) then
    (0 : Int32)
  else
  if x0 = (105 : Int32) then
    (0 : Int32)
  else
  if x0 = (106 : Int32) then
    (0 : Int32)
  else
  if x0 = (107 : Int32) then
    (0 : Int32)
  else
  if x0 = (108 : Int32) then
    (0 : Int32)
  else
  if x0 = (109 : Int32) then
    (0 : Int32)
  else
  if x0 = (110 : Int32) then
    (0 : Int32)
  else
  if x0 = (111 : Int32) then
    (0 : Int32)
  else
  if x0 = (112 : Int32) then
    (1 : Int32)
  else
  if x0 = (113 : Int32) then
    (4 : Int32)
  else
  (0 : Int32)
def f_X3_takesLetter (x1 : Int32) (M : Mem) : Option (Int32 × Mem) :=
  if (f_X3_numbersAfter x1) = 0 then
    some ((0 : Int32), M)
  else
    if (f_X8_isWithin (M.1 6 3 4) (0 : Int32) (29 : Int32)) = 0 then
      some ((0 : Int32), M)
    else
      if inb (M.1 6 3 4) 30 then
        some ((1 : Int32), (wr (wr (wr M 6 5 (cl (M.1 6 3 4)) x1) 6 3 6 (0 : Int32)) 6 3 5 (1 : Int32)))
      else none
def f_X3_setNumber (x1 : Int32) (x2 : Int32) (x3 : Int32) (M : Mem) : Option Mem :=
  if (f_X8_isWithin x1 (0 : Int32) (29 : Int32)) = 0 then
    some M
  else
    if (f_X8_isWithin x2 (0 : Int32) (3 : Int32)) = 0 then
      some M
    else
      if inb ((x1 * (4 : Int32)) + x2) 120 then
        some (wr M 6 6 (cl ((x1 * (4 : Int32)) + x2)) x3)
      else none
def f_X3_takesSpace (x1 : Int32) (M : Mem) : Option (Int32 × Mem) :=
  if x1 = (32 : Int32) then
    (f_X3_setNumber (M.1 6 3 4) (M.1 6 3 6) (0 : Int32) M).bind fun q2 =>
      some ((1 : Int32), (wr (wr (wr q2 6 3 6 ((q2.1 6 3 6) + (1 : Int32))) 6 3 7 (0 : Int32)) 6 3 5 (2 : Int32)))
  else
    some ((0 : Int32), M)
def B_X3_numberOf_24 (x1 : Int32) (x2 : Int32) (z0 : Int32) (M : Mem) : Option Int32 :=
  if z0 = 0 then
    some (0 : Int32)
  else
    if inb ((x1 * (4 : Int32)) + x2) 120 then
      some (M.1 6 6 (cl ((x1 * (4 : Int32)) + x2)))
    else none
def B_X3_numberOf_23 (x1 : Int32) (x2 : Int32) (M : Mem) : Option Int32 :=
  B_X3_numberOf_24 x1 x2 (0 : Int32) M
def f_X3_numberOf (x1 : Int32) (x2 : Int32) (M : Mem) : Option Int32 :=
  if (f_X8_isWithin x1 (0 : Int32) (29 : Int32)) = 0 then
    B_X3_numberOf_23 x1 x2 M
  else
    if (f_X8_isWithin x2 (0 : Int32) (3 : Int32)) = 0 then
      B_X3_numberOf_23 x1 x2 M
    else
      B_X3_numberOf_24 x1 x2 (1 : Int32) M
def f_X3_takesDigit (x1 : Int32) (M : Mem) : Option (Int32 × Mem) :=
  if (M.1 6 3 7) < (4 : Int32) then
    (f_X3_numberOf (M.1 6 3 4) ((M.1 6 3 6) - (1 : Int32)) M).bind fun q2 =>
      (f_X3_setNumber (M.1 6 3 4) ((M.1 6 3 6) - (1 : Int32)) (((q2 * (10 : Int32)) + x1) - (48 : Int32)) M).bind fun q3 =>
        some ((1 : Int32), (wr (wr q3 6 3 7 ((q3.1 6 3 7) + (1 : Int32))) 6 3 5 (3 : Int32)))
  else
    some ((0 : Int32), M)
def f_X3_letterOf (x1 : Int32) (M : Mem) : Option Int32 :=
  if (f_X8_isWithin x1 (0 : Int32) (29 : Int32)) = 0 then
    some (0 : Int32)
  else
    if inb x1 30 then
      some (M.1 6 5 (cl x1))
    else none
def B_X3_takesInNumber_40 (x1 : Int32) (z0 : Int32) (M : Mem) : Option (Int32 × Mem) :=
  if x1 = (59 : Int32) then
    if z0 = 0 then
      if isb z0 then
        some (z0, M)
      else none
    else
      if isb z0 then
        some (z0, (wr (wr M 6 3 4 ((M.1 6 3 4) + (1 : Int32))) 6 3 5 (0 : Int32)))
      else none
  else
    if z0 = 0 then
      (f_X3_takesSpace x1 M).bind fun q11 =>
        if q11.1 = 0 then
          some ((0 : Int32), q11.2)
        else
          some ((1 : Int32), q11.2)
    else
      some ((0 : Int32), M)
def f_X3_takesInNumber (x1 : Int32) (M : Mem) : Option (Int32 × Mem) :=
  if (f_X8_isWithin x1 (48 : Int32) (57 : Int32)) = 0 then
    (f_X3_letterOf (M.1 6 3 4) M).bind fun q3 =>
      if (M.1 6 3 6) = (f_X3_numbersAfter q3) then
        B_X3_takesInNumber_40 x1 (1 : Int32) M
      else
        B_X3_takesInNumber_40 x1 (0 : Int32) M
  else
    (f_X3_takesDigit x1 M).bind fun q13 =>
      if isb q13.1 then
        some (q13.1, q13.2)
      else none
def f_X3_takes (x1 : Int32) (M : Mem) : Option (Int32 × Mem) :=
  if (M.1 6 3 5) = (0 : Int32) then
    (f_X3_takesLetter x1 M).bind fun q2 =>
      if isb q2.1 then
        some (q2.1, q2.2)
      else none
  else
  if (M.1 6 3 5) = (1 : Int32) then
    (f_X3_takesSpace x1 M).bind fun q5 =>
      if isb q5.1 then
        some (q5.1, q5.2)
      else none
  else
  if (M.1 6 3 5) = (2 : Int32) then
    if (f_X8_isWithin x1 (48 : Int32) (57 : Int32)) = 0 then
      some ((0 : Int32), M)
    else
      (f_X3_takesDigit x1 M).bind fun q10 =>
        if q10.1 = 0 then
          some ((0 : Int32), q10.2)
        else
          some ((1 : Int32), q10.2)
  else
  (f_X3_takesInNumber x1 M).bind fun q12 =>
    if isb q12.1 then
      some (q12.1, q12.2)
    else none
def B_X3_parse_47 (M : Mem) : Option (Int32 × Mem) :=
  if (M.1 6 3 5) = 0 then
    some (((-1) : Int32), M)
  else
    some ((M.1 6 3 1), M)
def L_X3_parse_12 : Nat → Int32 → Mem → Option (Int32 × Mem)
  | 0, _, _ => none
  | n + 1, x1, M =>
    if (M.1 6 3 1) ≤ x1 then
      B_X3_parse_47 M
    else
      if (120 : Int32) ≤ x1 then
        B_X3_parse_47 M
      else
        if inb x1 120 then
          (f_X3_takes (M.1 6 4 (cl x1)) M).bind fun q5 =>
            if q5.1 = 0 then
              some (x1, q5.2)
            else
              (L_X3_parse_12 n) (x1 + 1) q5.2
        else none
def f_X3_parse (M : Mem) : Option (Int32 × Mem) :=
  L_X3_parse_12 FU (0 : Int32) (wr (wr M 6 3 4 (0 : Int32)) 6 3 5 (0 : Int32))
def B_X4_byteAt_26 (x1 : Int32) (z0 : Int32) (M : Mem) : Option Int32 :=
  if z0 = 0 then
    some ((-1) : Int32)
  else
    if inb x1 128 then
      some (M.1 6 8 (cl x1))
    else none
def B_X4_byteAt_25 (x1 : Int32) (M : Mem) : Option Int32 :=
  B_X4_byteAt_26 x1 (0 : Int32) M
def f_X4_byteAt (x1 : Int32) (M : Mem) : Option Int32 :=
  if (f_X8_isWithin x1 (0 : Int32) ((M.1 6 7 1) - (1 : Int32))) = 0 then
    B_X4_byteAt_25 x1 M
  else
    if (128 : Int32) ≤ x1 then
      B_X4_byteAt_25 x1 M
    else
      B_X4_byteAt_26 x1 (1 : Int32) M
def f_X4_put (x1 : Int32) (M : Mem) : Option Mem :=
  if (f_X8_isWithin (M.1 6 7 1) (0 : Int32) (127 : Int32)) = 0 then
    some M
  else
    if inb (M.1 6 7 1) 128 then
      some (wr (wr M 6 8 (cl (M.1 6 7 1)) x1) 6 7 1 (((wr M 6 8 (cl (M.1 6 7 1)) x1).1 6 7 1) + (1 : Int32)))
    else none
def B_X4_putNumber_17 (x1 : Int32) (M : Mem) : Option Mem :=
  (f_X4_put ((48 : Int32) + (ireM x1 (10 : Int32))) M).bind fun q2 =>
    some q2
def f_X4_putNumber (x1 : Int32) (M : Mem) : Option Mem :=
  if x1 < (10 : Int32) then
    B_X4_putNumber_17 x1 M
  else
    (f_X4_put ((48 : Int32) + (x1 / (10 : Int32))) M).bind fun q3 =>
      B_X4_putNumber_17 x1 q3
def L_X6_dropOldest_9 (y1 : Nat) : Nat → Int32 → Mem → Option Mem
  | 0, _, _ => none
  | n + 1, x2, M =>
    if (4 : Int32) ≤ x2 then
      if inb (3 : Int32) 4 then
        some (wr (wr M 6 2 (cl (3 : Int32)) (nI y1)) 6 1 1 (3 : Int32))
      else none
    else
      if inb x2 4 then
        if gok (cl (M.1 6 2 (cl x2))) then
          if inb (x2 - (1 : Int32)) 4 then
            (L_X6_dropOldest_9 y1 n) (x2 + 1) (wr M 6 2 (cl (x2 - (1 : Int32))) (nI (cl (M.1 6 2 (cl x2)))))
          else none
        else none
      else none
def f_X6_dropOldest (M : Mem) : Option Mem :=
  if inb (0 : Int32) 4 then
    if gok (cl (M.1 6 2 (cl (0 : Int32)))) then
      L_X6_dropOldest_9 (cl (M.1 6 2 (cl (0 : Int32)))) FU (1 : Int32) M
    else none
  else none
def B_X6_push_12 (g2 : Nat) (M : Mem) : Option Mem :=
  if (M.1 6 1 1) < 0 then
    some M
  else
    if (4 : Int32) ≤ (M.1 6 1 1) then
      some M
    else
      if inb (M.1 6 1 1) 4 then
        if gok (cl (M.1 6 2 (cl (M.1 6 1 1)))) then
          if inb (M.1 6 1 1) 4 then
            if gok (cl (M.1 6 2 (cl (M.1 6 1 1)))) then
              (f_X1_copyFrom (cl (M.1 6 2 (cl (M.1 6 1 1)))) g2 M).bind fun q8 =>
                some (wr q8 6 1 1 ((q8.1 6 1 1) + (1 : Int32)))
            else none
          else none
        else none
      else none
def f_X6_push (g2 : Nat) (M : Mem) : Option Mem :=
  if (M.1 6 1 1) < (4 : Int32) then
    B_X6_push_12 g2 M
  else
    (f_X6_dropOldest M).bind fun q9 =>
      B_X6_push_12 g2 q9
def f_X6_pop (g2 : Nat) (M : Mem) : Option Mem :=
  if (M.1 6 1 1) ≤ 0 then
    some M
  else
    if (4 : Int32) < (M.1 6 1 1) then
      some M
    else
      if inb ((M.1 6 1 1) - (1 : Int32)) 4 then
        if gok (cl (M.1 6 2 (cl ((M.1 6 1 1) - (1 : Int32))))) then
          if inb ((wr M 6 1 1 ((M.1 6 1 1) - (1 : Int32))).1 6 1 1) 4 then
            if gok (cl ((wr M 6 1 1 ((M.1 6 1 1) - (1 : Int32))).1 6 2 (cl ((wr M 6 1 1 ((M.1 6 1 1) - (1 : Int32))).1 6 1 1)))) then
              (f_X1_copyFrom g2 (cl ((wr M 6 1 1 ((M.1 6 1 1) - (1 : Int32))).1 6 2 (cl ((wr M 6 1 1 ((M.1 6 1 1) - (1 : Int32))).1 6 1 1)))) (wr M 6 1 1 ((M.1 6 1 1) - (1 : Int32)))).bind fun q7 =>
                some q7
            else none
          else none
        else none
      else none
def f_X7_parentOf (g : Nat) (x1 : Int32) (M : Mem) : Option Int32 :=
  (f_X7_has g x1 M).bind fun q1 =>
    if q1 = 0 then
      some ((-1) : Int32)
    else
      if inb x1 20 then
        some (M.1 g 2 (cl x1))
      else none
def f_X7_versionOf (g : Nat) (x1 : Int32) (M : Mem) : Option Int32 :=
  (f_X7_has g x1 M).bind fun q1 =>
    if q1 = 0 then
      some (0 : Int32)
    else
      if inb x1 20 then
        some (M.1 g 4 (cl x1))
      else none
def f_X7_depthOf (g : Nat) (x1 : Int32) (M : Mem) : Option Int32 :=
  (f_X7_lineageOf g x1 M).bind fun q1 =>
    some ((f_J6_bitCount_0f7a4 q1) - (1 : Int32))
def B_X7_childrenOf_43 (g : Nat) (k4 : Int32 → Int32 → Option Int32) (x1 : Int32) (x2 : Int32) (x3 : Int32) (M : Mem) : Option Int32 :=
  k4 x2 (x3 + 1)
def L_X7_childrenOf_4 (g : Nat) (x1 : Int32) (M : Mem) : Nat → Int32 → Int32 → Option Int32
  | 0, _, _ => none
  | n + 1, x2, x3 =>
    if (M.1 g 1 6) ≤ x3 then
      some x2
    else
      if (20 : Int32) ≤ x3 then
        some x2
      else
        (f_X7_has g x1 M).bind fun q3 =>
          if q3 = 0 then
            B_X7_childrenOf_43 g (L_X7_childrenOf_4 g x1 M n) x1 x2 x3 M
          else
            if inb x3 20 then
              (f_X7_parentOf g (M.1 g 3 (cl x3)) M).bind fun q6 =>
                if q6 = x1 then
                  B_X7_childrenOf_43 g (L_X7_childrenOf_4 g x1 M n) x1 (x2 + 1) x3 M
                else
                  B_X7_childrenOf_43 g (L_X7_childrenOf_4 g x1 M n) x1 x2 x3 M
            else none
def f_X7_childrenOf (g : Nat) (x1 : Int32) (M : Mem) : Option Int32 :=
  L_X7_childrenOf_4 g x1 M FU (0 : Int32) (0 : Int32)
def B_X7_childAt_60 (g : Nat) (k5 : Int32 → Int32 → Option Int32) (x1 : Int32) (x2 : Int32) (x3 : Int32) (x4 : Int32) (M : Mem) : Option Int32 :=
  k5 x3 (x4 + 1)
def L_X7_childAt_5 (g : Nat) (x1 : Int32) (x2 : Int32) (M : Mem) : Nat → Int32 → Int32 → Option Int32
  | 0, _, _ => none
  | n + 1, x3, x4 =>
    if (M.1 g 1 6) ≤ x4 then
      some ((-1) : Int32)
    else
      if (20 : Int32) ≤ x4 then
        some ((-1) : Int32)
      else
        (f_X7_has g x1 M).bind fun q3 =>
          if q3 = 0 then
            B_X7_childAt_60 g (L_X7_childAt_5 g x1 x2 M n) x1 x2 x3 x4 M
          else
            if inb x4 20 then
              (f_X7_parentOf g (M.1 g 3 (cl x4)) M).bind fun q6 =>
                if q6 = x1 then
                  if x3 = x2 then
                    if inb x4 20 then
                      some (M.1 g 3 (cl x4))
                    else none
                  else
                    B_X7_childAt_60 g (L_X7_childAt_5 g x1 x2 M n) x1 x2 (x3 + 1) x4 M
                else
                  B_X7_childAt_60 g (L_X7_childAt_5 g x1 x2 M n) x1 x2 x3 x4 M
            else none
def f_X7_childAt (g : Nat) (x1 : Int32) (x2 : Int32) (M : Mem) : Option Int32 :=
  L_X7_childAt_5 g x1 x2 M FU (0 : Int32) (0 : Int32)
def L_X7_lowestFree_2 (g : Nat) (M : Mem) : Nat → Int32 → Option Int32
  | 0, _ => none
  | n + 1, x1 =>
    if (20 : Int32) ≤ x1 then
      some ((-1) : Int32)
    else
      if inb x1 20 then
        if (M.1 g 2 (cl x1)) = ((-2) : Int32) then
          some x1
        else
          (L_X7_lowestFree_2 g M n) (x1 + 1)
      else none
def f_X7_lowestFree (g : Nat) (M : Mem) : Option Int32 :=
  L_X7_lowestFree_2 g M FU (0 : Int32)
def L_X7_add_46 (g : Nat) (x2 : Int32) : Nat → Int32 → Mem → Option (Int32 × Mem)
  | 0, _, _ => none
  | n + 1, x3, M =>
    if (6 : Int32) ≤ x3 then
      if inb (M.1 g 1 6) 20 then
        (f_X7_findOverlaps g (wr (wr M g 3 (cl (M.1 g 1 6)) x2) g 1 6 (((wr M g 3 (cl (M.1 g 1 6)) x2).1 g 1 6) + (1 : Int32)))).bind fun q10 =>
          some (x2, q10)
      else none
    else
      (f_X7_setValue g (f_X8_cellOf x2 x3) (0 : Int32) M).bind fun q12 =>
        (L_X7_add_46 g x2 n) (x3 + 1) q12
def f_X7_add (g : Nat) (x1 : Int32) (M : Mem) : Option (Int32 × Mem) :=
  (f_X7_lowestFree g M).bind fun q1 =>
    if (f_X8_isWithin q1 (0 : Int32) (19 : Int32)) = 0 then
      some (((-1) : Int32), M)
    else
      if (f_X8_isWithin (M.1 g 1 6) (0 : Int32) (19 : Int32)) = 0 then
        some (((-1) : Int32), M)
      else
        if inb q1 20 then
          if inb q1 20 then
            L_X7_add_46 g q1 FU (0 : Int32) (wr (wr M g 2 (cl q1) x1) g 4 (cl q1) (0 : Int32))
          else none
        else none
def B_X7_move_82 (g : Nat) (x1 : Int32) (x2 : Int32) (M : Mem) : Option Mem :=
  if inb x1 20 then
    (f_X7_findOverlaps g (wr M g 2 (cl x1) x2)).bind fun q6 =>
      some q6
  else none
def B_X7_move_69 (g : Nat) (x1 : Int32) (x2 : Int32) (x3 : Int32) (M : Mem) : Option Mem :=
  if (20 : Int32) ≤ x3 then
    B_X7_move_82 g x1 x2 M
  else
    if inb x3 20 then
      B_X7_move_82 g x1 x2 (wr M g 3 (cl x3) x1)
    else none
def B_X7_move_63 (g : Nat) (k14 : Int32 → Int32 → Mem → Option Mem) (x1 : Int32) (x2 : Int32) (x3 : Int32) (x4 : Int32) (M : Mem) : Option Mem :=
  k14 x3 (x4 + 1) M
def L_X7_move_14 (g : Nat) (x1 : Int32) (x2 : Int32) : Nat → Int32 → Int32 → Mem → Option Mem
  | 0, _, _, _ => none
  | n + 1, x3, x4, M =>
    if (M.1 g 1 6) ≤ x4 then
      B_X7_move_69 g x1 x2 x3 M
    else
      if (20 : Int32) ≤ x4 then
        B_X7_move_69 g x1 x2 x3 M
      else
        if (20 : Int32) ≤ x3 then
          B_X7_move_69 g x1 x2 x3 M
        else
          if inb x4 20 then
            if (M.1 g 3 (cl x4)) = x1 then
              B_X7_move_63 g (L_X7_move_14 g x1 x2 n) x1 x2 x3 x4 M
            else
              if inb x4 20 then
                if inb x3 20 then
                  B_X7_move_63 g (L_X7_move_14 g x1 x2 n) x1 x2 (x3 + 1) x4 (wr M g 3 (cl x3) (M.1 g 3 (cl x4)))
                else none
              else none
          else none
def f_X7_move (g : Nat) (x1 : Int32) (x2 : Int32) (M : Mem) : Option Mem :=
  (f_X7_has g x1 M).bind fun q1 =>
    if q1 = 0 then
      some M
    else
      L_X7_move_14 g x1 x2 FU (0 : Int32) (0 : Int32) M
def f_X8_sections (M : Mem) : Int32 :=
  (M.1 0 1 6)
def f_X8_entries (M : Mem) : Int32 :=
  (M.1 0 14 2)
def f_X8_waiting (M : Mem) : Int32 :=
  (M.1 0 12 1)
def f_X8_clearText (M : Mem) : Option (Int32 × Mem) :=
  some ((M.1 6 3 1), (wr M 6 3 1 (0 : Int32)))
def B_X8_orderFault_81 (z0 : Int32) (z1 : Int32) (z2 : Int32) (z3 : Int32) (M : Mem) : Option Int32 :=
  (f_X1_requestFault 1 z3 z2 z1 z0 M).bind fun q13 =>
    some q13
def f_X8_orderFault (x1 : Int32) (x2 : Int32) (x3 : Int32) (x4 : Int32) (x5 : Int32) (M : Mem) : Option Int32 :=
  if x1 = (98 : Int32) then
    (f_X1_breakFault 1 x2 M).bind fun q2 =>
      some q2
  else
  if x1 = (100 : Int32) then
    some (f_X1_checkOutFault 1 x2 M)
  else
  if x1 = (101 : Int32) then
    (f_X1_editFault 1 x2 x3 x4 x5 M).bind fun q6 =>
      some q6
  else
  if x1 = (103 : Int32) then
    (f_X1_giveBackFault 1 x2 x3 M).bind fun q8 =>
      some q8
  else
  if x1 = (113 : Int32) then
    if (f_X8_isWithin x5 (0 : Int32) (1 : Int32)) = 0 then
      some (2 : Int32)
    else
      if x5 = (1 : Int32) then
        B_X8_orderFault_81 (1 : Int32) x4 x3 x2 M
      else
        B_X8_orderFault_81 (0 : Int32) x4 x3 x2 M
  else
  some (f_X1_passFault 1 x2)
def B_X8_runOrder_147 (z0 : Int32) (z1 : Int32) (z2 : Int32) (z3 : Int32) (M : Mem) : Option (Int32 × Mem) :=
  (f_X1_requestNow 1 z3 z2 z1 z0 M).bind fun q19 =>
    some ((1 : Int32), q19.2)
def f_X8_runOrder (x1 : Int32) (M : Mem) : Option (Int32 × Mem) :=
  (f_X3_numberOf x1 (0 : Int32) M).bind fun q1 =>
    (f_X3_numberOf x1 (1 : Int32) M).bind fun q2 =>
      (f_X3_numberOf x1 (2 : Int32) M).bind fun q3 =>
        (f_X3_numberOf x1 (3 : Int32) M).bind fun q4 =>
          (f_X3_letterOf x1 M).bind fun q5 =>
            (f_X8_orderFault q5 q1 q2 q3 q4 M).bind fun q6 =>
              if q6 = 0 then
                (f_X3_letterOf x1 M).bind fun q8 =>
                  if q8 = (98 : Int32) then
                    (f_X1_breakNow 1 q1 M).bind fun q10 =>
                      some ((1 : Int32), q10.2)
                  else
                  if q8 = (100 : Int32) then
                    (f_X1_discardNow 1 q1 M).bind fun q12 =>
                      some ((1 : Int32), q12.2)
                  else
                  if q8 = (101 : Int32) then
                    (f_X1_editNow 1 q1 q2 q3 q4 M).bind fun q14 =>
                      some ((1 : Int32), q14.2)
                  else
                  if q8 = (103 : Int32) then
                    (f_X1_giveBackNow 1 q1 q2 M).bind fun q16 =>
                      some ((1 : Int32), q16.2)
                  else
                  if q8 = (113 : Int32) then
                    if q4 = (1 : Int32) then
                      B_X8_runOrder_147 (1 : Int32) q3 q2 q1 M
                    else
                      B_X8_runOrder_147 (0 : Int32) q3 q2 q1 M
                  else
                  (f_X1_passTicks 1 q1 ((-1) : Int32) M).bind fun q20 =>
                    some ((1 : Int32), q20)
              else
                some ((0 : Int32), M)
def L_X8_carryOut_31 : Nat → Int32 → Mem → Option (Int32 × Mem)
  | 0, _, _ => none
  | n + 1, x2, M =>
    if (M.1 6 3 4) ≤ x2 then
      (f_X6_push 0 M).bind fun q5 =>
        (f_X1_copyFrom 0 1 q5).bind fun q6 =>
          some ((q6.1 6 3 4), q6)
    else
      (f_X8_runOrder x2 M).bind fun q7 =>
        if q7.1 = 0 then
          some ((((-1000) : Int32) - x2), q7.2)
        else
          (L_X8_carryOut_31 n) (x2 + 1) q7.2
def f_X8_carryOut (M : Mem) : Option (Int32 × Mem) :=
  (f_X3_parse M).bind fun q1 =>
    if q1.1 = ((-1) : Int32) then
      (f_X1_copyFrom 1 0 q1.2).bind fun q3 =>
        L_X8_carryOut_31 FU (0 : Int32) q3
    else
      some ((((-10) : Int32) - q1.1), q1.2)
def B_X8_floatBits_69 (x1 : UInt32) (x2 : Int32) : Option Int32 :=
  if nn (FP.fsub x1 FP.fconst1) then
    if nn (FP.fmul (FP.fsub x1 FP.fconst1) (1258291200 : UInt32)) then
      some ((x2 <<< ((23 : Int32) &&& 31)) ||| (FP.f2i (FP.fmul (FP.fsub x1 FP.fconst1) (1258291200 : UInt32))))
    else none
  else none
def L_X8_floatBits_44 : Nat → UInt32 → Int32 → Int32 → Option Int32
  | 0, _, _, _ => none
  | n + 1, x1, x2, x3 =>
    if (64 : Int32) ≤ x3 then
      B_X8_floatBits_69 x1 x2
    else
      if 0 ≤ (Op.cmpValue (FP.fcmp x1 FP.fconst1) .g) then
        B_X8_floatBits_69 x1 x2
      else
        if nn (FP.fmul x1 FP.fconst2) then
          (L_X8_floatBits_44 n) (FP.fmul x1 FP.fconst2) (x2 + ((-1) : Int32)) (x3 + 1)
        else none
def B_X8_floatBits_42 (x1 : UInt32) (x2 : Int32) : Option Int32 :=
  L_X8_floatBits_44 FU x1 x2 (0 : Int32)
def L_X8_floatBits_15 : Nat → UInt32 → Int32 → Int32 → Option Int32
  | 0, _, _, _ => none
  | n + 1, x1, x2, x3 =>
    if (64 : Int32) ≤ x3 then
      B_X8_floatBits_42 x1 x2
    else
      if (Op.cmpValue (FP.fcmp x1 FP.fconst2) .l) < 0 then
        B_X8_floatBits_42 x1 x2
      else
        if nn (FP.fmul x1 (1056964608 : UInt32)) then
          (L_X8_floatBits_15 n) (FP.fmul x1 (1056964608 : UInt32)) (x2 + 1) (x3 + 1)
        else none
def f_X8_floatBits (x0 : UInt32) : Option Int32 :=
  if 0 < (Op.cmpValue (FP.fcmp x0 FP.fconst0) .l) then
    L_X8_floatBits_15 FU x0 (127 : Int32) (0 : Int32)
  else
    some (0 : Int32)
