/-! ===== functions of whole's other side, as words of the pure part (nothing of the claim speaks of them) ===== -/
def f_X8_hashed (x0 : Int64) (x2 : Int32) : Int64 :=
  (((31 : Int64) * x0) + (x2).toInt64)
def B_X0_hashCopy_54 (g : Nat) (k6 : Int64 → Int32 → Option Int64) (x3 : Int32) (x4 : Int32) (x5 : Int64) (x7 : Int32) (M : Mem) : Option Int64 :=
  k6 x5 (x7 + 1)
def L_X0_hashCopy_6 (g : Nat) (x3 : Int32) (x4 : Int32) (M : Mem) : Nat → Int64 → Int32 → Option Int64
  | 0, _, _ => none
  | n + 1, x5, x7 =>
    if (120 : Int32) ≤ x7 then
      some x5
    else
      if (f_X8_hasBit x4 (x7 / (6 : Int32))) = 0 then
        B_X0_hashCopy_54 g (L_X0_hashCopy_6 g x3 x4 M n) x3 x4 x5 x7 M
      else
        (f_X0_baseAt g x3 x7 M).bind fun q4 =>
          (f_X0_ownAt g x3 x7 M).bind fun q6 =>
            B_X0_hashCopy_54 g (L_X0_hashCopy_6 g x3 x4 M n) x3 x4 (f_X8_hashed (f_X8_hashed x5 q4) q6) x7 M
def f_X0_hashCopy (g : Nat) (x1 : Int64) (x3 : Int32) (x4 : Int32) (M : Mem) : Option Int64 :=
  L_X0_hashCopy_6 g x3 x4 M FU x1 (0 : Int32)
def B_X0_hashOnto_82 (g : Nat) (k6 : Int64 → Int32 → Option Int64) (x4 : Int64) (x6 : Int32) (M : Mem) : Option Int64 :=
  k6 x4 (x6 + 1)
def L_X0_hashOnto_34 (g : Nat) (k6 : Int64 → Int32 → Option Int64) (x6 : Int32) (M : Mem) : Nat → Int64 → Int32 → Option Int64
  | 0, _, _ => none
  | n + 1, x4, x7 =>
    if (5 : Int32) ≤ x7 then
      (f_X0_fact g x6 (1 : Int32) M).bind fun q6 =>
        (f_X7_subtreeOf g q6 M).bind fun q7 =>
          (f_X0_hashCopy g x4 x6 q7 M).bind fun q8 =>
            B_X0_hashOnto_82 g k6 q8 x6 M
    else
      (f_X0_fact g x6 x7 M).bind fun q9 =>
        (L_X0_hashOnto_34 g k6 x6 M n) (f_X8_hashed x4 q9) (x7 + 1)
def L_X0_hashOnto_6 (g : Nat) (M : Mem) : Nat → Int64 → Int32 → Option Int64
  | 0, _, _ => none
  | n + 1, x4, x6 =>
    if (10 : Int32) ≤ x6 then
      some x4
    else
      if (f_X0_has g x6 M) = 0 then
        B_X0_hashOnto_82 g (L_X0_hashOnto_6 g M n) x4 x6 M
      else
        L_X0_hashOnto_34 g (L_X0_hashOnto_6 g M n) x6 M FU (f_X8_hashed x4 x6) (0 : Int32)
def f_X0_hashOnto (g : Nat) (x1 : Int64) (M : Mem) : Option Int64 :=
  L_X0_hashOnto_6 g M FU x1 (0 : Int32)
def L_X7_hashSection_80 (g : Nat) (x3 : Int32) (M : Mem) : Nat → Int64 → Int32 → Option Int64
  | 0, _, _ => none
  | n + 1, x5, x7 =>
    if (6 : Int32) ≤ x7 then
      some x5
    else
      (f_X7_valueAt g (f_X8_cellOf x3 x7) M).bind fun q11 =>
        (L_X7_hashSection_80 g x3 M n) (f_X8_hashed x5 q11) (x7 + 1)
def L_X7_hashSection_50 (g : Nat) (x3 : Int32) (x4 : Int32) (M : Mem) : Nat → Int64 → Int32 → Option Int64
  | 0, _, _ => none
  | n + 1, x5, x7 =>
    if x4 ≤ x7 then
      L_X7_hashSection_80 g x3 M FU x5 (0 : Int32)
    else
      (f_X7_childAt g x3 x7 M).bind fun q13 =>
        (L_X7_hashSection_50 g x3 x4 M n) (f_X8_hashed x5 q13) (x7 + 1)
def f_X7_hashSection (g : Nat) (x1 : Int64) (x3 : Int32) (M : Mem) : Option Int64 :=
  (f_X7_childrenOf g x3 M).bind fun q1 =>
    (f_X7_parentOf g x3 M).bind fun q3 =>
      (f_X7_versionOf g x3 M).bind fun q5 =>
        L_X7_hashSection_50 g x3 q1 M FU (f_X8_hashed (f_X8_hashed (f_X8_hashed (f_X8_hashed x1 x3) q3) q5) q1) (0 : Int32)
def B_X7_hashOnto_29 (g : Nat) (k5 : Int64 → Int32 → Option Int64) (x3 : Int64) (x5 : Int32) (M : Mem) : Option Int64 :=
  k5 x3 (x5 + 1)
def L_X7_hashOnto_5 (g : Nat) (M : Mem) : Nat → Int64 → Int32 → Option Int64
  | 0, _, _ => none
  | n + 1, x3, x5 =>
    if (20 : Int32) ≤ x5 then
      some x3
    else
      (f_X7_has g x5 M).bind fun q2 =>
        if q2 = 0 then
          B_X7_hashOnto_29 g (L_X7_hashOnto_5 g M n) x3 x5 M
        else
          (f_X7_hashSection g x3 x5 M).bind fun q4 =>
            B_X7_hashOnto_29 g (L_X7_hashOnto_5 g M n) q4 x5 M
def f_X7_hashOnto (g : Nat) (x1 : Int64) (M : Mem) : Option Int64 :=
  L_X7_hashOnto_5 g M FU x1 (0 : Int32)
def L_X5_hashOnto_24 (g : Nat) (k12 : Int64 → Int32 → Option Int64) (x5 : Int32) (M : Mem) : Nat → Int64 → Int32 → Option Int64
  | 0, _, _ => none
  | n + 1, x3, x6 =>
    if (4 : Int32) ≤ x6 then
      k12 x3 (x5 + 1)
    else
      (f_X5_fact g x5 x6 M).bind fun q4 =>
        (L_X5_hashOnto_24 g k12 x5 M n) (f_X8_hashed x3 q4) (x6 + 1)
def L_X5_hashOnto_12 (g : Nat) (M : Mem) : Nat → Int64 → Int32 → Option Int64
  | 0, _, _ => none
  | n + 1, x3, x5 =>
    if (M.1 g 12 1) ≤ x5 then
      some x3
    else
      L_X5_hashOnto_24 g (L_X5_hashOnto_12 g M n) x5 M FU x3 (0 : Int32)
def f_X5_hashOnto (g : Nat) (x1 : Int64) (M : Mem) : Option Int64 :=
  L_X5_hashOnto_12 g M FU (f_X8_hashed x1 (M.1 g 12 1)) (0 : Int32)
def L_X2_hashOnto_24 (g : Nat) (k12 : Int64 → Int32 → Option Int64) (x5 : Int32) (M : Mem) : Nat → Int64 → Int32 → Option Int64
  | 0, _, _ => none
  | n + 1, x3, x6 =>
    if (6 : Int32) ≤ x6 then
      k12 x3 (x5 + 1)
    else
      (f_X2_fact g x5 x6 M).bind fun q4 =>
        (L_X2_hashOnto_24 g k12 x5 M n) (f_X8_hashed x3 q4) (x6 + 1)
def L_X2_hashOnto_12 (g : Nat) (M : Mem) : Nat → Int64 → Int32 → Option Int64
  | 0, _, _ => none
  | n + 1, x3, x5 =>
    if (M.1 g 14 2) ≤ x5 then
      some x3
    else
      L_X2_hashOnto_24 g (L_X2_hashOnto_12 g M n) x5 M FU x3 (0 : Int32)
def f_X2_hashOnto (g : Nat) (x1 : Int64) (M : Mem) : Option Int64 :=
  L_X2_hashOnto_12 g M FU (f_X8_hashed x1 (M.1 g 14 2)) (0 : Int32)
def L_X1_hashOnto_43 (g : Nat) (M : Mem) : Nat → Int64 → Int32 → Option Int64
  | 0, _, _ => none
  | n + 1, x3, x5 =>
    if (6 : Int32) ≤ x5 then
      (f_X2_hashOnto g x3 M).bind fun q6 =>
        some q6
    else
      if inb x5 6 then
        (L_X1_hashOnto_43 g M n) (f_X8_hashed x3 (M.1 g 16 (cl x5))) (x5 + 1)
      else none
def f_X1_hashOnto (g : Nat) (x1 : Int64) (M : Mem) : Option Int64 :=
  (f_X7_hashOnto g (f_X8_hashed x1 (M.1 g 0 6)) M).bind fun q2 =>
    (f_X0_hashOnto g q2 M).bind fun q3 =>
      (f_X5_hashOnto g q3 M).bind fun q4 =>
        L_X1_hashOnto_43 g M FU q4 (0 : Int32)
def f_X8_digest (M : Mem) : Option Int64 :=
  (f_X1_hashOnto 0 (2857 : Int64) M).bind fun q1 =>
    some (f_X8_hashed (f_X8_hashed q1 (M.1 6 3 1)) (M.1 6 1 1))
def f_X9_thrown (M : Mem) : Int32 :=
  (M.1 7 0 4)
def f_X9_refused (x1 : Int32) (M : Mem) : Option (Int32 × Mem) :=
  if x1 ≤ 0 then
    some ((0 : Int32), (wr M 7 0 4 x1))
  else
    some ((1 : Int32), (wr M 7 0 4 x1))
def f_X9_within (x0 : Int32) (x1 : Int32) (x2 : Int32) : Int32 :=
  if x0 < x1 then
    (0 : Int32)
  else
    if x2 < x0 then
      (0 : Int32)
    else
      (1 : Int32)
def L_X9_saves_51 : Nat → Int32 → Mem → Option Mem
  | 0, _, _ => none
  | n + 1, x1, M =>
    if (3602 : Int32) ≤ x1 then
      some (wr M 7 0 3 ((M.1 7 0 3) + (1 : Int32)))
    else
      if inb x1 3602 then
        if inb (((3602 : Int32) * (M.1 7 0 3)) + x1) 14408 then
          (L_X9_saves_51 n) (x1 + 1) (wr M 7 2 (cl (((3602 : Int32) * (M.1 7 0 3)) + x1)) (M.1 7 1 (cl x1)))
        else none
      else none
def B_X9_saves_49 (M : Mem) : Option Mem :=
  L_X9_saves_51 FU (0 : Int32) M
def L_X9_saves_10 : Nat → Int32 → Mem → Option Mem
  | 0, _, _ => none
  | n + 1, x1, M =>
    if (10806 : Int32) ≤ x1 then
      B_X9_saves_49 (wr M 7 0 3 ((M.1 7 0 3) - (1 : Int32)))
    else
      if inb (x1 + (3602 : Int32)) 14408 then
        if inb x1 14408 then
          (L_X9_saves_10 n) (x1 + 1) (wr M 7 2 (cl x1) (M.1 7 2 (cl (x1 + (3602 : Int32)))))
        else none
      else none
def f_X9_saves (M : Mem) : Option Mem :=
  if (M.1 7 0 3) = (4 : Int32) then
    L_X9_saves_10 FU (0 : Int32) M
  else
    B_X9_saves_49 M
def L_X9_undo_33 : Nat → Int32 → Mem → Option (Int32 × Mem)
  | 0, _, _ => none
  | n + 1, x1, M =>
    if (3602 : Int32) ≤ x1 then
      some ((M.1 7 0 3), M)
    else
      if inb (((3602 : Int32) * (M.1 7 0 3)) + x1) 14408 then
        if inb x1 3602 then
          (L_X9_undo_33 n) (x1 + 1) (wr M 7 1 (cl x1) (M.1 7 2 (cl (((3602 : Int32) * (M.1 7 0 3)) + x1))))
        else none
      else none
def B_X9_undo_13 (z0 : Int32) (M : Mem) : Option (Int32 × Mem) :=
  (f_X9_refused z0 M).bind fun q2 =>
    if q2.1 = 0 then
      L_X9_undo_33 FU (0 : Int32) (wr q2.2 7 0 3 ((q2.2.1 7 0 3) - (1 : Int32)))
    else
      some ((0 : Int32), q2.2)
def f_X9_undo (M : Mem) : Option (Int32 × Mem) :=
  if (M.1 7 0 3) = 0 then
    B_X9_undo_13 (1 : Int32) M
  else
    B_X9_undo_13 (0 : Int32) M
def L_X9_laysAside_2 : Nat → Int32 → Mem → Option Mem
  | 0, _, _ => none
  | n + 1, x1, M =>
    if (3602 : Int32) ≤ x1 then
      some M
    else
      if inb x1 3602 then
        if inb x1 3602 then
          (L_X9_laysAside_2 n) (x1 + 1) (wr M 7 3 (cl x1) (M.1 7 1 (cl x1)))
        else none
      else none
def f_X9_laysAside (M : Mem) : Option Mem :=
  L_X9_laysAside_2 FU (0 : Int32) M
def L_X9_takesBack_2 : Nat → Int32 → Mem → Option Mem
  | 0, _, _ => none
  | n + 1, x1, M =>
    if (3602 : Int32) ≤ x1 then
      some M
    else
      if inb x1 3602 then
        if inb x1 3602 then
          (L_X9_takesBack_2 n) (x1 + 1) (wr M 7 1 (cl x1) (M.1 7 3 (cl x1)))
        else none
      else none
def f_X9_takesBack (M : Mem) : Option Mem :=
  L_X9_takesBack_2 FU (0 : Int32) M
def f_X9_isSection (x1 : Int32) (M : Mem) : Option Int32 :=
  if (f_X9_within x1 (0 : Int32) (19 : Int32)) = 0 then
    some (0 : Int32)
  else
    if inb ((2 : Int32) + x1) 3602 then
      if (M.1 7 1 (cl ((2 : Int32) + x1))) = (1 : Int32) then
        some (1 : Int32)
      else
        some (0 : Int32)
    else none
def B_X9_isIn_25 (x3 : Int32) (M : Mem) : Option Int32 :=
  if x3 = ((-1) : Int32) then
    some (0 : Int32)
  else
    some (1 : Int32)
def L_X9_isIn_2 (x2 : Int32) (M : Mem) : Nat → Int32 → Option Int32
  | 0, _ => none
  | n + 1, x3 =>
    if x3 = ((-1) : Int32) then
      B_X9_isIn_25 x3 M
    else
      if x3 = x2 then
        B_X9_isIn_25 x3 M
      else
        if inb ((22 : Int32) + x3) 3602 then
          (L_X9_isIn_2 x2 M n) (M.1 7 1 (cl ((22 : Int32) + x3)))
        else none
def f_X9_isIn (x1 : Int32) (x2 : Int32) (M : Mem) : Option Int32 :=
  L_X9_isIn_2 x2 M FU x1
def B_X9_overlap_18 (M : Mem) : Option Int32 :=
  some (1 : Int32)
def f_X9_overlap (x1 : Int32) (x2 : Int32) (M : Mem) : Option Int32 :=
  (f_X9_isIn x1 x2 M).bind fun q1 =>
    if q1 = 0 then
      (f_X9_isIn x2 x1 M).bind fun q3 =>
        if q3 = 0 then
          some (0 : Int32)
        else
          B_X9_overlap_18 M
    else
      B_X9_overlap_18 M
def L_X9_many_4 (M : Mem) : Nat → Int32 → Int32 → Option Int32
  | 0, _, _ => none
  | n + 1, x1, x2 =>
    if (20 : Int32) ≤ x2 then
      some x1
    else
      if inb ((2 : Int32) + x2) 3602 then
        (L_X9_many_4 M n) (x1 + (M.1 7 1 (cl ((2 : Int32) + x2)))) (x2 + 1)
      else none
def f_X9_many (M : Mem) : Option Int32 :=
  L_X9_many_4 M FU (0 : Int32) (0 : Int32)
def f_X9_isChild (x1 : Int32) (x2 : Int32) (M : Mem) : Option Int32 :=
  if x1 ≤ 0 then
    some (0 : Int32)
  else
    if inb ((2 : Int32) + x1) 3602 then
      if (M.1 7 1 (cl ((2 : Int32) + x1))) = (1 : Int32) then
        if inb ((22 : Int32) + x1) 3602 then
          if (M.1 7 1 (cl ((22 : Int32) + x1))) = x2 then
            some (1 : Int32)
          else
            some (0 : Int32)
        else none
      else
        some (0 : Int32)
    else none
def B_X9_childMany_25 (k4 : Int32 → Int32 → Option Int32) (x1 : Int32) (x3 : Int32) (z0 : Int32) (z1 : Int32) (M : Mem) : Option Int32 :=
  k4 (z1 + z0) (x3 + 1)
def L_X9_childMany_4 (x1 : Int32) (M : Mem) : Nat → Int32 → Int32 → Option Int32
  | 0, _, _ => none
  | n + 1, x2, x3 =>
    if (20 : Int32) ≤ x3 then
      some x2
    else
      (f_X9_isChild x3 x1 M).bind fun q2 =>
        if q2 = 0 then
          B_X9_childMany_25 (L_X9_childMany_4 x1 M n) x1 x3 (0 : Int32) x2 M
        else
          B_X9_childMany_25 (L_X9_childMany_4 x1 M n) x1 x3 (1 : Int32) x2 M
def f_X9_childMany (x1 : Int32) (M : Mem) : Option Int32 :=
  L_X9_childMany_4 x1 M FU (0 : Int32) (1 : Int32)
def B_X9_childAt_96 (k5 : Int32 → Int32 → Option Int32) (x1 : Int32) (x2 : Int32) (x4 : Int32) (z0 : Int32) (M : Mem) : Option Int32 :=
  k5 z0 (x4 + 1)
def B_X9_childAt_95 (k5 : Int32 → Int32 → Option Int32) (x1 : Int32) (x2 : Int32) (x3 : Int32) (x4 : Int32) (M : Mem) : Option Int32 :=
  B_X9_childAt_96 k5 x1 x2 x4 x3 M
def B_X9_childAt_65 (k5 : Int32 → Int32 → Option Int32) (k18 : Int32 → Int32 → Option Int32) (x1 : Int32) (x2 : Int32) (x3 : Int32) (x4 : Int32) (x6 : Int32) (z0 : Int32) (z1 : Int32) (M : Mem) : Option Int32 :=
  k18 (z1 + z0) (x6 + 1)
def B_X9_childAt_64 (k5 : Int32 → Int32 → Option Int32) (k18 : Int32 → Int32 → Option Int32) (x1 : Int32) (x2 : Int32) (x3 : Int32) (x4 : Int32) (x6 : Int32) (z0 : Int32) (M : Mem) : Option Int32 :=
  B_X9_childAt_65 k5 k18 x1 x2 x3 x4 x6 (0 : Int32) z0 M
def L_X9_childAt_18 (k5 : Int32 → Int32 → Option Int32) (x1 : Int32) (x2 : Int32) (x3 : Int32) (x4 : Int32) (M : Mem) : Nat → Int32 → Int32 → Option Int32
  | 0, _, _ => none
  | n + 1, x5, x6 =>
    if (20 : Int32) ≤ x6 then
      (f_X9_isChild x4 x1 M).bind fun q3 =>
        if q3 = 0 then
          B_X9_childAt_95 k5 x1 x2 x3 x4 M
        else
          if x5 = x2 then
            B_X9_childAt_96 k5 x1 x2 x4 x4 M
          else
            B_X9_childAt_95 k5 x1 x2 x3 x4 M
    else
      (f_X9_isChild x6 x1 M).bind fun q6 =>
        if q6 = 0 then
          B_X9_childAt_64 k5 (L_X9_childAt_18 k5 x1 x2 x3 x4 M n) x1 x2 x3 x4 x6 x5 M
        else
          if inb ((42 : Int32) + x6) 3602 then
            if inb ((42 : Int32) + x4) 3602 then
              if (M.1 7 1 (cl ((42 : Int32) + x4))) ≤ (M.1 7 1 (cl ((42 : Int32) + x6))) then
                B_X9_childAt_64 k5 (L_X9_childAt_18 k5 x1 x2 x3 x4 M n) x1 x2 x3 x4 x6 x5 M
              else
                B_X9_childAt_65 k5 (L_X9_childAt_18 k5 x1 x2 x3 x4 M n) x1 x2 x3 x4 x6 (1 : Int32) x5 M
            else none
          else none
def L_X9_childAt_5 (x1 : Int32) (x2 : Int32) (M : Mem) : Nat → Int32 → Int32 → Option Int32
  | 0, _, _ => none
  | n + 1, x3, x4 =>
    if (20 : Int32) ≤ x4 then
      some x3
    else
      L_X9_childAt_18 (L_X9_childAt_5 x1 x2 M n) x1 x2 x3 x4 M FU (0 : Int32) (1 : Int32)
def f_X9_childAt (x1 : Int32) (x2 : Int32) (M : Mem) : Option Int32 :=
  L_X9_childAt_5 x1 x2 M FU ((-1) : Int32) (1 : Int32)
def L_X9_depth_4 (M : Mem) : Nat → Int32 → Int32 → Option Int32
  | 0, _, _ => none
  | n + 1, x2, x3 =>
    if inb ((22 : Int32) + x3) 3602 then
      if (M.1 7 1 (cl ((22 : Int32) + x3))) = ((-1) : Int32) then
        some x2
      else
        if inb ((22 : Int32) + x3) 3602 then
          (L_X9_depth_4 M n) (x2 + 1) (M.1 7 1 (cl ((22 : Int32) + x3)))
        else none
    else none
def f_X9_depth (x1 : Int32) (M : Mem) : Option Int32 :=
  L_X9_depth_4 M FU (0 : Int32) x1
def B_X9_below_42 (k4 : Int32 → Int32 → Option Int32) (x1 : Int32) (x3 : Int32) (z0 : Int32) (z1 : Int32) (M : Mem) : Option Int32 :=
  k4 (z1 + z0) (x3 + 1)
def B_X9_below_41 (k4 : Int32 → Int32 → Option Int32) (x1 : Int32) (x3 : Int32) (z0 : Int32) (M : Mem) : Option Int32 :=
  B_X9_below_42 k4 x1 x3 (0 : Int32) z0 M
def L_X9_below_4 (x1 : Int32) (M : Mem) : Nat → Int32 → Int32 → Option Int32
  | 0, _, _ => none
  | n + 1, x2, x3 =>
    if (20 : Int32) ≤ x3 then
      some x2
    else
      if inb ((2 : Int32) + x3) 3602 then
        if (M.1 7 1 (cl ((2 : Int32) + x3))) = (1 : Int32) then
          if x3 = x1 then
            B_X9_below_41 (L_X9_below_4 x1 M n) x1 x3 x2 M
          else
            (f_X9_isIn x3 x1 M).bind fun q5 =>
              if q5 = 0 then
                B_X9_below_41 (L_X9_below_4 x1 M n) x1 x3 x2 M
              else
                B_X9_below_42 (L_X9_below_4 x1 M n) x1 x3 (1 : Int32) x2 M
        else
          B_X9_below_41 (L_X9_below_4 x1 M n) x1 x3 x2 M
      else none
def f_X9_below (x1 : Int32) (M : Mem) : Option Int32 :=
  L_X9_below_4 x1 M FU (0 : Int32) (0 : Int32)
def f_X9_check (x0 : Int32) (x1 : Int32) : Int32 :=
  (((202 : Int32) + ((6 : Int32) * x0)) + x1)
def f_X9_get (x1 : Int32) (x2 : Int32) (M : Mem) : Option Int32 :=
  if inb (f_X9_check x1 x2) 3602 then
    some (M.1 7 1 (cl (f_X9_check x1 x2)))
  else none
def f_X9_isCheck (x1 : Int32) (M : Mem) : Option Int32 :=
  if (f_X9_within x1 (0 : Int32) (9 : Int32)) = 0 then
    some (0 : Int32)
  else
    (f_X9_get x1 (0 : Int32) M).bind fun q3 =>
      if q3 = (1 : Int32) then
        some (1 : Int32)
      else
        some (0 : Int32)
def f_X9_isHeld (x1 : Int32) (M : Mem) : Option Int32 :=
  (f_X9_isCheck x1 M).bind fun q1 =>
    if q1 = 0 then
      some (0 : Int32)
    else
      (f_X9_get x1 (4 : Int32) M).bind fun q3 =>
        if q3 = (1 : Int32) then
          some (1 : Int32)
        else
          some (0 : Int32)
def f_X9_copy (x0 : Int32) (x1 : Int32) (x2 : Int32) : Int32 :=
  ((((262 : Int32) + ((240 : Int32) * x0)) + ((12 : Int32) * x1)) + ((2 : Int32) * x2))
def f_X9_wait (x0 : Int32) (x1 : Int32) : Int32 :=
  (((2663 : Int32) + ((4 : Int32) * x0)) + x1)
def f_X9_waits (M : Mem) : Option Int32 :=
  some (M.1 7 1 (cl (2662 : Int32)))
def B_X9_isCovered_85 (k50 : Int32 → Int32 → Option Int32) (x1 : Int32) (x3 : Int32) (z0 : Int32) (M : Mem) : Option Int32 :=
  k50 z0 (x3 + 1)
def B_X9_isCovered_80 (k50 : Int32 → Int32 → Option Int32) (x1 : Int32) (x3 : Int32) (M : Mem) : Option Int32 :=
  B_X9_isCovered_85 k50 x1 x3 (1 : Int32) M
def L_X9_isCovered_50 (x1 : Int32) (M : Mem) : Nat → Int32 → Int32 → Option Int32
  | 0, _, _ => none
  | n + 1, x2, x3 =>
    (f_X9_waits M).bind fun q2 =>
      if q2 ≤ x3 then
        if isb x2 then
          some x2
        else none
      else
        if x2 = 0 then
          if inb (f_X9_wait x3 (1 : Int32)) 3602 then
            (f_X9_isIn x1 (M.1 7 1 (cl (f_X9_wait x3 (1 : Int32)))) M).bind fun q8 =>
              if q8 = 0 then
                B_X9_isCovered_85 (L_X9_isCovered_50 x1 M n) x1 x3 (0 : Int32) M
              else
                B_X9_isCovered_80 (L_X9_isCovered_50 x1 M n) x1 x3 M
          else none
        else
          B_X9_isCovered_80 (L_X9_isCovered_50 x1 M n) x1 x3 M
def B_X9_isCovered_41 (k4 : Int32 → Int32 → Option Int32) (x1 : Int32) (x3 : Int32) (z0 : Int32) (M : Mem) : Option Int32 :=
  k4 z0 (x3 + 1)
def B_X9_isCovered_36 (k4 : Int32 → Int32 → Option Int32) (x1 : Int32) (x3 : Int32) (M : Mem) : Option Int32 :=
  B_X9_isCovered_41 k4 x1 x3 (1 : Int32) M
def B_X9_isCovered_40 (k4 : Int32 → Int32 → Option Int32) (x1 : Int32) (x3 : Int32) (M : Mem) : Option Int32 :=
  B_X9_isCovered_41 k4 x1 x3 (0 : Int32) M
def L_X9_isCovered_4 (x1 : Int32) (M : Mem) : Nat → Int32 → Int32 → Option Int32
  | 0, _, _ => none
  | n + 1, x2, x3 =>
    if (10 : Int32) ≤ x3 then
      L_X9_isCovered_50 x1 M FU x2 (0 : Int32)
    else
      if x2 = 0 then
        (f_X9_isCheck x3 M).bind fun q11 =>
          if q11 = 0 then
            B_X9_isCovered_40 (L_X9_isCovered_4 x1 M n) x1 x3 M
          else
            (f_X9_get x3 (2 : Int32) M).bind fun q13 =>
              (f_X9_isIn x1 q13 M).bind fun q14 =>
                if q14 = 0 then
                  B_X9_isCovered_40 (L_X9_isCovered_4 x1 M n) x1 x3 M
                else
                  B_X9_isCovered_36 (L_X9_isCovered_4 x1 M n) x1 x3 M
      else
        B_X9_isCovered_36 (L_X9_isCovered_4 x1 M n) x1 x3 M
def f_X9_isCovered (x1 : Int32) (M : Mem) : Option Int32 :=
  L_X9_isCovered_4 x1 M FU (0 : Int32) (0 : Int32)
def B_X9_isWaitedFor_39 (k4 : Int32 → Int32 → Option Int32) (x1 : Int32) (x3 : Int32) (z0 : Int32) (M : Mem) : Option Int32 :=
  k4 z0 (x3 + 1)
def B_X9_isWaitedFor_34 (k4 : Int32 → Int32 → Option Int32) (x1 : Int32) (x3 : Int32) (M : Mem) : Option Int32 :=
  B_X9_isWaitedFor_39 k4 x1 x3 (1 : Int32) M
def L_X9_isWaitedFor_4 (x1 : Int32) (M : Mem) : Nat → Int32 → Int32 → Option Int32
  | 0, _, _ => none
  | n + 1, x2, x3 =>
    (f_X9_waits M).bind fun q1 =>
      if q1 ≤ x3 then
        if isb x2 then
          some x2
        else none
      else
        if x2 = 0 then
          if inb (f_X9_wait x3 (1 : Int32)) 3602 then
            (f_X9_overlap x1 (M.1 7 1 (cl (f_X9_wait x3 (1 : Int32)))) M).bind fun q7 =>
              if q7 = 0 then
                B_X9_isWaitedFor_39 (L_X9_isWaitedFor_4 x1 M n) x1 x3 (0 : Int32) M
              else
                B_X9_isWaitedFor_34 (L_X9_isWaitedFor_4 x1 M n) x1 x3 M
          else none
        else
          B_X9_isWaitedFor_34 (L_X9_isWaitedFor_4 x1 M n) x1 x3 M
def f_X9_isWaitedFor (x1 : Int32) (M : Mem) : Option Int32 :=
  L_X9_isWaitedFor_4 x1 M FU (0 : Int32) (0 : Int32)
def B_X9_isTouched_45 (k8 : Int32 → Int32 → Option Int32) (x1 : Int32) (x3 : Int32) (z0 : Int32) (M : Mem) : Option Int32 :=
  k8 z0 (x3 + 1)
def B_X9_isTouched_40 (k8 : Int32 → Int32 → Option Int32) (x1 : Int32) (x3 : Int32) (M : Mem) : Option Int32 :=
  B_X9_isTouched_45 k8 x1 x3 (1 : Int32) M
def B_X9_isTouched_44 (k8 : Int32 → Int32 → Option Int32) (x1 : Int32) (x3 : Int32) (M : Mem) : Option Int32 :=
  B_X9_isTouched_45 k8 x1 x3 (0 : Int32) M
def L_X9_isTouched_8 (x1 : Int32) (M : Mem) : Nat → Int32 → Int32 → Option Int32
  | 0, _, _ => none
  | n + 1, x2, x3 =>
    if (10 : Int32) ≤ x3 then
      if isb x2 then
        some x2
      else none
    else
      if x2 = 0 then
        (f_X9_isCheck x3 M).bind fun q5 =>
          if q5 = 0 then
            B_X9_isTouched_44 (L_X9_isTouched_8 x1 M n) x1 x3 M
          else
            (f_X9_get x3 (2 : Int32) M).bind fun q7 =>
              (f_X9_overlap x1 q7 M).bind fun q8 =>
                if q8 = 0 then
                  B_X9_isTouched_44 (L_X9_isTouched_8 x1 M n) x1 x3 M
                else
                  B_X9_isTouched_40 (L_X9_isTouched_8 x1 M n) x1 x3 M
      else
        B_X9_isTouched_40 (L_X9_isTouched_8 x1 M n) x1 x3 M
def f_X9_isTouched (x1 : Int32) (M : Mem) : Option Int32 :=
  (f_X9_isWaitedFor x1 M).bind fun q1 =>
    L_X9_isTouched_8 x1 M FU q1 (0 : Int32)
def B_X9_isHeldAround_41 (k4 : Int32 → Int32 → Option Int32) (x1 : Int32) (x3 : Int32) (z0 : Int32) (M : Mem) : Option Int32 :=
  k4 z0 (x3 + 1)
def B_X9_isHeldAround_36 (k4 : Int32 → Int32 → Option Int32) (x1 : Int32) (x3 : Int32) (M : Mem) : Option Int32 :=
  B_X9_isHeldAround_41 k4 x1 x3 (1 : Int32) M
def B_X9_isHeldAround_40 (k4 : Int32 → Int32 → Option Int32) (x1 : Int32) (x3 : Int32) (M : Mem) : Option Int32 :=
  B_X9_isHeldAround_41 k4 x1 x3 (0 : Int32) M
def L_X9_isHeldAround_4 (x1 : Int32) (M : Mem) : Nat → Int32 → Int32 → Option Int32
  | 0, _, _ => none
  | n + 1, x2, x3 =>
    if (10 : Int32) ≤ x3 then
      if isb x2 then
        some x2
      else none
    else
      if x2 = 0 then
        (f_X9_isHeld x3 M).bind fun q4 =>
          if q4 = 0 then
            B_X9_isHeldAround_40 (L_X9_isHeldAround_4 x1 M n) x1 x3 M
          else
            (f_X9_get x3 (2 : Int32) M).bind fun q6 =>
              (f_X9_overlap x1 q6 M).bind fun q7 =>
                if q7 = 0 then
                  B_X9_isHeldAround_40 (L_X9_isHeldAround_4 x1 M n) x1 x3 M
                else
                  B_X9_isHeldAround_36 (L_X9_isHeldAround_4 x1 M n) x1 x3 M
      else
        B_X9_isHeldAround_36 (L_X9_isHeldAround_4 x1 M n) x1 x3 M
def f_X9_isHeldAround (x1 : Int32) (M : Mem) : Option Int32 :=
  L_X9_isHeldAround_4 x1 M FU (0 : Int32) (0 : Int32)
def B_X9_holdersOf_40 (k4 : Int32 → Int32 → Option Int32) (x1 : Int32) (x3 : Int32) (z0 : Int32) (z1 : Int32) (M : Mem) : Option Int32 :=
  k4 (z1 ||| z0) (x3 + 1)
def B_X9_holdersOf_39 (k4 : Int32 → Int32 → Option Int32) (x1 : Int32) (x3 : Int32) (z0 : Int32) (M : Mem) : Option Int32 :=
  B_X9_holdersOf_40 k4 x1 x3 (0 : Int32) z0 M
def L_X9_holdersOf_4 (x1 : Int32) (M : Mem) : Nat → Int32 → Int32 → Option Int32
  | 0, _, _ => none
  | n + 1, x2, x3 =>
    if (10 : Int32) ≤ x3 then
      some x2
    else
      (f_X9_isHeld x3 M).bind fun q2 =>
        if q2 = 0 then
          B_X9_holdersOf_39 (L_X9_holdersOf_4 x1 M n) x1 x3 x2 M
        else
          (f_X9_get x3 (2 : Int32) M).bind fun q4 =>
            (f_X9_isIn x1 q4 M).bind fun q5 =>
              if q5 = 0 then
                B_X9_holdersOf_39 (L_X9_holdersOf_4 x1 M n) x1 x3 x2 M
              else
                B_X9_holdersOf_40 (L_X9_holdersOf_4 x1 M n) x1 x3 ((1 : Int32) <<< (x3 &&& 31)) x2 M
def f_X9_holdersOf (x1 : Int32) (M : Mem) : Option Int32 :=
  L_X9_holdersOf_4 x1 M FU (0 : Int32) (0 : Int32)
def f_X9_absorbs (x1 : Int32) (x2 : Int32) (x3 : Int32) (x4 : Int32) (M : Mem) : Option Int32 :=
  if x3 = 0 then
    (f_X9_isHeld x4 M).bind fun q2 =>
      if q2 = 0 then
        some (0 : Int32)
      else
        (f_X9_get x4 (1 : Int32) M).bind fun q4 =>
          if q4 = x1 then
            (f_X9_get x4 (2 : Int32) M).bind fun q6 =>
              if q6 = x2 then
                some (0 : Int32)
              else
                (f_X9_get x4 (2 : Int32) M).bind fun q8 =>
                  (f_X9_isIn q8 x2 M).bind fun q9 =>
                    if q9 = 0 then
                      some (0 : Int32)
                    else
                      some (1 : Int32)
          else
            some (0 : Int32)
  else
    some (0 : Int32)
def B_X9_bars_21 (x1 : Int32) (x2 : Int32) (x3 : Int32) (x4 : Int32) (z0 : Int32) (M : Mem) : Option Int32 :=
  (f_X9_isHeld x4 M).bind fun q2 =>
    if q2 = 0 then
      some (0 : Int32)
    else
      (f_X9_get x4 (2 : Int32) M).bind fun q4 =>
        (f_X9_overlap x2 q4 M).bind fun q5 =>
          if q5 = 0 then
            some (0 : Int32)
          else
            if z0 = 0 then
              (f_X9_absorbs x1 x2 x3 x4 M).bind fun q8 =>
                if q8 = 0 then
                  some (1 : Int32)
                else
                  some (0 : Int32)
            else
              some (0 : Int32)
def B_X9_bars_20 (x1 : Int32) (x2 : Int32) (x3 : Int32) (x4 : Int32) (M : Mem) : Option Int32 :=
  B_X9_bars_21 x1 x2 x3 x4 (0 : Int32) M
def f_X9_bars (x1 : Int32) (x2 : Int32) (x3 : Int32) (x4 : Int32) (M : Mem) : Option Int32 :=
  if x3 = (1 : Int32) then
    (f_X9_get x4 (5 : Int32) M).bind fun q10 =>
      if q10 = (1 : Int32) then
        B_X9_bars_21 x1 x2 x3 x4 (1 : Int32) M
      else
        B_X9_bars_20 x1 x2 x3 x4 M
  else
    B_X9_bars_20 x1 x2 x3 x4 M
def B_X9_canGrant_68 (k9 : Int32 → Int32 → Int32 → Option Int32) (x1 : Int32) (x2 : Int32) (x3 : Int32) (x4 : Int32) (x6 : Int32) (z0 : Int32) (z1 : Int32) (M : Mem) : Option Int32 :=
  k9 x4 (z1 + z0) (x6 + 1)
def B_X9_canGrant_67 (k9 : Int32 → Int32 → Int32 → Option Int32) (x1 : Int32) (x2 : Int32) (x3 : Int32) (x4 : Int32) (x6 : Int32) (z0 : Int32) (M : Mem) : Option Int32 :=
  B_X9_canGrant_68 k9 x1 x2 x3 x4 x6 (0 : Int32) z0 M
def B_X9_canGrant_38 (k9 : Int32 → Int32 → Int32 → Option Int32) (x1 : Int32) (x2 : Int32) (x3 : Int32) (x5 : Int32) (x6 : Int32) (z0 : Int32) (M : Mem) : Option Int32 :=
  (f_X9_isCheck x6 M).bind fun q5 =>
    if q5 = 0 then
      B_X9_canGrant_67 k9 x1 x2 x3 z0 x6 x5 M
    else
      (f_X9_absorbs x1 x2 x3 x6 M).bind fun q7 =>
        if q7 = 0 then
          B_X9_canGrant_68 k9 x1 x2 x3 z0 x6 (1 : Int32) x5 M
        else
          B_X9_canGrant_67 k9 x1 x2 x3 z0 x6 x5 M
def B_X9_canGrant_37 (k9 : Int32 → Int32 → Int32 → Option Int32) (x1 : Int32) (x2 : Int32) (x3 : Int32) (x5 : Int32) (x6 : Int32) (M : Mem) : Option Int32 :=
  B_X9_canGrant_38 k9 x1 x2 x3 x5 x6 (0 : Int32) M
def L_X9_canGrant_9 (x1 : Int32) (x2 : Int32) (x3 : Int32) (M : Mem) : Nat → Int32 → Int32 → Int32 → Option Int32
  | 0, _, _, _ => none
  | n + 1, x4, x5, x6 =>
    if (10 : Int32) ≤ x6 then
      if x4 = 0 then
        some (0 : Int32)
      else
        if (10 : Int32) ≤ x5 then
          some (0 : Int32)
        else
          some (1 : Int32)
    else
      if x4 = 0 then
        B_X9_canGrant_37 (L_X9_canGrant_9 x1 x2 x3 M n) x1 x2 x3 x5 x6 M
      else
        (f_X9_bars x1 x2 x3 x6 M).bind fun q9 =>
          if q9 = 0 then
            B_X9_canGrant_38 (L_X9_canGrant_9 x1 x2 x3 M n) x1 x2 x3 x5 x6 (1 : Int32) M
          else
            B_X9_canGrant_37 (L_X9_canGrant_9 x1 x2 x3 M n) x1 x2 x3 x5 x6 M
def f_X9_canGrant (x1 : Int32) (x2 : Int32) (x3 : Int32) (M : Mem) : Option Int32 :=
  L_X9_canGrant_9 x1 x2 x3 M FU (1 : Int32) (0 : Int32) (0 : Int32)
def B_X9_takesOver_68 (k2 : Int32 → Mem → Option Mem) (x1 : Int32) (x2 : Int32) (M : Mem) : Option Mem :=
  k2 (x2 + 1) M
def L_X9_takesOver_10 (k2 : Int32 → Mem → Option Mem) (x1 : Int32) (x2 : Int32) : Nat → Int32 → Mem → Option Mem
  | 0, _, _ => none
  | n + 1, x3, M =>
    if (12 : Int32) ≤ x3 then
      B_X9_takesOver_68 k2 x1 x2 M
    else
      (f_X9_isSection x2 M).bind fun q3 =>
        if q3 = 0 then
          B_X9_takesOver_68 k2 x1 x2 M
        else
          (f_X9_get x1 (2 : Int32) M).bind fun q5 =>
            (f_X9_isIn x2 q5 M).bind fun q6 =>
              if q6 = 0 then
                B_X9_takesOver_68 k2 x1 x2 M
              else
                if inb ((f_X9_copy x1 x2 (0 : Int32)) + x3) 3602 then
                  if inb (((12 : Int32) * x2) + x3) 240 then
                    (L_X9_takesOver_10 k2 x1 x2 n) (x3 + 1) (wr M 7 5 (cl (((12 : Int32) * x2) + x3)) (M.1 7 1 (cl ((f_X9_copy x1 x2 (0 : Int32)) + x3))))
                  else none
                else none
def L_X9_takesOver_2 (x1 : Int32) : Nat → Int32 → Mem → Option Mem
  | 0, _, _ => none
  | n + 1, x2, M =>
    if (20 : Int32) ≤ x2 then
      some M
    else
      L_X9_takesOver_10 (L_X9_takesOver_2 x1 n) x1 x2 FU (0 : Int32) M
def f_X9_takesOver (x1 : Int32) (M : Mem) : Option Mem :=
  L_X9_takesOver_2 x1 FU (0 : Int32) M
def L_X9_grants_194 (x5 : Int32) : Nat → Int32 → Mem → Option (Int32 × Mem)
  | 0, _, _ => none
  | n + 1, x6, M =>
    if (240 : Int32) ≤ x6 then
      some (x5, M)
    else
      if inb x6 240 then
        if inb ((f_X9_copy x5 (0 : Int32) (0 : Int32)) + x6) 3602 then
          (L_X9_grants_194 x5 n) (x6 + 1) (wr M 7 1 (cl ((f_X9_copy x5 (0 : Int32) (0 : Int32)) + x6)) (M.1 7 5 (cl x6)))
        else none
      else none
def L_X9_grants_96 (x1 : Int32) (x2 : Int32) (x3 : Int32) (x4 : Int32) (M : Mem) : Nat → Int32 → Option (Int32 × Mem)
  | 0, _ => none
  | n + 1, x5 =>
    (f_X9_isCheck x5 M).bind fun q3 =>
      if q3 = 0 then
        if inb (f_X9_check x5 (0 : Int32)) 3602 then
          if inb (f_X9_check x5 (1 : Int32)) 3602 then
            if inb (f_X9_check x5 (2 : Int32)) 3602 then
              if inb (f_X9_check x5 (3 : Int32)) 3602 then
                if inb (f_X9_check x5 (4 : Int32)) 3602 then
                  if inb (f_X9_check x5 (5 : Int32)) 3602 then
                    L_X9_grants_194 x5 FU (0 : Int32) (wr (wr (wr (wr (wr (wr M 7 1 (cl (f_X9_check x5 (0 : Int32))) (1 : Int32)) 7 1 (cl (f_X9_check x5 (1 : Int32))) x1) 7 1 (cl (f_X9_check x5 (2 : Int32))) x2) 7 1 (cl (f_X9_check x5 (3 : Int32))) (((wr (wr (wr M 7 1 (cl (f_X9_check x5 (0 : Int32))) (1 : Int32)) 7 1 (cl (f_X9_check x5 (1 : Int32))) x1) 7 1 (cl (f_X9_check x5 (2 : Int32))) x2).1 7 1 (cl (0 : Int32))) + x3)) 7 1 (cl (f_X9_check x5 (4 : Int32))) (1 : Int32)) 7 1 (cl (f_X9_check x5 (5 : Int32))) x4)
                  else none
                else none
              else none
            else none
          else none
        else none
      else
        (L_X9_grants_96 x1 x2 x3 x4 M n) (x5 + 1)
def B_X9_grants_87 (k39 : Int32 → Mem → Option (Int32 × Mem)) (x1 : Int32) (x2 : Int32) (x3 : Int32) (x4 : Int32) (x5 : Int32) (M : Mem) : Option (Int32 × Mem) :=
  k39 (x5 + 1) M
def B_X9_grants_75 (k39 : Int32 → Mem → Option (Int32 × Mem)) (x1 : Int32) (x2 : Int32) (x3 : Int32) (x4 : Int32) (x5 : Int32) (M : Mem) : Option (Int32 × Mem) :=
  if inb (f_X9_check x5 (0 : Int32)) 3602 then
    B_X9_grants_87 k39 x1 x2 x3 x4 x5 (wr M 7 1 (cl (f_X9_check x5 (0 : Int32))) (0 : Int32))
  else none
def L_X9_grants_39 (x1 : Int32) (x2 : Int32) (x3 : Int32) (x4 : Int32) : Nat → Int32 → Mem → Option (Int32 × Mem)
  | 0, _, _ => none
  | n + 1, x5, M =>
    if (10 : Int32) ≤ x5 then
      L_X9_grants_96 x1 x2 x3 x4 M FU (0 : Int32)
    else
      (f_X9_absorbs x1 x2 x4 x5 M).bind fun q21 =>
        if q21 = 0 then
          B_X9_grants_87 (L_X9_grants_39 x1 x2 x3 x4 n) x1 x2 x3 x4 x5 M
        else
          (f_X9_get x5 (5 : Int32) M).bind fun q23 =>
            if q23 = 0 then
              (f_X9_takesOver x5 M).bind fun q27 =>
                B_X9_grants_75 (L_X9_grants_39 x1 x2 x3 x4 n) x1 x2 x3 x4 x5 q27
            else
              B_X9_grants_75 (L_X9_grants_39 x1 x2 x3 x4 n) x1 x2 x3 x4 x5 M
def L_X9_grants_3 (x1 : Int32) (x2 : Int32) (x3 : Int32) (x4 : Int32) : Nat → Int32 → Mem → Option (Int32 × Mem)
  | 0, _, _ => none
  | n + 1, x5, M =>
    if (240 : Int32) ≤ x5 then
      L_X9_grants_39 x1 x2 x3 x4 FU (0 : Int32) M
    else
      if inb ((82 : Int32) + (x5 / (2 : Int32))) 3602 then
        if inb x5 240 then
          (L_X9_grants_3 x1 x2 x3 x4 n) (x5 + 1) (wr M 7 5 (cl x5) (M.1 7 1 (cl ((82 : Int32) + (x5 / (2 : Int32))))))
        else none
      else none
def f_X9_grants (x1 : Int32) (x2 : Int32) (x3 : Int32) (x4 : Int32) (M : Mem) : Option (Int32 × Mem) :=
  L_X9_grants_3 x1 x2 x3 x4 FU (0 : Int32) M
def B_X9_isBlocked_37 (M : Mem) : Option Int32 :=
  some (1 : Int32)
def f_X9_isBlocked (x1 : Int32) (x2 : Int32) (x3 : Int32) (M : Mem) : Option Int32 :=
  if inb (f_X9_wait x1 (1 : Int32)) 3602 then
    (f_X9_overlap (M.1 7 1 (cl (f_X9_wait x1 (1 : Int32)))) x2 M).bind fun q3 =>
      if q3 = 0 then
        some (0 : Int32)
      else
        if inb (f_X9_wait x1 (3 : Int32)) 3602 then
          if (M.1 7 1 (cl (f_X9_wait x1 (3 : Int32)))) = (1 : Int32) then
            if x3 = (1 : Int32) then
              some (0 : Int32)
            else
              B_X9_isBlocked_37 M
          else
            B_X9_isBlocked_37 M
        else none
  else none
def B_X9_isBlockedAhead_33 (k6 : Int32 → Int32 → Option Int32) (x1 : Int32) (x2 : Int32) (x3 : Int32) (x5 : Int32) (z0 : Int32) (M : Mem) : Option Int32 :=
  k6 z0 (x5 + 1)
def B_X9_isBlockedAhead_28 (k6 : Int32 → Int32 → Option Int32) (x1 : Int32) (x2 : Int32) (x3 : Int32) (x5 : Int32) (M : Mem) : Option Int32 :=
  B_X9_isBlockedAhead_33 k6 x1 x2 x3 x5 (1 : Int32) M
def L_X9_isBlockedAhead_6 (x1 : Int32) (x2 : Int32) (x3 : Int32) (M : Mem) : Nat → Int32 → Int32 → Option Int32
  | 0, _, _ => none
  | n + 1, x4, x5 =>
    if x1 ≤ x5 then
      if isb x4 then
        some x4
      else none
    else
      if x4 = 0 then
        (f_X9_isBlocked x5 x2 x3 M).bind fun q4 =>
          if q4 = 0 then
            B_X9_isBlockedAhead_33 (L_X9_isBlockedAhead_6 x1 x2 x3 M n) x1 x2 x3 x5 (0 : Int32) M
          else
            B_X9_isBlockedAhead_28 (L_X9_isBlockedAhead_6 x1 x2 x3 M n) x1 x2 x3 x5 M
      else
        B_X9_isBlockedAhead_28 (L_X9_isBlockedAhead_6 x1 x2 x3 M n) x1 x2 x3 x5 M
def f_X9_isBlockedAhead (x1 : Int32) (x2 : Int32) (x3 : Int32) (M : Mem) : Option Int32 :=
  L_X9_isBlockedAhead_6 x1 x2 x3 M FU (0 : Int32) (0 : Int32)
def L_X9_leavesLine_16 : Nat → Int32 → Mem → Option Mem
  | 0, _, _ => none
  | n + 1, x2, M =>
    (f_X9_waits M).bind fun q1 =>
      if ((4 : Int32) * q1) ≤ x2 then
        some M
      else
        if inb (((2663 : Int32) + x2) + (4 : Int32)) 3602 then
          if inb ((2663 : Int32) + x2) 3602 then
            (L_X9_leavesLine_16 n) (x2 + 1) (wr M 7 1 (cl ((2663 : Int32) + x2)) (M.1 7 1 (cl (((2663 : Int32) + x2) + (4 : Int32)))))
          else none
        else none
def f_X9_leavesLine (x1 : Int32) (M : Mem) : Option Mem :=
  L_X9_leavesLine_16 FU ((4 : Int32) * x1) (wr M 7 1 (cl (2662 : Int32)) ((M.1 7 1 (cl (2662 : Int32))) - (1 : Int32)))
def B_X9_serves_100 (k2 : Int32 → Mem → Option Mem) (x1 : Int32) (M : Mem) : Option Mem :=
  k2 x1 M
def B_X9_serves_97 (k2 : Int32 → Mem → Option Mem) (x1 : Int32) (M : Mem) : Option Mem :=
  B_X9_serves_100 k2 (x1 + 1) M
def L_X9_serves_2 : Nat → Int32 → Mem → Option Mem
  | 0, _, _ => none
  | n + 1, x1, M =>
    (f_X9_waits M).bind fun q1 =>
      if q1 ≤ x1 then
        some M
      else
        if inb (f_X9_wait x1 (0 : Int32)) 3602 then
          if inb (f_X9_wait x1 (1 : Int32)) 3602 then
            if inb (f_X9_wait x1 (2 : Int32)) 3602 then
              if inb (f_X9_wait x1 (3 : Int32)) 3602 then
                (f_X9_canGrant (M.1 7 1 (cl (f_X9_wait x1 (0 : Int32)))) (M.1 7 1 (cl (f_X9_wait x1 (1 : Int32)))) (M.1 7 1 (cl (f_X9_wait x1 (3 : Int32)))) M).bind fun q11 =>
                  if q11 = 0 then
                    B_X9_serves_97 (L_X9_serves_2 n) x1 M
                  else
                    (f_X9_isBlockedAhead x1 (M.1 7 1 (cl (f_X9_wait x1 (1 : Int32)))) (M.1 7 1 (cl (f_X9_wait x1 (3 : Int32)))) M).bind fun q13 =>
                      if q13 = 0 then
                        (f_X9_leavesLine x1 M).bind fun q15 =>
                          (f_X9_grants (M.1 7 1 (cl (f_X9_wait x1 (0 : Int32)))) (M.1 7 1 (cl (f_X9_wait x1 (1 : Int32)))) (M.1 7 1 (cl (f_X9_wait x1 (2 : Int32)))) (M.1 7 1 (cl (f_X9_wait x1 (3 : Int32)))) q15).bind fun q16 =>
                            B_X9_serves_100 (L_X9_serves_2 n) x1 q16.2
                      else
                        B_X9_serves_97 (L_X9_serves_2 n) x1 M
              else none
            else none
          else none
        else none
def f_X9_serves (M : Mem) : Option Mem :=
  L_X9_serves_2 FU (0 : Int32) M
def B_X9_loses_20 (z0 : Int32) (z1 : Int32) (M : Mem) : Option Mem :=
  if inb (f_X9_check z1 z0) 3602 then
    some (wr M 7 1 (cl (f_X9_check z1 z0)) (0 : Int32))
  else none
def f_X9_loses (x1 : Int32) (M : Mem) : Option Mem :=
  (f_X9_get x1 (5 : Int32) M).bind fun q1 =>
    if q1 = (1 : Int32) then
      B_X9_loses_20 (0 : Int32) x1 M
    else
      B_X9_loses_20 (4 : Int32) x1 M
def B_X9_tickOn_93 (k58 : Int32 → Mem → Option Mem) (x1 : Int32) (z0 : Int32) (z1 : Int32) (z2 : Int32) (M : Mem) : Option Mem :=
  if inb z2 3602 then
    k58 (x1 + 1) (wr M 7 1 (cl z2) (z1 + z0))
  else none
def L_X9_tickOn_58 : Nat → Int32 → Mem → Option Mem
  | 0, _, _ => none
  | n + 1, x1, M =>
    if (10 : Int32) ≤ x1 then
      some M
    else
      (f_X9_get x1 (1 : Int32) M).bind fun q4 =>
        if inb ((2695 : Int32) + q4) 3602 then
          (f_X9_isHeld x1 M).bind fun q6 =>
            if q6 = 0 then
              B_X9_tickOn_93 (L_X9_tickOn_58 n) x1 (0 : Int32) (M.1 7 1 (cl ((2695 : Int32) + q4))) ((2695 : Int32) + q4) M
            else
              B_X9_tickOn_93 (L_X9_tickOn_58 n) x1 (1 : Int32) (M.1 7 1 (cl ((2695 : Int32) + q4))) ((2695 : Int32) + q4) M
        else none
def B_X9_tickOn_46 (k12 : Int32 → Mem → Option Mem) (x1 : Int32) (M : Mem) : Option Mem :=
  k12 (x1 + 1) M
def L_X9_tickOn_12 : Nat → Int32 → Mem → Option Mem
  | 0, _, _ => none
  | n + 1, x1, M =>
    if (10 : Int32) ≤ x1 then
      (f_X9_serves M).bind fun q2 =>
        L_X9_tickOn_58 FU (0 : Int32) q2
    else
      (f_X9_isHeld x1 M).bind fun q9 =>
        if q9 = 0 then
          B_X9_tickOn_46 (L_X9_tickOn_12 n) x1 M
        else
          (f_X9_get x1 (3 : Int32) M).bind fun q11 =>
            if q11 = (M.1 7 1 (cl (0 : Int32))) then
              (f_X9_loses x1 M).bind fun q13 =>
                B_X9_tickOn_46 (L_X9_tickOn_12 n) x1 q13
            else
              B_X9_tickOn_46 (L_X9_tickOn_12 n) x1 M
def f_X9_tickOn (M : Mem) : Option Mem :=
  L_X9_tickOn_12 FU (0 : Int32) (wr M 7 1 (cl (0 : Int32)) ((M.1 7 1 (cl (0 : Int32))) + (1 : Int32)))
def B_X9_enters_68 (x1 : Int32) (x2 : Int32) (x3 : Int32) (x4 : Int32) (x5 : Int32) (M : Mem) : Option Mem :=
  if inb ((2702 : Int32) + ((6 : Int32) * (M.1 7 1 (cl (2701 : Int32))))) 3602 then
    if inb (((2702 : Int32) + ((6 : Int32) * (M.1 7 1 (cl (2701 : Int32))))) + (1 : Int32)) 3602 then
      if inb (((2702 : Int32) + ((6 : Int32) * (M.1 7 1 (cl (2701 : Int32))))) + (2 : Int32)) 3602 then
        if inb (((2702 : Int32) + ((6 : Int32) * (M.1 7 1 (cl (2701 : Int32))))) + (3 : Int32)) 3602 then
          if inb (((2702 : Int32) + ((6 : Int32) * (M.1 7 1 (cl (2701 : Int32))))) + (4 : Int32)) 3602 then
            if inb (((2702 : Int32) + ((6 : Int32) * (M.1 7 1 (cl (2701 : Int32))))) + (5 : Int32)) 3602 then
              some (wr (wr (wr (wr (wr (wr (wr M 7 1 (cl ((2702 : Int32) + ((6 : Int32) * (M.1 7 1 (cl (2701 : Int32)))))) (M.1 7 1 (cl (0 : Int32)))) 7 1 (cl (((2702 : Int32) + ((6 : Int32) * (M.1 7 1 (cl (2701 : Int32))))) + (1 : Int32))) x1) 7 1 (cl (((2702 : Int32) + ((6 : Int32) * (M.1 7 1 (cl (2701 : Int32))))) + (2 : Int32))) x2) 7 1 (cl (((2702 : Int32) + ((6 : Int32) * (M.1 7 1 (cl (2701 : Int32))))) + (3 : Int32))) x3) 7 1 (cl (((2702 : Int32) + ((6 : Int32) * (M.1 7 1 (cl (2701 : Int32))))) + (4 : Int32))) x4) 7 1 (cl (((2702 : Int32) + ((6 : Int32) * (M.1 7 1 (cl (2701 : Int32))))) + (5 : Int32))) x5) 7 1 (cl (2701 : Int32)) (((wr (wr (wr (wr (wr (wr M 7 1 (cl ((2702 : Int32) + ((6 : Int32) * (M.1 7 1 (cl (2701 : Int32)))))) (M.1 7 1 (cl (0 : Int32)))) 7 1 (cl (((2702 : Int32) + ((6 : Int32) * (M.1 7 1 (cl (2701 : Int32))))) + (1 : Int32))) x1) 7 1 (cl (((2702 : Int32) + ((6 : Int32) * (M.1 7 1 (cl (2701 : Int32))))) + (2 : Int32))) x2) 7 1 (cl (((2702 : Int32) + ((6 : Int32) * (M.1 7 1 (cl (2701 : Int32))))) + (3 : Int32))) x3) 7 1 (cl (((2702 : Int32) + ((6 : Int32) * (M.1 7 1 (cl (2701 : Int32))))) + (4 : Int32))) x4) 7 1 (cl (((2702 : Int32) + ((6 : Int32) * (M.1 7 1 (cl (2701 : Int32))))) + (5 : Int32))) x5).1 7 1 (cl (2701 : Int32))) + (1 : Int32)))
            else none
          else none
        else none
      else none
    else none
  else none
def L_X9_enters_17 (x1 : Int32) (x2 : Int32) (x3 : Int32) (x4 : Int32) (x5 : Int32) : Nat → Int32 → Mem → Option Mem
  | 0, _, _ => none
  | n + 1, x6, M =>
    if (894 : Int32) ≤ x6 then
      B_X9_enters_68 x1 x2 x3 x4 x5 (wr M 7 1 (cl (2701 : Int32)) ((M.1 7 1 (cl (2701 : Int32))) - (1 : Int32)))
    else
      if inb (((2702 : Int32) + x6) + (6 : Int32)) 3602 then
        if inb ((2702 : Int32) + x6) 3602 then
          (L_X9_enters_17 x1 x2 x3 x4 x5 n) (x6 + 1) (wr M 7 1 (cl ((2702 : Int32) + x6)) (M.1 7 1 (cl (((2702 : Int32) + x6) + (6 : Int32)))))
        else none
      else none
def f_X9_enters (x1 : Int32) (x2 : Int32) (x3 : Int32) (x4 : Int32) (x5 : Int32) (M : Mem) : Option Mem :=
  if (M.1 7 1 (cl (2701 : Int32))) = (150 : Int32) then
    L_X9_enters_17 x1 x2 x3 x4 x5 FU (0 : Int32) M
  else
    B_X9_enters_68 x1 x2 x3 x4 x5 M
def L_X9_laysThen_2 : Nat → Int32 → Mem → Option Mem
  | 0, _, _ => none
  | n + 1, x1, M =>
    if (120 : Int32) ≤ x1 then
      some M
    else
      if inb ((82 : Int32) + x1) 3602 then
        if inb x1 120 then
          (L_X9_laysThen_2 n) (x1 + 1) (wr M 7 6 (cl x1) (M.1 7 1 (cl ((82 : Int32) + x1))))
        else none
      else none
def f_X9_laysThen (M : Mem) : Option Mem :=
  L_X9_laysThen_2 FU (0 : Int32) M
def B_X9_becomes_133 (k4 : Int32 → Int32 → Mem → Option (Int32 × Mem)) (x1 : Int32) (x2 : Int32) (x3 : Int32) (z0 : Int32) (z1 : Int32) (z2 : Int32) (M : Mem) : Option (Int32 × Mem) :=
  if inb z2 3602 then
    k4 x2 (x3 + 1) (wr M 7 1 (cl z2) (z1 + z0))
  else none
def B_X9_becomes_106 (k4 : Int32 → Int32 → Mem → Option (Int32 × Mem)) (k16 : Int32 → Int32 → Mem → Option (Int32 × Mem)) (x1 : Int32) (x2 : Int32) (x3 : Int32) (x4 : Int32) (x5 : Int32) (M : Mem) : Option (Int32 × Mem) :=
  k16 x2 (x5 + 1) M
def L_X9_becomes_16 (k4 : Int32 → Int32 → Mem → Option (Int32 × Mem)) (x1 : Int32) (x3 : Int32) (x4 : Int32) : Nat → Int32 → Int32 → Mem → Option (Int32 × Mem)
  | 0, _, _, _ => none
  | n + 1, x2, x5, M =>
    if (6 : Int32) ≤ x5 then
      if inb ((62 : Int32) + x3) 3602 then
        if x2 ≤ x4 then
          B_X9_becomes_133 k4 x1 x2 x3 (0 : Int32) (M.1 7 1 (cl ((62 : Int32) + x3))) ((62 : Int32) + x3) M
        else
          B_X9_becomes_133 k4 x1 x2 x3 (1 : Int32) (M.1 7 1 (cl ((62 : Int32) + x3))) ((62 : Int32) + x3) M
      else none
    else
      if inb (((82 : Int32) + ((6 : Int32) * x3)) + x5) 3602 then
        if inb (((6 : Int32) * x3) + x5) 120 then
          if (M.1 7 1 (cl (((82 : Int32) + ((6 : Int32) * x3)) + x5))) = (M.1 7 6 (cl (((6 : Int32) * x3) + x5))) then
            B_X9_becomes_106 k4 (L_X9_becomes_16 k4 x1 x3 x4 n) x1 x2 x3 x4 x5 M
          else
            if inb (((82 : Int32) + ((6 : Int32) * x3)) + x5) 3602 then
              if inb (((6 : Int32) * x3) + x5) 120 then
                (f_X9_enters x3 x5 (M.1 7 1 (cl (((82 : Int32) + ((6 : Int32) * x3)) + x5))) (M.1 7 6 (cl (((6 : Int32) * x3) + x5))) x1 M).bind fun q11 =>
                  if inb (((6 : Int32) * x3) + x5) 120 then
                    if inb (((82 : Int32) + ((6 : Int32) * x3)) + x5) 3602 then
                      B_X9_becomes_106 k4 (L_X9_becomes_16 k4 x1 x3 x4 n) x1 (x2 + 1) x3 x4 x5 (wr q11 7 1 (cl (((82 : Int32) + ((6 : Int32) * x3)) + x5)) (q11.1 7 6 (cl (((6 : Int32) * x3) + x5))))
                    else none
                  else none
              else none
            else none
        else none
      else none
def L_X9_becomes_4 (x1 : Int32) : Nat → Int32 → Int32 → Mem → Option (Int32 × Mem)
  | 0, _, _, _ => none
  | n + 1, x2, x3, M =>
    if (20 : Int32) ≤ x3 then
      some (x2, M)
    else
      L_X9_becomes_16 (L_X9_becomes_4 x1 n) x1 x3 x2 FU x2 (0 : Int32) M
def f_X9_becomes (x1 : Int32) (M : Mem) : Option (Int32 × Mem) :=
  L_X9_becomes_4 x1 FU (0 : Int32) (0 : Int32) M
def B_X9_was_74 (k3 : Int32 → Option Int32) (x1 : Int32) (x2 : Int32) (x3 : Int32) (x4 : Int32) (M : Mem) : Option Int32 :=
  k3 (x4 + 1)
def L_X9_was_3 (x1 : Int32) (x2 : Int32) (x3 : Int32) (M : Mem) : Nat → Int32 → Option Int32
  | 0, _ => none
  | n + 1, x4 =>
    if (M.1 7 1 (cl (2701 : Int32))) ≤ x4 then
      if inb (((82 : Int32) + ((6 : Int32) * x1)) + x2) 3602 then
        some (M.1 7 1 (cl (((82 : Int32) + ((6 : Int32) * x1)) + x2)))
      else none
    else
      if inb ((2702 : Int32) + ((6 : Int32) * x4)) 3602 then
        if (M.1 7 1 (cl ((2702 : Int32) + ((6 : Int32) * x4)))) ≤ x3 then
          B_X9_was_74 (L_X9_was_3 x1 x2 x3 M n) x1 x2 x3 x4 M
        else
          if inb (((2702 : Int32) + ((6 : Int32) * x4)) + (1 : Int32)) 3602 then
            if (M.1 7 1 (cl (((2702 : Int32) + ((6 : Int32) * x4)) + (1 : Int32)))) = x1 then
              if inb (((2702 : Int32) + ((6 : Int32) * x4)) + (2 : Int32)) 3602 then
                if (M.1 7 1 (cl (((2702 : Int32) + ((6 : Int32) * x4)) + (2 : Int32)))) = x2 then
                  if inb (((2702 : Int32) + ((6 : Int32) * x4)) + (3 : Int32)) 3602 then
                    some (M.1 7 1 (cl (((2702 : Int32) + ((6 : Int32) * x4)) + (3 : Int32))))
                  else none
                else
                  B_X9_was_74 (L_X9_was_3 x1 x2 x3 M n) x1 x2 x3 x4 M
              else none
            else
              B_X9_was_74 (L_X9_was_3 x1 x2 x3 M n) x1 x2 x3 x4 M
          else none
      else none
def f_X9_was (x1 : Int32) (x2 : Int32) (x3 : Int32) (M : Mem) : Option Int32 :=
  L_X9_was_3 x1 x2 x3 M FU (0 : Int32)
def L_X9_addSection_123 (x2 : Int32) : Nat → Int32 → Mem → Option (Int32 × Mem)
  | 0, _, _ => none
  | n + 1, x3, M =>
    if (6 : Int32) ≤ x3 then
      some (x2, M)
    else
      if inb (((82 : Int32) + ((6 : Int32) * x2)) + x3) 3602 then
        (L_X9_addSection_123 x2 n) (x3 + 1) (wr M 7 1 (cl (((82 : Int32) + ((6 : Int32) * x2)) + x3)) (0 : Int32))
      else none
def L_X9_addSection_49 (x1 : Int32) (M : Mem) : Nat → Int32 → Option (Int32 × Mem)
  | 0, _ => none
  | n + 1, x2 =>
    if inb ((2 : Int32) + x2) 3602 then
      if (M.1 7 1 (cl ((2 : Int32) + x2))) = (1 : Int32) then
        (L_X9_addSection_49 x1 M n) (x2 + 1)
      else
        if inb ((2 : Int32) + x2) 3602 then
          if inb ((22 : Int32) + x2) 3602 then
            if inb ((42 : Int32) + x2) 3602 then
              if inb ((62 : Int32) + x2) 3602 then
                L_X9_addSection_123 x2 FU (0 : Int32) (wr (wr (wr (wr (wr M 7 1 (cl ((2 : Int32) + x2)) (1 : Int32)) 7 1 (cl ((22 : Int32) + x2)) x1) 7 1 (cl ((42 : Int32) + x2)) ((wr (wr M 7 1 (cl ((2 : Int32) + x2)) (1 : Int32)) 7 1 (cl ((22 : Int32) + x2)) x1).1 7 1 (cl (1 : Int32)))) 7 1 (cl (1 : Int32)) (((wr (wr (wr M 7 1 (cl ((2 : Int32) + x2)) (1 : Int32)) 7 1 (cl ((22 : Int32) + x2)) x1) 7 1 (cl ((42 : Int32) + x2)) ((wr (wr M 7 1 (cl ((2 : Int32) + x2)) (1 : Int32)) 7 1 (cl ((22 : Int32) + x2)) x1).1 7 1 (cl (1 : Int32)))).1 7 1 (cl (1 : Int32))) + (1 : Int32))) 7 1 (cl ((62 : Int32) + x2)) (0 : Int32))
              else none
            else none
          else none
        else none
    else none
def B_X9_addSection_35 (x1 : Int32) (z0 : Int32) (M : Mem) : Option (Int32 × Mem) :=
  (f_X9_refused z0 M).bind fun q5 =>
    if q5.1 = 0 then
      (f_X9_saves q5.2).bind fun q7 =>
        L_X9_addSection_49 x1 q7 FU (0 : Int32)
    else
      some ((0 : Int32), q5.2)
def B_X9_addSection_30 (x1 : Int32) (M : Mem) : Option (Int32 × Mem) :=
  B_X9_addSection_35 x1 (2 : Int32) M
def f_X9_addSection (x1 : Int32) (M : Mem) : Option (Int32 × Mem) :=
  (f_X9_isSection x1 M).bind fun q1 =>
    if q1 = 0 then
      B_X9_addSection_35 x1 (1 : Int32) M
    else
      (f_X9_many M).bind fun q3 =>
        if q3 = (20 : Int32) then
          B_X9_addSection_30 x1 M
        else
          (f_X9_isCovered x1 M).bind fun q16 =>
            if q16 = 0 then
              B_X9_addSection_35 x1 (0 : Int32) M
            else
              B_X9_addSection_30 x1 M
def B_X9_removeSection_246 (k208 : Int32 → Mem → Option (Int32 × Mem)) (x2 : Int32) (x4 : Int32) (z0 : Int32) (z1 : Int32) (M : Mem) : Option (Int32 × Mem) :=
  if inb z1 3602 then
    k208 (x4 + 1) (wr M 7 1 (cl z1) z0)
  else none
def L_X9_removeSection_208 (x2 : Int32) : Nat → Int32 → Mem → Option (Int32 × Mem)
  | 0, _, _ => none
  | n + 1, x4, M =>
    if (20 : Int32) ≤ x4 then
      some (x2, M)
    else
      if inb x4 20 then
        if (M.1 7 7 (cl x4)) = 0 then
          if inb ((2 : Int32) + x4) 3602 then
            B_X9_removeSection_246 (L_X9_removeSection_208 x2 n) x2 x4 (M.1 7 1 (cl ((2 : Int32) + x4))) ((2 : Int32) + x4) M
          else none
        else
          B_X9_removeSection_246 (L_X9_removeSection_208 x2 n) x2 x4 (0 : Int32) ((2 : Int32) + x4) M
      else none
def B_X9_removeSection_190 (k101 : Int32 → Int32 → Mem → Option (Int32 × Mem)) (x2 : Int32) (x3 : Int32) (x4 : Int32) (M : Mem) : Option (Int32 × Mem) :=
  k101 x3 (x4 + 1) M
def L_X9_removeSection_141 (k101 : Int32 → Int32 → Mem → Option (Int32 × Mem)) (x2 : Int32) (x3 : Int32) (x4 : Int32) : Nat → Int32 → Mem → Option (Int32 × Mem)
  | 0, _, _ => none
  | n + 1, x5, M =>
    if (6 : Int32) ≤ x5 then
      B_X9_removeSection_190 k101 x2 (x3 + 1) x4 M
    else
      if inb (((2702 : Int32) + ((6 : Int32) * x4)) + x5) 3602 then
        if inb (((2702 : Int32) + ((6 : Int32) * x3)) + x5) 3602 then
          (L_X9_removeSection_141 k101 x2 x3 x4 n) (x5 + 1) (wr M 7 1 (cl (((2702 : Int32) + ((6 : Int32) * x3)) + x5)) (M.1 7 1 (cl (((2702 : Int32) + ((6 : Int32) * x4)) + x5))))
        else none
      else none
def L_X9_removeSection_101 (x2 : Int32) : Nat → Int32 → Int32 → Mem → Option (Int32 × Mem)
  | 0, _, _, _ => none
  | n + 1, x3, x4, M =>
    if (M.1 7 1 (cl (2701 : Int32))) ≤ x4 then
      L_X9_removeSection_208 x2 FU (0 : Int32) (wr M 7 1 (cl (2701 : Int32)) x3)
    else
      if inb (((2702 : Int32) + ((6 : Int32) * x4)) + (1 : Int32)) 3602 then
        if inb (M.1 7 1 (cl (((2702 : Int32) + ((6 : Int32) * x4)) + (1 : Int32)))) 20 then
          if (M.1 7 7 (cl (M.1 7 1 (cl (((2702 : Int32) + ((6 : Int32) * x4)) + (1 : Int32)))))) = 0 then
            L_X9_removeSection_141 (L_X9_removeSection_101 x2 n) x2 x3 x4 FU (0 : Int32) M
          else
            B_X9_removeSection_190 (L_X9_removeSection_101 x2 n) x2 x3 x4 M
        else none
      else none
def B_X9_removeSection_89 (k56 : Int32 → Mem → Option (Int32 × Mem)) (x1 : Int32) (x2 : Int32) (x3 : Int32) (z0 : Int32) (z1 : Int32) (M : Mem) : Option (Int32 × Mem) :=
  if inb z1 20 then
    k56 (x3 + 1) (wr M 7 7 (cl z1) (zb z0))
  else none
def B_X9_removeSection_88 (k56 : Int32 → Mem → Option (Int32 × Mem)) (x1 : Int32) (x2 : Int32) (x3 : Int32) (z0 : Int32) (M : Mem) : Option (Int32 × Mem) :=
  B_X9_removeSection_89 k56 x1 x2 x3 (0 : Int32) z0 M
def L_X9_removeSection_56 (x1 : Int32) (x2 : Int32) : Nat → Int32 → Mem → Option (Int32 × Mem)
  | 0, _, _ => none
  | n + 1, x3, M =>
    if (20 : Int32) ≤ x3 then
      L_X9_removeSection_101 x2 FU (0 : Int32) (0 : Int32) M
    else
      (f_X9_isSection x3 M).bind fun q23 =>
        if q23 = 0 then
          B_X9_removeSection_88 (L_X9_removeSection_56 x1 x2 n) x1 x2 x3 x3 M
        else
          (f_X9_isIn x3 x1 M).bind fun q26 =>
            if q26 = 0 then
              B_X9_removeSection_88 (L_X9_removeSection_56 x1 x2 n) x1 x2 x3 x3 M
            else
              B_X9_removeSection_89 (L_X9_removeSection_56 x1 x2 n) x1 x2 x3 (1 : Int32) x3 M
def B_X9_removeSection_34 (x1 : Int32) (z0 : Int32) (M : Mem) : Option (Int32 × Mem) :=
  (f_X9_refused z0 M).bind fun q6 =>
    if q6.1 = 0 then
      (f_X9_saves q6.2).bind fun q8 =>
        (f_X9_below x1 q8).bind fun q9 =>
          L_X9_removeSection_56 x1 ((1 : Int32) + q9) FU (0 : Int32) q8
    else
      some ((0 : Int32), q6.2)
def f_X9_removeSection (x1 : Int32) (M : Mem) : Option (Int32 × Mem) :=
  (f_X9_isSection x1 M).bind fun q1 =>
    if q1 = 0 then
      B_X9_removeSection_34 x1 (1 : Int32) M
    else
      if x1 = 0 then
        B_X9_removeSection_34 x1 (2 : Int32) M
      else
        (f_X9_isTouched x1 M).bind fun q4 =>
          if q4 = 0 then
            B_X9_removeSection_34 x1 (0 : Int32) M
          else
            B_X9_removeSection_34 x1 (3 : Int32) M
def B_X9_moveSection_59 (x1 : Int32) (x2 : Int32) (z0 : Int32) (M : Mem) : Option (Int32 × Mem) :=
  (f_X9_refused z0 M).bind fun q3 =>
    if q3.1 = 0 then
      (f_X9_saves q3.2).bind fun q5 =>
        if inb ((22 : Int32) + x1) 3602 then
          if inb ((42 : Int32) + x1) 3602 then
            (f_X9_depth x1 (wr (wr (wr q5 7 1 (cl ((22 : Int32) + x1)) x2) 7 1 (cl ((42 : Int32) + x1)) ((wr q5 7 1 (cl ((22 : Int32) + x1)) x2).1 7 1 (cl (1 : Int32)))) 7 1 (cl (1 : Int32)) (((wr (wr q5 7 1 (cl ((22 : Int32) + x1)) x2) 7 1 (cl ((42 : Int32) + x1)) ((wr q5 7 1 (cl ((22 : Int32) + x1)) x2).1 7 1 (cl (1 : Int32)))).1 7 1 (cl (1 : Int32))) + (1 : Int32)))).bind fun q8 =>
              some (q8, (wr (wr (wr q5 7 1 (cl ((22 : Int32) + x1)) x2) 7 1 (cl ((42 : Int32) + x1)) ((wr q5 7 1 (cl ((22 : Int32) + x1)) x2).1 7 1 (cl (1 : Int32)))) 7 1 (cl (1 : Int32)) (((wr (wr q5 7 1 (cl ((22 : Int32) + x1)) x2) 7 1 (cl ((42 : Int32) + x1)) ((wr q5 7 1 (cl ((22 : Int32) + x1)) x2).1 7 1 (cl (1 : Int32)))).1 7 1 (cl (1 : Int32))) + (1 : Int32))))
          else none
        else none
    else
      some ((0 : Int32), q3.2)
def B_X9_moveSection_17 (x1 : Int32) (x2 : Int32) (M : Mem) : Option (Int32 × Mem) :=
  B_X9_moveSection_59 x1 x2 (1 : Int32) M
def B_X9_moveSection_34 (x1 : Int32) (x2 : Int32) (M : Mem) : Option (Int32 × Mem) :=
  B_X9_moveSection_59 x1 x2 (2 : Int32) M
def B_X9_moveSection_54 (x1 : Int32) (x2 : Int32) (M : Mem) : Option (Int32 × Mem) :=
  B_X9_moveSection_59 x1 x2 (3 : Int32) M
def f_X9_moveSection (x1 : Int32) (x2 : Int32) (M : Mem) : Option (Int32 × Mem) :=
  (f_X9_isSection x1 M).bind fun q1 =>
    if q1 = 0 then
      B_X9_moveSection_17 x1 x2 M
    else
      (f_X9_isSection x2 M).bind fun q9 =>
        if q9 = 0 then
          B_X9_moveSection_17 x1 x2 M
        else
          if x1 = 0 then
            B_X9_moveSection_34 x1 x2 M
          else
            (f_X9_isIn x2 x1 M).bind fun q12 =>
              if q12 = 0 then
                (f_X9_isTouched x1 M).bind fun q14 =>
                  if q14 = 0 then
                    (f_X9_isCovered x2 M).bind fun q16 =>
                      if q16 = 0 then
                        B_X9_moveSection_59 x1 x2 (0 : Int32) M
                      else
                        B_X9_moveSection_54 x1 x2 M
                  else
                    B_X9_moveSection_54 x1 x2 M
              else
                B_X9_moveSection_34 x1 x2 M
def f_X9_sections (M : Mem) : Option (Int32 × Mem) :=
  (f_X9_many (wr M 7 0 4 (0 : Int32))).bind fun q1 =>
    some (q1, (wr M 7 0 4 (0 : Int32)))
def f_X9_tellSection (x1 : Int32) (x2 : Int32) (M : Mem) : Option Int32 :=
  if x2 = (0 : Int32) then
    if inb ((22 : Int32) + x1) 3602 then
      some (M.1 7 1 (cl ((22 : Int32) + x1)))
    else none
  else
  if x2 = (1 : Int32) then
    (f_X9_childMany x1 M).bind fun q4 =>
      some q4
  else
  if x2 = (2 : Int32) then
    (f_X9_depth x1 M).bind fun q6 =>
      some q6
  else
  if x2 = (3 : Int32) then
    if inb ((62 : Int32) + x1) 3602 then
      some (M.1 7 1 (cl ((62 : Int32) + x1)))
    else none
  else
  (f_X9_below x1 M).bind fun q9 =>
    some q9
def B_X9_section_27 (x1 : Int32) (x2 : Int32) (z0 : Int32) (M : Mem) : Option (Int32 × Mem) :=
  (f_X9_refused z0 M).bind fun q5 =>
    if q5.1 = 0 then
      (f_X9_tellSection x1 x2 q5.2).bind fun q7 =>
        some (q7, q5.2)
    else
      some ((0 : Int32), q5.2)
def f_X9_section (x1 : Int32) (x2 : Int32) (M : Mem) : Option (Int32 × Mem) :=
  (f_X9_isSection x1 M).bind fun q1 =>
    if q1 = 0 then
      B_X9_section_27 x1 x2 (1 : Int32) M
    else
      if (f_X9_within x2 (0 : Int32) (4 : Int32)) = 0 then
        B_X9_section_27 x1 x2 (2 : Int32) M
      else
        B_X9_section_27 x1 x2 (0 : Int32) M
def B_X9_child_29 (x1 : Int32) (x2 : Int32) (z0 : Int32) (M : Mem) : Option (Int32 × Mem) :=
  (f_X9_refused z0 M).bind fun q3 =>
    if q3.1 = 0 then
      (f_X9_childAt x1 x2 q3.2).bind fun q5 =>
        some (q5, q3.2)
    else
      some ((0 : Int32), q3.2)
def B_X9_child_28 (x1 : Int32) (x2 : Int32) (M : Mem) : Option (Int32 × Mem) :=
  B_X9_child_29 x1 x2 (1 : Int32) M
def f_X9_child (x1 : Int32) (x2 : Int32) (M : Mem) : Option (Int32 × Mem) :=
  (f_X9_isSection x1 M).bind fun q1 =>
    if q1 = 0 then
      B_X9_child_28 x1 x2 M
    else
      (f_X9_childMany x1 M).bind fun q6 =>
        if (f_X9_within x2 (0 : Int32) (q6 - (1 : Int32))) = 0 then
          B_X9_child_28 x1 x2 M
        else
          B_X9_child_29 x1 x2 (0 : Int32) M
def f_X9_isLine (x1 : Int32) (x2 : Int32) (M : Mem) : Option Int32 :=
  (f_X9_isSection x1 M).bind fun q1 =>
    if q1 = 0 then
      some (0 : Int32)
    else
      if (f_X9_within x2 (0 : Int32) (5 : Int32)) = 0 then
        some (0 : Int32)
      else
        some (1 : Int32)
def B_X9_line_15 (x1 : Int32) (x2 : Int32) (z0 : Int32) (M : Mem) : Option (Int32 × Mem) :=
  (f_X9_refused z0 M).bind fun q3 =>
    if q3.1 = 0 then
      if inb (((82 : Int32) + ((6 : Int32) * x1)) + x2) 3602 then
        some ((q3.2.1 7 1 (cl (((82 : Int32) + ((6 : Int32) * x1)) + x2))), q3.2)
      else none
    else
      some ((0 : Int32), q3.2)
def f_X9_line (x1 : Int32) (x2 : Int32) (M : Mem) : Option (Int32 × Mem) :=
  (f_X9_isLine x1 x2 M).bind fun q1 =>
    if q1 = 0 then
      B_X9_line_15 x1 x2 (1 : Int32) M
    else
      B_X9_line_15 x1 x2 (0 : Int32) M
def B_X9_write_42 (x1 : Int32) (x2 : Int32) (x3 : Int32) (z0 : Int32) (M : Mem) : Option (Int32 × Mem) :=
  (f_X9_refused z0 M).bind fun q7 =>
    if q7.1 = 0 then
      (f_X9_saves q7.2).bind fun q9 =>
        if inb (((82 : Int32) + ((6 : Int32) * x1)) + x2) 3602 then
          (f_X9_laysThen q9).bind fun q11 =>
            if inb (((6 : Int32) * x1) + x2) 120 then
              (f_X9_becomes ((-1) : Int32) (wr q11 7 6 (cl (((6 : Int32) * x1) + x2)) x3)).bind fun q13 =>
                some ((q9.1 7 1 (cl (((82 : Int32) + ((6 : Int32) * x1)) + x2))), q13.2)
            else none
        else none
    else
      some ((0 : Int32), q7.2)
def f_X9_write (x1 : Int32) (x2 : Int32) (x3 : Int32) (M : Mem) : Option (Int32 × Mem) :=
  (f_X9_isLine x1 x2 M).bind fun q1 =>
    if q1 = 0 then
      B_X9_write_42 x1 x2 x3 (1 : Int32) M
    else
      if (f_X9_within x3 (0 : Int32) (999 : Int32)) = 0 then
        B_X9_write_42 x1 x2 x3 (2 : Int32) M
      else
        (f_X9_holdersOf x1 M).bind fun q5 =>
          if q5 = 0 then
            B_X9_write_42 x1 x2 x3 (0 : Int32) M
          else
            B_X9_write_42 x1 x2 x3 (3 : Int32) M
def f_X9_isUser (x0 : Int32) : Int32 :=
  (f_X9_within x0 (0 : Int32) (5 : Int32))
def B_X9_placeOf_31 (k4 : Int32 → Int32 → Option Int32) (x1 : Int32) (x3 : Int32) (z0 : Int32) (M : Mem) : Option Int32 :=
  k4 z0 (x3 + 1)
def L_X9_placeOf_4 (x1 : Int32) (M : Mem) : Nat → Int32 → Int32 → Option Int32
  | 0, _, _ => none
  | n + 1, x2, x3 =>
    (f_X9_waits M).bind fun q1 =>
      if q1 ≤ x3 then
        some x2
      else
        if inb (f_X9_wait x3 (0 : Int32)) 3602 then
          if (M.1 7 1 (cl (f_X9_wait x3 (0 : Int32)))) = x1 then
            B_X9_placeOf_31 (L_X9_placeOf_4 x1 M n) x1 x3 x3 M
          else
            B_X9_placeOf_31 (L_X9_placeOf_4 x1 M n) x1 x3 x2 M
        else none
def f_X9_placeOf (x1 : Int32) (M : Mem) : Option Int32 :=
  L_X9_placeOf_4 x1 M FU ((-1) : Int32) (0 : Int32)
def B_X9_barRequest_143 (k58 : Int32 → Int32 → Option Int32) (x1 : Int32) (x2 : Int32) (x4 : Int32) (x6 : Int32) (z0 : Int32) (M : Mem) : Option Int32 :=
  k58 z0 (x6 + 1)
def B_X9_barRequest_138 (k58 : Int32 → Int32 → Option Int32) (x1 : Int32) (x2 : Int32) (x4 : Int32) (x6 : Int32) (M : Mem) : Option Int32 :=
  B_X9_barRequest_143 k58 x1 x2 x4 x6 (1 : Int32) M
def B_X9_barRequest_142 (k58 : Int32 → Int32 → Option Int32) (x1 : Int32) (x2 : Int32) (x4 : Int32) (x6 : Int32) (M : Mem) : Option Int32 :=
  B_X9_barRequest_143 k58 x1 x2 x4 x6 (0 : Int32) M
def B_X9_barRequest_90 (k58 : Int32 → Int32 → Option Int32) (x1 : Int32) (x2 : Int32) (x4 : Int32) (x5 : Int32) (x6 : Int32) (z0 : Int32) (M : Mem) : Option Int32 :=
  if x5 = 0 then
    if z0 = 0 then
      B_X9_barRequest_142 k58 x1 x2 x4 x6 M
    else
      (f_X9_get x6 (2 : Int32) M).bind fun q15 =>
        (f_X9_isIn x2 q15 M).bind fun q16 =>
          if q16 = 0 then
            if x4 = (1 : Int32) then
              (f_X9_get x6 (2 : Int32) M).bind fun q19 =>
                (f_X9_overlap x2 q19 M).bind fun q20 =>
                  if q20 = 0 then
                    B_X9_barRequest_142 k58 x1 x2 x4 x6 M
                  else
                    B_X9_barRequest_138 k58 x1 x2 x4 x6 M
            else
              B_X9_barRequest_142 k58 x1 x2 x4 x6 M
          else
            B_X9_barRequest_138 k58 x1 x2 x4 x6 M
  else
    B_X9_barRequest_138 k58 x1 x2 x4 x6 M
def B_X9_barRequest_89 (k58 : Int32 → Int32 → Option Int32) (x1 : Int32) (x2 : Int32) (x4 : Int32) (x5 : Int32) (x6 : Int32) (M : Mem) : Option Int32 :=
  B_X9_barRequest_90 k58 x1 x2 x4 x5 x6 (0 : Int32) M
def L_X9_barRequest_58 (x1 : Int32) (x2 : Int32) (x4 : Int32) (M : Mem) : Nat → Int32 → Int32 → Option Int32
  | 0, _, _ => none
  | n + 1, x5, x6 =>
    if (10 : Int32) ≤ x6 then
      if x5 = 0 then
        some (0 : Int32)
      else
        some (3 : Int32)
    else
      (f_X9_isHeld x6 M).bind fun q11 =>
        if q11 = 0 then
          B_X9_barRequest_89 (L_X9_barRequest_58 x1 x2 x4 M n) x1 x2 x4 x5 x6 M
        else
          (f_X9_get x6 (1 : Int32) M).bind fun q22 =>
            if q22 = x1 then
              B_X9_barRequest_90 (L_X9_barRequest_58 x1 x2 x4 M n) x1 x2 x4 x5 x6 (1 : Int32) M
            else
              B_X9_barRequest_89 (L_X9_barRequest_58 x1 x2 x4 M n) x1 x2 x4 x5 x6 M
def B_X9_barRequest_53 (x1 : Int32) (x2 : Int32) (x4 : Int32) (z0 : Int32) (M : Mem) : Option Int32 :=
  L_X9_barRequest_58 x1 x2 x4 M FU z0 (0 : Int32)
def B_X9_barRequest_48 (x1 : Int32) (x2 : Int32) (x4 : Int32) (M : Mem) : Option Int32 :=
  B_X9_barRequest_53 x1 x2 x4 (1 : Int32) M
def f_X9_barRequest (x1 : Int32) (x2 : Int32) (x3 : Int32) (x4 : Int32) (M : Mem) : Option Int32 :=
  if (f_X9_isUser x1) = 0 then
    some (1 : Int32)
  else
    (f_X9_isSection x2 M).bind fun q3 =>
      if q3 = 0 then
        some (1 : Int32)
      else
        if (f_X9_within x3 (1 : Int32) (1000 : Int32)) = 0 then
          some (2 : Int32)
        else
          (f_X9_placeOf x1 M).bind fun q7 =>
            if q7 = ((-1) : Int32) then
              (f_X9_waits M).bind fun q24 =>
                if q24 = (8 : Int32) then
                  B_X9_barRequest_48 x1 x2 x4 M
                else
                  B_X9_barRequest_53 x1 x2 x4 (0 : Int32) M
            else
              B_X9_barRequest_48 x1 x2 x4 M
def B_X9_requests_35 (x1 : Int32) (x2 : Int32) (x3 : Int32) (x4 : Int32) (M : Mem) : Option (Int32 × Mem) :=
  (f_X9_waits M).bind fun q3 =>
    if inb (f_X9_wait q3 (0 : Int32)) 3602 then
      if inb (f_X9_wait q3 (1 : Int32)) 3602 then
        if inb (f_X9_wait q3 (2 : Int32)) 3602 then
          if inb (f_X9_wait q3 (3 : Int32)) 3602 then
            some (((-1) : Int32), (wr (wr (wr (wr (wr M 7 1 (cl (f_X9_wait q3 (0 : Int32))) x1) 7 1 (cl (f_X9_wait q3 (1 : Int32))) x2) 7 1 (cl (f_X9_wait q3 (2 : Int32))) x3) 7 1 (cl (f_X9_wait q3 (3 : Int32))) x4) 7 1 (cl (2662 : Int32)) (((wr (wr (wr (wr M 7 1 (cl (f_X9_wait q3 (0 : Int32))) x1) 7 1 (cl (f_X9_wait q3 (1 : Int32))) x2) 7 1 (cl (f_X9_wait q3 (2 : Int32))) x3) 7 1 (cl (f_X9_wait q3 (3 : Int32))) x4).1 7 1 (cl (2662 : Int32))) + (1 : Int32))))
          else none
        else none
      else none
    else none
def f_X9_requests (x1 : Int32) (x2 : Int32) (x3 : Int32) (x4 : Int32) (M : Mem) : Option (Int32 × Mem) :=
  (f_X9_canGrant x1 x2 x4 M).bind fun q1 =>
    if q1 = 0 then
      B_X9_requests_35 x1 x2 x3 x4 M
    else
      (f_X9_waits M).bind fun q12 =>
        (f_X9_isBlockedAhead q12 x2 x4 M).bind fun q13 =>
          if q13 = 0 then
            (f_X9_grants x1 x2 x3 x4 M).bind fun q15 =>
              some (q15.1, q15.2)
          else
            B_X9_requests_35 x1 x2 x3 x4 M
def B_X9_request_10 (x1 : Int32) (x2 : Int32) (x3 : Int32) (z0 : Int32) (M : Mem) : Option (Int32 × Mem) :=
  (f_X9_barRequest x1 x2 x3 z0 M).bind fun q2 =>
    (f_X9_refused q2 M).bind fun q3 =>
      if q3.1 = 0 then
        (f_X9_saves q3.2).bind fun q5 =>
          (f_X9_requests x1 x2 x3 z0 q5).bind fun q6 =>
            some (q6.1, q6.2)
      else
        some ((0 : Int32), q3.2)
def f_X9_request (x1 : Int32) (x2 : Int32) (x3 : Int32) (x4 : Int32) (M : Mem) : Option (Int32 × Mem) :=
  if x4 = 0 then
    B_X9_request_10 x1 x2 x3 (0 : Int32) M
  else
    B_X9_request_10 x1 x2 x3 (1 : Int32) M
def B_X9_cancel_26 (x1 : Int32) (z0 : Int32) (M : Mem) : Option (Int32 × Mem) :=
  (f_X9_refused z0 M).bind fun q5 =>
    if q5.1 = 0 then
      (f_X9_saves q5.2).bind fun q7 =>
        (f_X9_placeOf x1 q7).bind fun q8 =>
          (f_X9_leavesLine q8 q7).bind fun q9 =>
            (f_X9_serves q9).bind fun q10 =>
              (f_X9_waits q10).bind fun q11 =>
                some (q11, q10)
    else
      some ((0 : Int32), q5.2)
def f_X9_cancel (x1 : Int32) (M : Mem) : Option (Int32 × Mem) :=
  if (f_X9_isUser x1) = 0 then
    B_X9_cancel_26 x1 (1 : Int32) M
  else
    (f_X9_placeOf x1 M).bind fun q3 =>
      if q3 = ((-1) : Int32) then
        B_X9_cancel_26 x1 (2 : Int32) M
      else
        B_X9_cancel_26 x1 (0 : Int32) M
def B_X9_renew_54 (x1 : Int32) (x2 : Int32) (z0 : Int32) (M : Mem) : Option (Int32 × Mem) :=
  (f_X9_refused z0 M).bind fun q7 =>
    if q7.1 = 0 then
      (f_X9_saves q7.2).bind fun q9 =>
        if inb (f_X9_check x1 (3 : Int32)) 3602 then
          (f_X9_get x1 (3 : Int32) (wr q9 7 1 (cl (f_X9_check x1 (3 : Int32))) ((q9.1 7 1 (cl (0 : Int32))) + x2))).bind fun q12 =>
            some (q12, (wr q9 7 1 (cl (f_X9_check x1 (3 : Int32))) ((q9.1 7 1 (cl (0 : Int32))) + x2)))
        else none
    else
      some ((0 : Int32), q7.2)
def B_X9_renew_49 (x1 : Int32) (x2 : Int32) (M : Mem) : Option (Int32 × Mem) :=
  B_X9_renew_54 x1 x2 (3 : Int32) M
def f_X9_renew (x1 : Int32) (x2 : Int32) (M : Mem) : Option (Int32 × Mem) :=
  (f_X9_isCheck x1 M).bind fun q1 =>
    if q1 = 0 then
      B_X9_renew_54 x1 x2 (1 : Int32) M
    else
      if (f_X9_within x2 (1 : Int32) (1000 : Int32)) = 0 then
        B_X9_renew_54 x1 x2 (2 : Int32) M
      else
        (f_X9_isHeld x1 M).bind fun q5 =>
          if q5 = 0 then
            B_X9_renew_49 x1 x2 M
          else
            (f_X9_get x1 (2 : Int32) M).bind fun q13 =>
              (f_X9_isWaitedFor q13 M).bind fun q14 =>
                if q14 = 0 then
                  B_X9_renew_54 x1 x2 (0 : Int32) M
                else
                  B_X9_renew_49 x1 x2 M
def f_X9_barBreak (x1 : Int32) (M : Mem) : Option Int32 :=
  (f_X9_isCheck x1 M).bind fun q1 =>
    if q1 = 0 then
      some (1 : Int32)
    else
      (f_X9_isHeld x1 M).bind fun q3 =>
        if q3 = 0 then
          some (2 : Int32)
        else
          some (0 : Int32)
def f_X9_breaks (x1 : Int32) (M : Mem) : Option (Int32 × Mem) :=
  (f_X9_loses x1 M).bind fun q1 =>
    (f_X9_serves q1).bind fun q2 =>
      (f_X9_get x1 (1 : Int32) q2).bind fun q3 =>
        some (q3, q2)
def f_X9_breakUp (x1 : Int32) (M : Mem) : Option (Int32 × Mem) :=
  (f_X9_barBreak x1 M).bind fun q1 =>
    (f_X9_refused q1 M).bind fun q2 =>
      if q2.1 = 0 then
        (f_X9_saves q2.2).bind fun q4 =>
          (f_X9_get x1 (1 : Int32) q4).bind fun q5 =>
            (f_X9_breaks x1 q4).bind fun q6 =>
              some (q5, q6.2)
      else
        some ((0 : Int32), q2.2)
def B_X9_edited_85 (k4 : Int32 → Int32 → Option Int32) (x1 : Int32) (x2 : Int32) (x3 : Int32) (M : Mem) : Option Int32 :=
  k4 x2 (x3 + 1)
def B_X9_edited_77 (k4 : Int32 → Int32 → Option Int32) (k13 : Int32 → Int32 → Option Int32) (x1 : Int32) (x3 : Int32) (x4 : Int32) (z0 : Int32) (z1 : Int32) (M : Mem) : Option Int32 :=
  k13 (z1 + z0) (x4 + 1)
def L_X9_edited_13 (k4 : Int32 → Int32 → Option Int32) (x1 : Int32) (x3 : Int32) (M : Mem) : Nat → Int32 → Int32 → Option Int32
  | 0, _, _ => none
  | n + 1, x2, x4 =>
    if (6 : Int32) ≤ x4 then
      B_X9_edited_85 k4 x1 x2 x3 M
    else
      (f_X9_isSection x3 M).bind fun q3 =>
        if q3 = 0 then
          B_X9_edited_85 k4 x1 x2 x3 M
        else
          (f_X9_get x1 (2 : Int32) M).bind fun q5 =>
            (f_X9_isIn x3 q5 M).bind fun q6 =>
              if q6 = 0 then
                B_X9_edited_85 k4 x1 x2 x3 M
              else
                if inb (f_X9_copy x1 x3 x4) 3602 then
                  if inb ((f_X9_copy x1 x3 x4) + (1 : Int32)) 3602 then
                    if (M.1 7 1 (cl (f_X9_copy x1 x3 x4))) = (M.1 7 1 (cl ((f_X9_copy x1 x3 x4) + (1 : Int32)))) then
                      B_X9_edited_77 k4 (L_X9_edited_13 k4 x1 x3 M n) x1 x3 x4 (0 : Int32) x2 M
                    else
                      B_X9_edited_77 k4 (L_X9_edited_13 k4 x1 x3 M n) x1 x3 x4 (1 : Int32) x2 M
                  else none
                else none
def L_X9_edited_4 (x1 : Int32) (M : Mem) : Nat → Int32 → Int32 → Option Int32
  | 0, _, _ => none
  | n + 1, x2, x3 =>
    if (20 : Int32) ≤ x3 then
      some x2
    else
      L_X9_edited_13 (L_X9_edited_4 x1 M n) x1 x3 M FU x2 (0 : Int32)
def f_X9_edited (x1 : Int32) (M : Mem) : Option Int32 :=
  L_X9_edited_4 x1 M FU (0 : Int32) (0 : Int32)
def f_X9_discards (x1 : Int32) (M : Mem) : Option (Int32 × Mem) :=
  (f_X9_edited x1 M).bind fun q1 =>
    if inb (f_X9_check x1 (0 : Int32)) 3602 then
      (f_X9_serves (wr M 7 1 (cl (f_X9_check x1 (0 : Int32))) (0 : Int32))).bind fun q4 =>
        some (q1, q4)
    else none
def B_X9_discard_14 (x1 : Int32) (z0 : Int32) (M : Mem) : Option (Int32 × Mem) :=
  (f_X9_refused z0 M).bind fun q3 =>
    if q3.1 = 0 then
      (f_X9_saves q3.2).bind fun q5 =>
        (f_X9_discards x1 q5).bind fun q6 =>
          some (q6.1, q6.2)
    else
      some ((0 : Int32), q3.2)
def f_X9_discard (x1 : Int32) (M : Mem) : Option (Int32 × Mem) :=
  (f_X9_isCheck x1 M).bind fun q1 =>
    if q1 = 0 then
      B_X9_discard_14 x1 (1 : Int32) M
    else
      B_X9_discard_14 x1 (0 : Int32) M
def f_X9_isCopied (x1 : Int32) (x2 : Int32) (x3 : Int32) (M : Mem) : Option Int32 :=
  (f_X9_isCheck x1 M).bind fun q1 =>
    if q1 = 0 then
      some (0 : Int32)
    else
      (f_X9_isLine x2 x3 M).bind fun q3 =>
        if q3 = 0 then
          some (0 : Int32)
        else
          (f_X9_get x1 (2 : Int32) M).bind fun q5 =>
            (f_X9_isIn x2 q5 M).bind fun q6 =>
              if q6 = 0 then
                some (0 : Int32)
              else
                some (1 : Int32)
def f_X9_barEdit (x1 : Int32) (x2 : Int32) (x3 : Int32) (x4 : Int32) (M : Mem) : Option Int32 :=
  (f_X9_isCopied x1 x2 x3 M).bind fun q1 =>
    if q1 = 0 then
      some (1 : Int32)
    else
      if (f_X9_within x4 (0 : Int32) (999 : Int32)) = 0 then
        some (2 : Int32)
      else
        (f_X9_get x1 (5 : Int32) M).bind fun q5 =>
          if q5 = (1 : Int32) then
            some (3 : Int32)
          else
            some (0 : Int32)
def f_X9_edits (x1 : Int32) (x2 : Int32) (x3 : Int32) (x4 : Int32) (M : Mem) : Option (Int32 × Mem) :=
  if inb ((f_X9_copy x1 x2 x3) + (1 : Int32)) 3602 then
    if inb ((f_X9_copy x1 x2 x3) + (1 : Int32)) 3602 then
      some ((M.1 7 1 (cl ((f_X9_copy x1 x2 x3) + (1 : Int32)))), (wr M 7 1 (cl ((f_X9_copy x1 x2 x3) + (1 : Int32))) x4))
    else none
  else none
def f_X9_edit (x1 : Int32) (x2 : Int32) (x3 : Int32) (x4 : Int32) (M : Mem) : Option (Int32 × Mem) :=
  (f_X9_barEdit x1 x2 x3 x4 M).bind fun q1 =>
    (f_X9_refused q1 M).bind fun q2 =>
      if q2.1 = 0 then
        (f_X9_saves q2.2).bind fun q4 =>
          (f_X9_edits x1 x2 x3 x4 q4).bind fun q5 =>
            some (q5.1, q5.2)
      else
        some ((0 : Int32), q2.2)
def B_X9_copied_46 (z0 : Int32) (z1 : Int32) (M : Mem) : Option (Int32 × Mem) :=
  if inb (z1 + z0) 3602 then
    some ((M.1 7 1 (cl (z1 + z0))), M)
  else none
def B_X9_copied_16 (x1 : Int32) (x2 : Int32) (x3 : Int32) (x4 : Int32) (z0 : Int32) (M : Mem) : Option (Int32 × Mem) :=
  (f_X9_refused z0 M).bind fun q3 =>
    if q3.1 = 0 then
      if x4 = 0 then
        B_X9_copied_46 (1 : Int32) (f_X9_copy x1 x2 x3) q3.2
      else
        B_X9_copied_46 (0 : Int32) (f_X9_copy x1 x2 x3) q3.2
    else
      some ((0 : Int32), q3.2)
def f_X9_copied (x1 : Int32) (x2 : Int32) (x3 : Int32) (x4 : Int32) (M : Mem) : Option (Int32 × Mem) :=
  (f_X9_isCopied x1 x2 x3 M).bind fun q1 =>
    if q1 = 0 then
      B_X9_copied_16 x1 x2 x3 x4 (1 : Int32) M
    else
      B_X9_copied_16 x1 x2 x3 x4 (0 : Int32) M
def B_X9_merges_232 (k9 : Int32 → Int32 → Mem → Option (Int32 × Mem)) (x1 : Int32) (x2 : Int32) (x3 : Int32) (x4 : Int32) (M : Mem) : Option (Int32 × Mem) :=
  k9 x3 (x4 + 1) M
def B_X9_merges_225 (k9 : Int32 → Int32 → Mem → Option (Int32 × Mem)) (k19 : Int32 → Int32 → Mem → Option (Int32 × Mem)) (x1 : Int32) (x2 : Int32) (x3 : Int32) (x4 : Int32) (x5 : Int32) (z0 : Int32) (z1 : Int32) (M : Mem) : Option (Int32 × Mem) :=
  if inb z1 120 then
    k19 x3 (x5 + 1) (wr M 7 6 (cl z1) z0)
  else none
def B_X9_merges_199 (k9 : Int32 → Int32 → Mem → Option (Int32 × Mem)) (k19 : Int32 → Int32 → Mem → Option (Int32 × Mem)) (x1 : Int32) (x2 : Int32) (x3 : Int32) (x4 : Int32) (x5 : Int32) (x7 : Int32) (x8 : Int32) (z0 : Int32) (M : Mem) : Option (Int32 × Mem) :=
  if z0 = 0 then
    B_X9_merges_225 k9 k19 x1 x2 x3 x4 x5 x8 (((6 : Int32) * x4) + x5) M
  else
    B_X9_merges_225 k9 k19 x1 x2 x3 x4 x5 x7 (((6 : Int32) * x4) + x5) M
def B_X9_merges_198 (k9 : Int32 → Int32 → Mem → Option (Int32 × Mem)) (k19 : Int32 → Int32 → Mem → Option (Int32 × Mem)) (x1 : Int32) (x2 : Int32) (x3 : Int32) (x4 : Int32) (x5 : Int32) (x7 : Int32) (x8 : Int32) (M : Mem) : Option (Int32 × Mem) :=
  B_X9_merges_199 k9 k19 x1 x2 x3 x4 x5 x7 x8 (0 : Int32) M
def B_X9_merges_194 (k9 : Int32 → Int32 → Mem → Option (Int32 × Mem)) (k19 : Int32 → Int32 → Mem → Option (Int32 × Mem)) (x1 : Int32) (x2 : Int32) (x3 : Int32) (x4 : Int32) (x5 : Int32) (x7 : Int32) (x8 : Int32) (M : Mem) : Option (Int32 × Mem) :=
  B_X9_merges_199 k9 k19 x1 x2 x3 x4 x5 x7 x8 (1 : Int32) M
def B_X9_merges_148 (k9 : Int32 → Int32 → Mem → Option (Int32 × Mem)) (k19 : Int32 → Int32 → Mem → Option (Int32 × Mem)) (x1 : Int32) (x2 : Int32) (x4 : Int32) (x5 : Int32) (x6 : Int32) (x7 : Int32) (x8 : Int32) (x9 : Int32) (z0 : Int32) (z1 : Int32) (M : Mem) : Option (Int32 × Mem) :=
  (f_X9_get x1 (4 : Int32) M).bind fun q17 =>
    if q17 = (1 : Int32) then
      (f_X9_get x1 (5 : Int32) M).bind fun q24 =>
        if q24 = 0 then
          B_X9_merges_199 k9 k19 x1 x2 (z1 + z0) x4 x5 x7 x8 (1 : Int32) M
        else
          B_X9_merges_199 k9 k19 x1 x2 (z1 + z0) x4 x5 x7 x8 (0 : Int32) M
    else
      if x7 = x6 then
        B_X9_merges_198 k9 k19 x1 x2 (z1 + z0) x4 x5 x7 x8 M
      else
        if x9 = 0 then
          B_X9_merges_194 k9 k19 x1 x2 (z1 + z0) x4 x5 x7 x8 M
        else
          if x2 = (1 : Int32) then
            B_X9_merges_194 k9 k19 x1 x2 (z1 + z0) x4 x5 x7 x8 M
          else
            B_X9_merges_198 k9 k19 x1 x2 (z1 + z0) x4 x5 x7 x8 M
def B_X9_merges_135 (k9 : Int32 → Int32 → Mem → Option (Int32 × Mem)) (k19 : Int32 → Int32 → Mem → Option (Int32 × Mem)) (x1 : Int32) (x2 : Int32) (x3 : Int32) (x4 : Int32) (x5 : Int32) (x6 : Int32) (x7 : Int32) (x8 : Int32) (z0 : Int32) (M : Mem) : Option (Int32 × Mem) :=
  if z0 = 0 then
    B_X9_merges_148 k9 k19 x1 x2 x4 x5 x6 x7 x8 z0 (0 : Int32) x3 M
  else
    B_X9_merges_148 k9 k19 x1 x2 x4 x5 x6 x7 x8 z0 (1 : Int32) x3 M
def B_X9_merges_134 (k9 : Int32 → Int32 → Mem → Option (Int32 × Mem)) (k19 : Int32 → Int32 → Mem → Option (Int32 × Mem)) (x1 : Int32) (x2 : Int32) (x3 : Int32) (x4 : Int32) (x5 : Int32) (x6 : Int32) (x7 : Int32) (x8 : Int32) (M : Mem) : Option (Int32 × Mem) :=
  B_X9_merges_135 k9 k19 x1 x2 x3 x4 x5 x6 x7 x8 (0 : Int32) M
def L_X9_merges_19 (k9 : Int32 → Int32 → Mem → Option (Int32 × Mem)) (x1 : Int32) (x2 : Int32) (x4 : Int32) : Nat → Int32 → Int32 → Mem → Option (Int32 × Mem)
  | 0, _, _, _ => none
  | n + 1, x3, x5, M =>
    if (6 : Int32) ≤ x5 then
      B_X9_merges_232 k9 x1 x2 x3 x4 M
    else
      (f_X9_isSection x4 M).bind fun q4 =>
        if q4 = 0 then
          B_X9_merges_232 k9 x1 x2 x3 x4 M
        else
          (f_X9_get x1 (2 : Int32) M).bind fun q6 =>
            (f_X9_isIn x4 q6 M).bind fun q7 =>
              if q7 = 0 then
                B_X9_merges_232 k9 x1 x2 x3 x4 M
              else
                if inb (f_X9_copy x1 x4 x5) 3602 then
                  if inb ((f_X9_copy x1 x4 x5) + (1 : Int32)) 3602 then
                    if inb (((82 : Int32) + ((6 : Int32) * x4)) + x5) 3602 then
                      (f_X9_get x1 (4 : Int32) M).bind fun q14 =>
                        if q14 = 0 then
                          if (M.1 7 1 (cl ((f_X9_copy x1 x4 x5) + (1 : Int32)))) = (M.1 7 1 (cl (f_X9_copy x1 x4 x5))) then
                            B_X9_merges_134 k9 (L_X9_merges_19 k9 x1 x2 x4 n) x1 x2 x3 x4 x5 (M.1 7 1 (cl (f_X9_copy x1 x4 x5))) (M.1 7 1 (cl ((f_X9_copy x1 x4 x5) + (1 : Int32)))) (M.1 7 1 (cl (((82 : Int32) + ((6 : Int32) * x4)) + x5))) M
                          else
                            if (M.1 7 1 (cl (((82 : Int32) + ((6 : Int32) * x4)) + x5))) = (M.1 7 1 (cl (f_X9_copy x1 x4 x5))) then
                              B_X9_merges_134 k9 (L_X9_merges_19 k9 x1 x2 x4 n) x1 x2 x3 x4 x5 (M.1 7 1 (cl (f_X9_copy x1 x4 x5))) (M.1 7 1 (cl ((f_X9_copy x1 x4 x5) + (1 : Int32)))) (M.1 7 1 (cl (((82 : Int32) + ((6 : Int32) * x4)) + x5))) M
                            else
                              if (M.1 7 1 (cl (((82 : Int32) + ((6 : Int32) * x4)) + x5))) = (M.1 7 1 (cl ((f_X9_copy x1 x4 x5) + (1 : Int32)))) then
                                B_X9_merges_134 k9 (L_X9_merges_19 k9 x1 x2 x4 n) x1 x2 x3 x4 x5 (M.1 7 1 (cl (f_X9_copy x1 x4 x5))) (M.1 7 1 (cl ((f_X9_copy x1 x4 x5) + (1 : Int32)))) (M.1 7 1 (cl (((82 : Int32) + ((6 : Int32) * x4)) + x5))) M
                              else
                                B_X9_merges_135 k9 (L_X9_merges_19 k9 x1 x2 x4 n) x1 x2 x3 x4 x5 (M.1 7 1 (cl (f_X9_copy x1 x4 x5))) (M.1 7 1 (cl ((f_X9_copy x1 x4 x5) + (1 : Int32)))) (M.1 7 1 (cl (((82 : Int32) + ((6 : Int32) * x4)) + x5))) (1 : Int32) M
                        else
                          B_X9_merges_134 k9 (L_X9_merges_19 k9 x1 x2 x4 n) x1 x2 x3 x4 x5 (M.1 7 1 (cl (f_X9_copy x1 x4 x5))) (M.1 7 1 (cl ((f_X9_copy x1 x4 x5) + (1 : Int32)))) (M.1 7 1 (cl (((82 : Int32) + ((6 : Int32) * x4)) + x5))) M
                    else none
                  else none
                else none
def L_X9_merges_9 (x1 : Int32) (x2 : Int32) : Nat → Int32 → Int32 → Mem → Option (Int32 × Mem)
  | 0, _, _, _ => none
  | n + 1, x3, x4, M =>
    if (20 : Int32) ≤ x4 then
      some (x3, M)
    else
      L_X9_merges_19 (L_X9_merges_9 x1 x2 n) x1 x2 x4 FU x3 (0 : Int32) M
def f_X9_merges (x1 : Int32) (x2 : Int32) (M : Mem) : Option (Int32 × Mem) :=
  (f_X9_laysThen M).bind fun q1 =>
    L_X9_merges_9 x1 x2 FU (0 : Int32) (0 : Int32) q1
def B_X9_conflicts_14 (x1 : Int32) (z0 : Int32) (M : Mem) : Option (Int32 × Mem) :=
  (f_X9_refused z0 M).bind fun q3 =>
    if q3.1 = 0 then
      (f_X9_merges x1 (0 : Int32) q3.2).bind fun q5 =>
        some (q5.1, q5.2)
    else
      some ((0 : Int32), q3.2)
def f_X9_conflicts (x1 : Int32) (M : Mem) : Option (Int32 × Mem) :=
  (f_X9_isCheck x1 M).bind fun q1 =>
    if q1 = 0 then
      B_X9_conflicts_14 x1 (1 : Int32) M
    else
      B_X9_conflicts_14 x1 (0 : Int32) M
def B_X9_barGive_60 (z0 : Int32) (M : Mem) : Option (Int32 × Mem) :=
  if z0 = 0 then
    some ((3 : Int32), M)
  else
    some ((0 : Int32), M)
def B_X9_barGive_55 (M : Mem) : Option (Int32 × Mem) :=
  B_X9_barGive_60 (1 : Int32) M
def B_X9_barGive_59 (M : Mem) : Option (Int32 × Mem) :=
  B_X9_barGive_60 (0 : Int32) M
def f_X9_barGive (x1 : Int32) (x2 : Int32) (M : Mem) : Option (Int32 × Mem) :=
  (f_X9_isCheck x1 M).bind fun q1 =>
    if q1 = 0 then
      some ((1 : Int32), M)
    else
      if (f_X9_within x2 (0 : Int32) (2 : Int32)) = 0 then
        some ((2 : Int32), M)
      else
        (f_X9_isHeld x1 M).bind fun q5 =>
          if q5 = 0 then
            (f_X9_get x1 (2 : Int32) M).bind fun q8 =>
              (f_X9_isHeldAround q8 M).bind fun q9 =>
                if q9 = 0 then
                  if 0 < x2 then
                    B_X9_barGive_55 M
                  else
                    (f_X9_merges x1 (0 : Int32) M).bind fun q12 =>
                      if q12.1 = 0 then
                        B_X9_barGive_55 q12.2
                      else
                        B_X9_barGive_59 q12.2
                else
                  B_X9_barGive_59 M
          else
            B_X9_barGive_55 M
def f_X9_gives (x1 : Int32) (x2 : Int32) (M : Mem) : Option (Int32 × Mem) :=
  (f_X9_merges x1 x2 M).bind fun q1 =>
    (f_X9_get x1 (1 : Int32) q1.2).bind fun q2 =>
      (f_X9_becomes q2 q1.2).bind fun q3 =>
        if inb (f_X9_check x1 (0 : Int32)) 3602 then
          (f_X9_serves (wr q3.2 7 1 (cl (f_X9_check x1 (0 : Int32))) (0 : Int32))).bind fun q6 =>
            some (q3.1, q6)
        else none
def f_X9_giveBack (x1 : Int32) (x2 : Int32) (M : Mem) : Option (Int32 × Mem) :=
  (f_X9_barGive x1 x2 M).bind fun q1 =>
    (f_X9_refused q1.1 q1.2).bind fun q2 =>
      if q2.1 = 0 then
        (f_X9_saves q2.2).bind fun q4 =>
          (f_X9_gives x1 x2 q4).bind fun q5 =>
            some (q5.1, q5.2)
      else
        some ((0 : Int32), q2.2)
def f_X9_tellCheck (x1 : Int32) (x2 : Int32) (M : Mem) : Option Int32 :=
  if x2 = (0 : Int32) then
    (f_X9_get x1 (1 : Int32) M).bind fun q2 =>
      some q2
  else
  if x2 = (1 : Int32) then
    (f_X9_get x1 (2 : Int32) M).bind fun q4 =>
      some q4
  else
  if x2 = (2 : Int32) then
    (f_X9_get x1 (3 : Int32) M).bind fun q6 =>
      some q6
  else
  if x2 = (3 : Int32) then
    (f_X9_get x1 (4 : Int32) M).bind fun q8 =>
      some q8
  else
  if x2 = (4 : Int32) then
    (f_X9_get x1 (5 : Int32) M).bind fun q10 =>
      some q10
  else
  (f_X9_edited x1 M).bind fun q11 =>
    some q11
def B_X9_checkOut_27 (x1 : Int32) (x2 : Int32) (z0 : Int32) (M : Mem) : Option (Int32 × Mem) :=
  (f_X9_refused z0 M).bind fun q5 =>
    if q5.1 = 0 then
      (f_X9_tellCheck x1 x2 q5.2).bind fun q7 =>
        some (q7, q5.2)
    else
      some ((0 : Int32), q5.2)
def f_X9_checkOut (x1 : Int32) (x2 : Int32) (M : Mem) : Option (Int32 × Mem) :=
  (f_X9_isCheck x1 M).bind fun q1 =>
    if q1 = 0 then
      B_X9_checkOut_27 x1 x2 (1 : Int32) M
    else
      if (f_X9_within x2 (0 : Int32) (5 : Int32)) = 0 then
        B_X9_checkOut_27 x1 x2 (2 : Int32) M
      else
        B_X9_checkOut_27 x1 x2 (0 : Int32) M
def B_X9_holders_14 (x1 : Int32) (z0 : Int32) (M : Mem) : Option (Int32 × Mem) :=
  (f_X9_refused z0 M).bind fun q3 =>
    if q3.1 = 0 then
      (f_X9_holdersOf x1 q3.2).bind fun q5 =>
        some (q5, q3.2)
    else
      some ((0 : Int32), q3.2)
def f_X9_holders (x1 : Int32) (M : Mem) : Option (Int32 × Mem) :=
  (f_X9_isSection x1 M).bind fun q1 =>
    if q1 = 0 then
      B_X9_holders_14 x1 (1 : Int32) M
    else
      B_X9_holders_14 x1 (0 : Int32) M
def B_X9_ifBroken_14 (x1 : Int32) (z0 : Int32) (M : Mem) : Option (Int32 × Mem) :=
  (f_X9_refused z0 M).bind fun q3 =>
    if q3.1 = 0 then
      (f_X9_isHeld x1 q3.2).bind fun q5 =>
        if q5 = 0 then
          some ((0 : Int32), q3.2)
        else
          (f_X9_laysAside q3.2).bind fun q7 =>
            (f_X9_waits q7).bind fun q8 =>
              (f_X9_breaks x1 q7).bind fun q9 =>
                (f_X9_waits q9.2).bind fun q10 =>
                  (f_X9_takesBack q9.2).bind fun q11 =>
                    some ((q8 - q10), q11)
    else
      some ((0 : Int32), q3.2)
def f_X9_ifBroken (x1 : Int32) (M : Mem) : Option (Int32 × Mem) :=
  (f_X9_isCheck x1 M).bind fun q1 =>
    if q1 = 0 then
      B_X9_ifBroken_14 x1 (1 : Int32) M
    else
      B_X9_ifBroken_14 x1 (0 : Int32) M
def B_X9_grantedAt_84 (z0 : Int32) (M : Mem) : Option (Int32 × Mem) :=
  (f_X9_takesBack M).bind fun q11 =>
    some (z0, q11)
def B_X9_grantedAt_65 (x1 : Int32) (M : Mem) : Option (Int32 × Mem) :=
  (f_X9_placeOf x1 M).bind fun q9 =>
    if q9 = ((-1) : Int32) then
      B_X9_grantedAt_84 (M.1 7 1 (cl (0 : Int32))) M
    else
      B_X9_grantedAt_84 ((-1) : Int32) M
def L_X9_grantedAt_42 (x1 : Int32) : Nat → Int32 → Mem → Option (Int32 × Mem)
  | 0, _, _ => none
  | n + 1, x2, M =>
    if x2 ≤ 0 then
      B_X9_grantedAt_65 x1 M
    else
      (f_X9_placeOf x1 M).bind fun q12 =>
        if q12 = ((-1) : Int32) then
          B_X9_grantedAt_65 x1 M
        else
          (f_X9_tickOn M).bind fun q14 =>
            (L_X9_grantedAt_42 x1 n) (x2 + ((-1) : Int32)) q14
def B_X9_grantedAt_26 (x1 : Int32) (z0 : Int32) (M : Mem) : Option (Int32 × Mem) :=
  (f_X9_refused z0 M).bind fun q5 =>
    if q5.1 = 0 then
      (f_X9_laysAside q5.2).bind fun q7 =>
        L_X9_grantedAt_42 x1 FU (2000 : Int32) q7
    else
      some ((0 : Int32), q5.2)
def f_X9_grantedAt (x1 : Int32) (M : Mem) : Option (Int32 × Mem) :=
  if (f_X9_isUser x1) = 0 then
    B_X9_grantedAt_26 x1 (1 : Int32) M
  else
    (f_X9_placeOf x1 M).bind fun q3 =>
      if q3 = ((-1) : Int32) then
        B_X9_grantedAt_26 x1 (2 : Int32) M
      else
        B_X9_grantedAt_26 x1 (0 : Int32) M
def B_X9_waitsFor_153 (k116 : Int32 → Int32 → Option (Int32 × Mem)) (x2 : Int32) (x3 : Int32) (x4 : Int32) (x6 : Int32) (z0 : Int32) (z1 : Int32) (M : Mem) : Option (Int32 × Mem) :=
  k116 (z1 ||| z0) (x6 + 1)
def L_X9_waitsFor_116 (x2 : Int32) (x3 : Int32) (x4 : Int32) (M : Mem) : Nat → Int32 → Int32 → Option (Int32 × Mem)
  | 0, _, _ => none
  | n + 1, x5, x6 =>
    if x2 ≤ x6 then
      some (x5, M)
    else
      (f_X9_isBlocked x6 x3 x4 M).bind fun q14 =>
        if q14 = 0 then
          B_X9_waitsFor_153 (L_X9_waitsFor_116 x2 x3 x4 M n) x2 x3 x4 x6 (0 : Int32) x5 M
        else
          if inb (f_X9_wait x6 (0 : Int32)) 3602 then
            B_X9_waitsFor_153 (L_X9_waitsFor_116 x2 x3 x4 M n) x2 x3 x4 x6 ((1 : Int32) <<< ((M.1 7 1 (cl (f_X9_wait x6 (0 : Int32)))) &&& 31)) x5 M
          else none
def B_X9_waitsFor_104 (k69 : Int32 → Int32 → Option (Int32 × Mem)) (x1 : Int32) (x2 : Int32) (x3 : Int32) (x4 : Int32) (x6 : Int32) (z0 : Int32) (z1 : Int32) (M : Mem) : Option (Int32 × Mem) :=
  k69 (z1 ||| z0) (x6 + 1)
def L_X9_waitsFor_69 (x1 : Int32) (x2 : Int32) (x3 : Int32) (x4 : Int32) (M : Mem) : Nat → Int32 → Int32 → Option (Int32 × Mem)
  | 0, _, _ => none
  | n + 1, x5, x6 =>
    if (10 : Int32) ≤ x6 then
      L_X9_waitsFor_116 x2 x3 x4 M FU x5 (0 : Int32)
    else
      (f_X9_bars x1 x3 x4 x6 M).bind fun q18 =>
        if q18 = 0 then
          B_X9_waitsFor_104 (L_X9_waitsFor_69 x1 x2 x3 x4 M n) x1 x2 x3 x4 x6 (0 : Int32) x5 M
        else
          (f_X9_get x6 (1 : Int32) M).bind fun q20 =>
            B_X9_waitsFor_104 (L_X9_waitsFor_69 x1 x2 x3 x4 M n) x1 x2 x3 x4 x6 ((1 : Int32) <<< (q20 &&& 31)) x5 M
def B_X9_waitsFor_26 (x1 : Int32) (z0 : Int32) (M : Mem) : Option (Int32 × Mem) :=
  (f_X9_refused z0 M).bind fun q5 =>
    if q5.1 = 0 then
      (f_X9_placeOf x1 q5.2).bind fun q7 =>
        if inb (f_X9_wait q7 (1 : Int32)) 3602 then
          if inb (f_X9_wait q7 (3 : Int32)) 3602 then
            L_X9_waitsFor_69 x1 q7 (q5.2.1 7 1 (cl (f_X9_wait q7 (1 : Int32)))) (q5.2.1 7 1 (cl (f_X9_wait q7 (3 : Int32)))) q5.2 FU (0 : Int32) (0 : Int32)
          else none
        else none
    else
      some ((0 : Int32), q5.2)
def f_X9_waitsFor (x1 : Int32) (M : Mem) : Option (Int32 × Mem) :=
  if (f_X9_isUser x1) = 0 then
    B_X9_waitsFor_26 x1 (1 : Int32) M
  else
    (f_X9_placeOf x1 M).bind fun q3 =>
      if q3 = ((-1) : Int32) then
        B_X9_waitsFor_26 x1 (2 : Int32) M
      else
        B_X9_waitsFor_26 x1 (0 : Int32) M
def f_X9_entries (M : Mem) : Option (Int32 × Mem) :=
  some (((wr M 7 0 4 (0 : Int32)).1 7 1 (cl (2701 : Int32))), (wr M 7 0 4 (0 : Int32)))
def B_X9_entry_37 (x1 : Int32) (x2 : Int32) (z0 : Int32) (M : Mem) : Option (Int32 × Mem) :=
  (f_X9_refused z0 M).bind fun q5 =>
    if q5.1 = 0 then
      if inb (((2702 : Int32) + ((6 : Int32) * x1)) + x2) 3602 then
        some ((q5.2.1 7 1 (cl (((2702 : Int32) + ((6 : Int32) * x1)) + x2))), q5.2)
      else none
    else
      some ((0 : Int32), q5.2)
def f_X9_entry (x1 : Int32) (x2 : Int32) (M : Mem) : Option (Int32 × Mem) :=
  if (f_X9_within x1 (0 : Int32) ((M.1 7 1 (cl (2701 : Int32))) - (1 : Int32))) = 0 then
    B_X9_entry_37 x1 x2 (1 : Int32) M
  else
    if (f_X9_within x2 (0 : Int32) (5 : Int32)) = 0 then
      B_X9_entry_37 x1 x2 (2 : Int32) M
    else
      B_X9_entry_37 x1 x2 (0 : Int32) M
def B_X9_blame_91 (k28 : Int32 → Int32 → Option (Int32 × Mem)) (x1 : Int32) (x2 : Int32) (x4 : Int32) (z0 : Int32) (M : Mem) : Option (Int32 × Mem) :=
  k28 z0 (x4 + 1)
def B_X9_blame_90 (k28 : Int32 → Int32 → Option (Int32 × Mem)) (x1 : Int32) (x2 : Int32) (x3 : Int32) (x4 : Int32) (M : Mem) : Option (Int32 × Mem) :=
  B_X9_blame_91 k28 x1 x2 x4 x3 M
def L_X9_blame_28 (x1 : Int32) (x2 : Int32) (M : Mem) : Nat → Int32 → Int32 → Option (Int32 × Mem)
  | 0, _, _ => none
  | n + 1, x3, x4 =>
    if (M.1 7 1 (cl (2701 : Int32))) ≤ x4 then
      some (x3, M)
    else
      if inb (((2702 : Int32) + ((6 : Int32) * x4)) + (1 : Int32)) 3602 then
        if (M.1 7 1 (cl (((2702 : Int32) + ((6 : Int32) * x4)) + (1 : Int32)))) = x1 then
          if inb (((2702 : Int32) + ((6 : Int32) * x4)) + (2 : Int32)) 3602 then
            if (M.1 7 1 (cl (((2702 : Int32) + ((6 : Int32) * x4)) + (2 : Int32)))) = x2 then
              if inb (((2702 : Int32) + ((6 : Int32) * x4)) + (5 : Int32)) 3602 then
                B_X9_blame_91 (L_X9_blame_28 x1 x2 M n) x1 x2 x4 (M.1 7 1 (cl (((2702 : Int32) + ((6 : Int32) * x4)) + (5 : Int32)))) M
              else none
            else
              B_X9_blame_90 (L_X9_blame_28 x1 x2 M n) x1 x2 x3 x4 M
          else none
        else
          B_X9_blame_90 (L_X9_blame_28 x1 x2 M n) x1 x2 x3 x4 M
      else none
def B_X9_blame_15 (x1 : Int32) (x2 : Int32) (z0 : Int32) (M : Mem) : Option (Int32 × Mem) :=
  (f_X9_refused z0 M).bind fun q3 =>
    if q3.1 = 0 then
      L_X9_blame_28 x1 x2 q3.2 FU ((-1) : Int32) (0 : Int32)
    else
      some ((0 : Int32), q3.2)
def f_X9_blame (x1 : Int32) (x2 : Int32) (M : Mem) : Option (Int32 × Mem) :=
  (f_X9_isLine x1 x2 M).bind fun q1 =>
    if q1 = 0 then
      B_X9_blame_15 x1 x2 (1 : Int32) M
    else
      B_X9_blame_15 x1 x2 (0 : Int32) M
def f_X9_isTick (x1 : Int32) (M : Mem) : Option Int32 :=
  some (f_X9_within x1 (0 : Int32) (M.1 7 1 (cl (0 : Int32))))
def B_X9_lineAt_27 (x1 : Int32) (x2 : Int32) (x3 : Int32) (z0 : Int32) (M : Mem) : Option (Int32 × Mem) :=
  (f_X9_refused z0 M).bind fun q5 =>
    if q5.1 = 0 then
      (f_X9_was x1 x2 x3 q5.2).bind fun q7 =>
        some (q7, q5.2)
    else
      some ((0 : Int32), q5.2)
def f_X9_lineAt (x1 : Int32) (x2 : Int32) (x3 : Int32) (M : Mem) : Option (Int32 × Mem) :=
  (f_X9_isLine x1 x2 M).bind fun q1 =>
    if q1 = 0 then
      B_X9_lineAt_27 x1 x2 x3 (1 : Int32) M
    else
      (f_X9_isTick x3 M).bind fun q3 =>
        if q3 = 0 then
          B_X9_lineAt_27 x1 x2 x3 (2 : Int32) M
        else
          B_X9_lineAt_27 x1 x2 x3 (0 : Int32) M
def B_X9_revert_115 (k56 : Int32 → Mem → Option (Int32 × Mem)) (x1 : Int32) (x2 : Int32) (x3 : Int32) (M : Mem) : Option (Int32 × Mem) :=
  k56 (x3 + 1) M
def L_X9_revert_65 (k56 : Int32 → Mem → Option (Int32 × Mem)) (x1 : Int32) (x2 : Int32) (x3 : Int32) : Nat → Int32 → Mem → Option (Int32 × Mem)
  | 0, _, _ => none
  | n + 1, x4, M =>
    if (6 : Int32) ≤ x4 then
      B_X9_revert_115 k56 x1 x2 x3 M
    else
      (f_X9_isSection x3 M).bind fun q14 =>
        if q14 = 0 then
          B_X9_revert_115 k56 x1 x2 x3 M
        else
          (f_X9_isIn x3 x1 M).bind fun q16 =>
            if q16 = 0 then
              B_X9_revert_115 k56 x1 x2 x3 M
            else
              (f_X9_was x3 x4 x2 M).bind fun q18 =>
                if inb (((6 : Int32) * x3) + x4) 120 then
                  (L_X9_revert_65 k56 x1 x2 x3 n) (x4 + 1) (wr M 7 6 (cl (((6 : Int32) * x3) + x4)) q18)
                else none
def L_X9_revert_56 (x1 : Int32) (x2 : Int32) : Nat → Int32 → Mem → Option (Int32 × Mem)
  | 0, _, _ => none
  | n + 1, x3, M =>
    if (20 : Int32) ≤ x3 then
      (f_X9_becomes ((-1) : Int32) M).bind fun q12 =>
        some (q12.1, q12.2)
    else
      L_X9_revert_65 (L_X9_revert_56 x1 x2 n) x1 x2 x3 FU (0 : Int32) M
def B_X9_revert_38 (x1 : Int32) (x2 : Int32) (z0 : Int32) (M : Mem) : Option (Int32 × Mem) :=
  (f_X9_refused z0 M).bind fun q7 =>
    if q7.1 = 0 then
      (f_X9_saves q7.2).bind fun q9 =>
        (f_X9_laysThen q9).bind fun q10 =>
          L_X9_revert_56 x1 x2 FU (0 : Int32) q10
    else
      some ((0 : Int32), q7.2)
def f_X9_revert (x1 : Int32) (x2 : Int32) (M : Mem) : Option (Int32 × Mem) :=
  (f_X9_isSection x1 M).bind fun q1 =>
    if q1 = 0 then
      B_X9_revert_38 x1 x2 (1 : Int32) M
    else
      (f_X9_isTick x2 M).bind fun q3 =>
        if q3 = 0 then
          B_X9_revert_38 x1 x2 (2 : Int32) M
        else
          (f_X9_isHeldAround x1 M).bind fun q5 =>
            if q5 = 0 then
              B_X9_revert_38 x1 x2 (0 : Int32) M
            else
              B_X9_revert_38 x1 x2 (3 : Int32) M
def f_X9_waiting (M : Mem) : Option (Int32 × Mem) :=
  (f_X9_waits (wr M 7 0 4 (0 : Int32))).bind fun q1 =>
    some (q1, (wr M 7 0 4 (0 : Int32)))
def B_X9_waitingAt_33 (x1 : Int32) (x2 : Int32) (z0 : Int32) (M : Mem) : Option (Int32 × Mem) :=
  (f_X9_refused z0 M).bind fun q6 =>
    if q6.1 = 0 then
      if inb (f_X9_wait x1 x2) 3602 then
        some ((q6.2.1 7 1 (cl (f_X9_wait x1 x2))), q6.2)
      else none
    else
      some ((0 : Int32), q6.2)
def f_X9_waitingAt (x1 : Int32) (x2 : Int32) (M : Mem) : Option (Int32 × Mem) :=
  (f_X9_waits M).bind fun q1 =>
    if (f_X9_within x1 (0 : Int32) (q1 - (1 : Int32))) = 0 then
      B_X9_waitingAt_33 x1 x2 (1 : Int32) M
    else
      if (f_X9_within x2 (0 : Int32) (3 : Int32)) = 0 then
        B_X9_waitingAt_33 x1 x2 (2 : Int32) M
      else
        B_X9_waitingAt_33 x1 x2 (0 : Int32) M
def L_X9_passes_2 (x1 : Int32) : Nat → Int32 → Mem → Option (Int32 × Mem)
  | 0, _, _ => none
  | n + 1, x2, M =>
    if x1 ≤ x2 then
      some ((M.1 7 1 (cl (0 : Int32))), M)
    else
      (f_X9_tickOn M).bind fun q2 =>
        (L_X9_passes_2 x1 n) (x2 + 1) q2
def f_X9_passes (x1 : Int32) (M : Mem) : Option (Int32 × Mem) :=
  L_X9_passes_2 x1 FU (0 : Int32) M
def B_X9_pass_17 (x1 : Int32) (z0 : Int32) (M : Mem) : Option (Int32 × Mem) :=
  (f_X9_refused z0 M).bind fun q3 =>
    if q3.1 = 0 then
      (f_X9_saves q3.2).bind fun q5 =>
        (f_X9_passes x1 q5).bind fun q6 =>
          some (q6.1, q6.2)
    else
      some ((0 : Int32), q3.2)
def f_X9_pass (x1 : Int32) (M : Mem) : Option (Int32 × Mem) :=
  if (f_X9_within x1 (0 : Int32) (1000 : Int32)) = 0 then
    B_X9_pass_17 x1 (1 : Int32) M
  else
    B_X9_pass_17 x1 (0 : Int32) M
def f_Jxf58ca_isNaN_12338 (x0 : UInt32) : Int32 :=
  if (Op.cmpValue (FP.fcmp x0 x0) .l) = 0 then
    (0 : Int32)
  else
    (1 : Int32)
def f_Jxf58ca_floatToIntBits_5c35a (x0 : UInt32) : Int32 :=
  if (f_Jxf58ca_isNaN_12338 x0) = 0 then
    (x0).toInt32
  else
    (2143289344 : Int32)
def B_X9_useBits_13 (x1 : Int32) (z0 : Int32) (M : Mem) : Option (Int32 × Mem) :=
  (f_X9_refused z0 M).bind fun q3 =>
    if q3.1 = 0 then
      if (q3.2.1 7 1 (cl (0 : Int32))) = 0 then
        some ((0 : Int32), q3.2)
      else
        if inb ((2695 : Int32) + x1) 3602 then
          if nn (FP.fdiv (FP.i2f (q3.2.1 7 1 (cl ((2695 : Int32) + x1)))) (FP.i2f (q3.2.1 7 1 (cl (0 : Int32))))) then
            some ((f_Jxf58ca_floatToIntBits_5c35a (FP.fdiv (FP.i2f (q3.2.1 7 1 (cl ((2695 : Int32) + x1)))) (FP.i2f (q3.2.1 7 1 (cl (0 : Int32)))))), q3.2)
          else none
        else none
    else
      some ((0 : Int32), q3.2)
def f_X9_useBits (x1 : Int32) (M : Mem) : Option (Int32 × Mem) :=
  if (f_X9_isUser x1) = 0 then
    B_X9_useBits_13 x1 (1 : Int32) M
  else
    B_X9_useBits_13 x1 (0 : Int32) M
def B_X9_append_29 (x1 : Int32) (z0 : Int32) (M : Mem) : Option (Int32 × Mem) :=
  (f_X9_refused z0 M).bind fun q4 =>
    if q4.1 = 0 then
      if inb (q4.2.1 7 0 6) 120 then
        some (((wr (wr q4.2 7 4 (cl (q4.2.1 7 0 6)) x1) 7 0 6 (((wr q4.2 7 4 (cl (q4.2.1 7 0 6)) x1).1 7 0 6) + (1 : Int32))).1 7 0 6), (wr (wr q4.2 7 4 (cl (q4.2.1 7 0 6)) x1) 7 0 6 (((wr q4.2 7 4 (cl (q4.2.1 7 0 6)) x1).1 7 0 6) + (1 : Int32))))
      else none
    else
      some ((0 : Int32), q4.2)
def f_X9_append (x1 : Int32) (M : Mem) : Option (Int32 × Mem) :=
  if (f_X9_within x1 (0 : Int32) (127 : Int32)) = 0 then
    B_X9_append_29 x1 (1 : Int32) M
  else
    if (M.1 7 0 6) = (120 : Int32) then
      B_X9_append_29 x1 (2 : Int32) M
    else
      B_X9_append_29 x1 (0 : Int32) M
def f_X9_clearText (M : Mem) : Option (Int32 × Mem) :=
  some (((wr M 7 0 4 (0 : Int32)).1 7 0 6), (wr (wr M 7 0 4 (0 : Int32)) 7 0 6 (0 : Int32)))
def f_X9_isAt (x1 : Int32) (x2 : Int32) (M : Mem) : Option Int32 :=
  if (M.1 7 0 6) ≤ (M.1 7 0 10) then
    some (0 : Int32)
  else
    if inb (M.1 7 0 10) 120 then
      if (f_X9_within (M.1 7 4 (cl (M.1 7 0 10))) x1 x2) = 0 then
        some (0 : Int32)
      else
        some (1 : Int32)
    else none
def f_X9_manyOf (x0 : Int32) : Int32 :=
  if x0 = (98 : Int32) then
    (1 : Int32)
  else
  if x0 = (99 : Int32) then
    (0 : Int32)
  else
  if x0 = (100 : Int32) then
    (1 : Int32)
  else
  if x0 = (101 : Int32) then
    (4 : Int32)
  else
  if x0 = (102 : Int32) then
    (0 : Int32)
  else
  if x0 = (103 : Int32) then
    (2 : Int32)
  else
  if x0 = (104 : Int32) then
    (0 : Int32)
  else
  if x0 = (105 : Int32) then
    (0 : Int32)
  else
  if x0 = (106 : Int32) then
    (0 : Int32)
  else
  if x0 = (107 : Int32) then
    (0 : Int32)
  else
  if x0 = (108 : Int32) then
    (0 : Int32)
  else
  if x0 = (109 : Int32) then
    (0 : Int32)
  else
  if x0 = (110 : Int32) then
    (0 : Int32)
  else
  if x0 = (111 : Int32) then
    (0 : Int32)
  else
  if x0 = (112 : Int32) then
    (1 : Int32)
  else
  if x0 = (113 : Int32) then
    (4 : Int32)
  else
  (0 : Int32)
def B_X9_readsNumber_77 (x1 : Int32) (x2 : Int32) (x3 : Int32) (M : Mem) : Option (Int32 × Mem) :=
  if inb x1 160 then
    if x3 ≤ 0 then
      some ((0 : Int32), (wr M 7 9 (cl x1) x2))
    else
      some ((1 : Int32), (wr M 7 9 (cl x1) x2))
  else none
def L_X9_readsNumber_27 (x1 : Int32) : Nat → Int32 → Int32 → Mem → Option (Int32 × Mem)
  | 0, _, _, _ => none
  | n + 1, x2, x3, M =>
    if (4 : Int32) ≤ x3 then
      B_X9_readsNumber_77 x1 x2 x3 M
    else
      (f_X9_isAt (48 : Int32) (57 : Int32) M).bind fun q6 =>
        if q6 = 0 then
          B_X9_readsNumber_77 x1 x2 x3 M
        else
          if inb (M.1 7 0 10) 120 then
            (L_X9_readsNumber_27 x1 n) ((((10 : Int32) * x2) + (M.1 7 4 (cl (M.1 7 0 10)))) - (48 : Int32)) (x3 + 1) (wr M 7 0 10 ((M.1 7 0 10) + (1 : Int32)))
          else none
def f_X9_readsNumber (x1 : Int32) (M : Mem) : Option (Int32 × Mem) :=
  (f_X9_isAt (32 : Int32) (32 : Int32) M).bind fun q1 =>
    if q1 = 0 then
      some ((0 : Int32), M)
    else
      L_X9_readsNumber_27 x1 FU (0 : Int32) (0 : Int32) (wr M 7 0 10 ((M.1 7 0 10) + (1 : Int32)))
def B_X9_readsOrder_96 (x1 : Int32) (z0 : Int32) (M : Mem) : Option (Int32 × Mem) :=
  if z0 = 0 then
    if isb z0 then
      some (z0, M)
    else none
  else
    if inb (M.1 7 0 11) 40 then
      if isb z0 then
        some (z0, (wr (wr (wr M 7 8 (cl (M.1 7 0 11)) x1) 7 0 11 (((wr M 7 8 (cl (M.1 7 0 11)) x1).1 7 0 11) + (1 : Int32))) 7 0 10 (((wr (wr M 7 8 (cl (M.1 7 0 11)) x1) 7 0 11 (((wr M 7 8 (cl (M.1 7 0 11)) x1).1 7 0 11) + (1 : Int32))).1 7 0 10) + (1 : Int32))))
      else none
    else none
def B_X9_readsOrder_95 (x1 : Int32) (M : Mem) : Option (Int32 × Mem) :=
  B_X9_readsOrder_96 x1 (0 : Int32) M
def B_X9_readsOrder_76 (x1 : Int32) (x3 : Int32) (M : Mem) : Option (Int32 × Mem) :=
  if x3 = 0 then
    B_X9_readsOrder_95 x1 M
  else
    (f_X9_isAt (59 : Int32) (59 : Int32) M).bind fun q11 =>
      if q11 = 0 then
        B_X9_readsOrder_95 x1 M
      else
        B_X9_readsOrder_96 x1 (1 : Int32) M
def L_X9_readsOrder_46 (x1 : Int32) (x2 : Int32) : Nat → Int32 → Int32 → Mem → Option (Int32 × Mem)
  | 0, _, _, _ => none
  | n + 1, x3, x4, M =>
    if x2 ≤ x4 then
      B_X9_readsOrder_76 x1 x3 M
    else
      if x3 = 0 then
        B_X9_readsOrder_76 x1 x3 M
      else
        (f_X9_readsNumber (((4 : Int32) * (M.1 7 0 11)) + x4) M).bind fun q14 =>
          (L_X9_readsOrder_46 x1 x2 n) q14.1 (x4 + 1) q14.2
def B_X9_readsOrder_39 (x1 : Int32) (x2 : Int32) (x3 : Int32) (z0 : Int32) (z1 : Int32) (M : Mem) : Option (Int32 × Mem) :=
  L_X9_readsOrder_46 x1 x2 FU x3 (0 : Int32) (wr M 7 0 10 (z1 + z0))
def B_X9_readsOrder_24 (x1 : Int32) (x2 : Int32) (z0 : Int32) (M : Mem) : Option (Int32 × Mem) :=
  if z0 = 0 then
    B_X9_readsOrder_39 x1 x2 z0 (0 : Int32) (M.1 7 0 10) M
  else
    B_X9_readsOrder_39 x1 x2 z0 (1 : Int32) (M.1 7 0 10) M
def f_X9_readsOrder (M : Mem) : Option (Int32 × Mem) :=
  if inb (M.1 7 0 10) 120 then
    if (f_X9_manyOf (M.1 7 4 (cl (M.1 7 0 10)))) ≤ 0 then
      B_X9_readsOrder_24 (M.1 7 4 (cl (M.1 7 0 10))) (f_X9_manyOf (M.1 7 4 (cl (M.1 7 0 10)))) (0 : Int32) M
    else
      B_X9_readsOrder_24 (M.1 7 4 (cl (M.1 7 0 10))) (f_X9_manyOf (M.1 7 4 (cl (M.1 7 0 10)))) (1 : Int32) M
  else none
def L_X9_reads_12 : Nat → Int32 → Mem → Option (Int32 × Mem)
  | 0, _, _ => none
  | n + 1, x1, M =>
    if x1 = 0 then
      if isb x1 then
        some (x1, M)
      else none
    else
      if (M.1 7 0 6) ≤ (M.1 7 0 10) then
        if isb x1 then
          some (x1, M)
        else none
      else
        (f_X9_readsOrder M).bind fun q5 =>
          (L_X9_reads_12 n) q5.1 q5.2
def f_X9_reads (M : Mem) : Option (Int32 × Mem) :=
  L_X9_reads_12 FU (1 : Int32) (wr (wr M 7 0 10 (0 : Int32)) 7 0 11 (0 : Int32))
def B_X9_doesOrder_270 (x2 : Int32) (z0 : Int32) (M : Mem) : Option (Int32 × Mem) :=
  if z0 = 0 then
    some ((0 : Int32), M)
  else
    (f_X9_breaks x2 M).bind fun q10 =>
      if q10.1 < 0 then
        some ((0 : Int32), q10.2)
      else
        some ((1 : Int32), q10.2)
def B_X9_doesOrder_173 (x2 : Int32) (x3 : Int32) (x4 : Int32) (x5 : Int32) (z0 : Int32) (M : Mem) : Option (Int32 × Mem) :=
  if z0 = 0 then
    some ((0 : Int32), M)
  else
    (f_X9_edits x2 x3 x4 x5 M).bind fun q21 =>
      if q21.1 < 0 then
        some ((0 : Int32), q21.2)
      else
        some ((1 : Int32), q21.2)
def B_X9_doesOrder_213 (x2 : Int32) (x3 : Int32) (z0 : Int32) (M : Mem) : Option (Int32 × Mem) :=
  if z0 = 0 then
    some ((0 : Int32), M)
  else
    (f_X9_gives x2 x3 M).bind fun q27 =>
      if q27.1 < 0 then
        some ((0 : Int32), q27.2)
      else
        some ((1 : Int32), q27.2)
def B_X9_doesOrder_128 (x2 : Int32) (x3 : Int32) (x4 : Int32) (x5 : Int32) (z0 : Int32) (M : Mem) : Option (Int32 × Mem) :=
  if z0 = 0 then
    some ((0 : Int32), M)
  else
    (f_X9_requests x2 x3 x4 x5 M).bind fun q33 =>
      if q33.1 < ((-1) : Int32) then
        some ((0 : Int32), q33.2)
      else
        some ((1 : Int32), q33.2)
def B_X9_doesOrder_127 (x2 : Int32) (x3 : Int32) (x4 : Int32) (x5 : Int32) (M : Mem) : Option (Int32 × Mem) :=
  B_X9_doesOrder_128 x2 x3 x4 x5 (0 : Int32) M
def f_X9_doesOrder (x1 : Int32) (M : Mem) : Option (Int32 × Mem) :=
  if inb ((4 : Int32) * x1) 160 then
    if inb (((4 : Int32) * x1) + (1 : Int32)) 160 then
      if inb (((4 : Int32) * x1) + (2 : Int32)) 160 then
        if inb (((4 : Int32) * x1) + (3 : Int32)) 160 then
          if inb x1 40 then
            if (M.1 7 8 (cl x1)) = (98 : Int32) then
              (f_X9_barBreak (M.1 7 9 (cl ((4 : Int32) * x1))) M).bind fun q7 =>
                if q7 = 0 then
                  B_X9_doesOrder_270 (M.1 7 9 (cl ((4 : Int32) * x1))) (1 : Int32) M
                else
                  B_X9_doesOrder_270 (M.1 7 9 (cl ((4 : Int32) * x1))) (0 : Int32) M
            else
            if (M.1 7 8 (cl x1)) = (100 : Int32) then
              (f_X9_isCheck (M.1 7 9 (cl ((4 : Int32) * x1))) M).bind fun q13 =>
                if q13 = 0 then
                  some ((0 : Int32), M)
                else
                  (f_X9_discards (M.1 7 9 (cl ((4 : Int32) * x1))) M).bind fun q15 =>
                    if q15.1 < 0 then
                      some ((0 : Int32), q15.2)
                    else
                      some ((1 : Int32), q15.2)
            else
            if (M.1 7 8 (cl x1)) = (101 : Int32) then
              (f_X9_barEdit (M.1 7 9 (cl ((4 : Int32) * x1))) (M.1 7 9 (cl (((4 : Int32) * x1) + (1 : Int32)))) (M.1 7 9 (cl (((4 : Int32) * x1) + (2 : Int32)))) (M.1 7 9 (cl (((4 : Int32) * x1) + (3 : Int32)))) M).bind fun q18 =>
                if q18 = 0 then
                  B_X9_doesOrder_173 (M.1 7 9 (cl ((4 : Int32) * x1))) (M.1 7 9 (cl (((4 : Int32) * x1) + (1 : Int32)))) (M.1 7 9 (cl (((4 : Int32) * x1) + (2 : Int32)))) (M.1 7 9 (cl (((4 : Int32) * x1) + (3 : Int32)))) (1 : Int32) M
                else
                  B_X9_doesOrder_173 (M.1 7 9 (cl ((4 : Int32) * x1))) (M.1 7 9 (cl (((4 : Int32) * x1) + (1 : Int32)))) (M.1 7 9 (cl (((4 : Int32) * x1) + (2 : Int32)))) (M.1 7 9 (cl (((4 : Int32) * x1) + (3 : Int32)))) (0 : Int32) M
            else
            if (M.1 7 8 (cl x1)) = (103 : Int32) then
              (f_X9_barGive (M.1 7 9 (cl ((4 : Int32) * x1))) (M.1 7 9 (cl (((4 : Int32) * x1) + (1 : Int32)))) M).bind fun q24 =>
                if q24.1 = 0 then
                  B_X9_doesOrder_213 (M.1 7 9 (cl ((4 : Int32) * x1))) (M.1 7 9 (cl (((4 : Int32) * x1) + (1 : Int32)))) (1 : Int32) q24.2
                else
                  B_X9_doesOrder_213 (M.1 7 9 (cl ((4 : Int32) * x1))) (M.1 7 9 (cl (((4 : Int32) * x1) + (1 : Int32)))) (0 : Int32) q24.2
            else
            if (M.1 7 8 (cl x1)) = (113 : Int32) then
              if (f_X9_within (M.1 7 9 (cl (((4 : Int32) * x1) + (3 : Int32)))) (0 : Int32) (1 : Int32)) = 0 then
                B_X9_doesOrder_127 (M.1 7 9 (cl ((4 : Int32) * x1))) (M.1 7 9 (cl (((4 : Int32) * x1) + (1 : Int32)))) (M.1 7 9 (cl (((4 : Int32) * x1) + (2 : Int32)))) (M.1 7 9 (cl (((4 : Int32) * x1) + (3 : Int32)))) M
              else
                (f_X9_barRequest (M.1 7 9 (cl ((4 : Int32) * x1))) (M.1 7 9 (cl (((4 : Int32) * x1) + (1 : Int32)))) (M.1 7 9 (cl (((4 : Int32) * x1) + (2 : Int32)))) (M.1 7 9 (cl (((4 : Int32) * x1) + (3 : Int32)))) M).bind fun q35 =>
                  if q35 = 0 then
                    B_X9_doesOrder_128 (M.1 7 9 (cl ((4 : Int32) * x1))) (M.1 7 9 (cl (((4 : Int32) * x1) + (1 : Int32)))) (M.1 7 9 (cl (((4 : Int32) * x1) + (2 : Int32)))) (M.1 7 9 (cl (((4 : Int32) * x1) + (3 : Int32)))) (1 : Int32) M
                  else
                    B_X9_doesOrder_127 (M.1 7 9 (cl ((4 : Int32) * x1))) (M.1 7 9 (cl (((4 : Int32) * x1) + (1 : Int32)))) (M.1 7 9 (cl (((4 : Int32) * x1) + (2 : Int32)))) (M.1 7 9 (cl (((4 : Int32) * x1) + (3 : Int32)))) M
            else
            if (f_X9_within (M.1 7 9 (cl ((4 : Int32) * x1))) (0 : Int32) (1000 : Int32)) = 0 then
              some ((0 : Int32), M)
            else
              (f_X9_passes (M.1 7 9 (cl ((4 : Int32) * x1))) M).bind fun q39 =>
                if q39.1 < 0 then
                  some ((0 : Int32), q39.2)
                else
                  some ((1 : Int32), q39.2)
          else none
        else none
      else none
    else none
  else none
def L_X9_carryOut_60 : Nat → Int32 → Mem → Option (Int32 × Mem)
  | 0, _, _ => none
  | n + 1, x1, M =>
    if (3602 : Int32) ≤ x1 then
      (f_X9_saves M).bind fun q6 =>
        (f_X9_takesBack q6).bind fun q7 =>
          some ((q7.1 7 0 11), q7)
    else
      if inb x1 3602 then
        if inb x1 3602 then
          if inb x1 3602 then
            if inb x1 3602 then
              (L_X9_carryOut_60 n) (x1 + 1) (wr (wr M 7 1 (cl x1) (M.1 7 3 (cl x1))) 7 3 (cl x1) (M.1 7 1 (cl x1)))
            else none
          else none
        else none
      else none
def L_X9_carryOut_26 : Nat → Int32 → Mem → Option (Int32 × Mem)
  | 0, _, _ => none
  | n + 1, x1, M =>
    if (M.1 7 0 11) ≤ x1 then
      L_X9_carryOut_60 FU (0 : Int32) M
    else
      (f_X9_doesOrder x1 M).bind fun q12 =>
        if q12.1 = 0 then
          (f_X9_takesBack q12.2).bind fun q14 =>
            some ((((-1000) : Int32) - x1), q14)
        else
          (L_X9_carryOut_26 n) (x1 + 1) q12.2
def f_X9_carryOut (M : Mem) : Option (Int32 × Mem) :=
  (f_X9_reads (wr M 7 0 4 (0 : Int32))).bind fun q1 =>
    if q1.1 = 0 then
      some ((((-10) : Int32) - (q1.2.1 7 0 10)), q1.2)
    else
      (f_X9_laysAside q1.2).bind fun q3 =>
        L_X9_carryOut_26 FU (0 : Int32) q3
def f_X9_puts (x1 : Int32) (M : Mem) : Option Mem :=
  if inb (M.1 7 0 15) 160 then
    some (wr (wr M 7 10 (cl (M.1 7 0 15)) x1) 7 0 15 (((wr M 7 10 (cl (M.1 7 0 15)) x1).1 7 0 15) + (1 : Int32)))
  else none
def B_X9_putsNumber_17 (x1 : Int32) (M : Mem) : Option Mem :=
  (f_X9_puts ((48 : Int32) + (ireM x1 (10 : Int32))) M).bind fun q2 =>
    some q2
def f_X9_putsNumber (x1 : Int32) (M : Mem) : Option Mem :=
  if x1 ≤ (9 : Int32) then
    B_X9_putsNumber_17 x1 M
  else
    (f_X9_puts ((48 : Int32) + (x1 / (10 : Int32))) M).bind fun q3 =>
      B_X9_putsNumber_17 x1 q3
def B_X9_outlines_132 (k26 : Int32 → Mem → Option Mem) (x1 : Int32) (M : Mem) : Option Mem :=
  k26 x1 M
def B_X9_outlines_129 (k26 : Int32 → Mem → Option Mem) (x1 : Int32) (M : Mem) : Option Mem :=
  B_X9_outlines_132 k26 (x1 + ((-1) : Int32)) M
def B_X9_outlines_69 (k26 : Int32 → Mem → Option Mem) (x1 : Int32) (x2 : Int32) (x3 : Int32) (z0 : Int32) (M : Mem) : Option Mem :=
  (f_X9_puts z0 M).bind fun q10 =>
    if inb (x1 - (1 : Int32)) 21 then
      if inb (x1 - (1 : Int32)) 21 then
        (f_X9_childAt x2 x3 (wr q10 7 12 (cl (x1 - (1 : Int32))) ((q10.1 7 12 (cl (x1 - (1 : Int32)))) + (1 : Int32)))).bind fun q13 =>
          if inb x1 21 then
            if inb x1 21 then
              if inb x1 21 then
                (f_X9_putsNumber ((wr (wr (wr q10 7 12 (cl (x1 - (1 : Int32))) ((q10.1 7 12 (cl (x1 - (1 : Int32)))) + (1 : Int32))) 7 11 (cl x1) q13) 7 12 (cl x1) (0 : Int32)).1 7 11 (cl x1)) (wr (wr (wr q10 7 12 (cl (x1 - (1 : Int32))) ((q10.1 7 12 (cl (x1 - (1 : Int32)))) + (1 : Int32))) 7 11 (cl x1) q13) 7 12 (cl x1) (0 : Int32))).bind fun q17 =>
                  B_X9_outlines_132 k26 (x1 + 1) q17
              else none
            else none
          else none
      else none
    else none
def L_X9_outlines_26 : Nat → Int32 → Mem → Option Mem
  | 0, _, _ => none
  | n + 1, x1, M =>
    if x1 ≤ 0 then
      some M
    else
      if inb (x1 - (1 : Int32)) 21 then
        if inb (x1 - (1 : Int32)) 21 then
          (f_X9_childMany (M.1 7 11 (cl (x1 - (1 : Int32)))) M).bind fun q5 =>
            if q5 ≤ (M.1 7 12 (cl (x1 - (1 : Int32)))) then
              if (M.1 7 12 (cl (x1 - (1 : Int32)))) ≤ 0 then
                B_X9_outlines_129 (L_X9_outlines_26 n) x1 M
              else
                (f_X9_puts (41 : Int32) M).bind fun q8 =>
                  B_X9_outlines_129 (L_X9_outlines_26 n) x1 q8
            else
              if (M.1 7 12 (cl (x1 - (1 : Int32)))) = 0 then
                B_X9_outlines_69 (L_X9_outlines_26 n) x1 (M.1 7 11 (cl (x1 - (1 : Int32)))) (M.1 7 12 (cl (x1 - (1 : Int32)))) (40 : Int32) M
              else
                B_X9_outlines_69 (L_X9_outlines_26 n) x1 (M.1 7 11 (cl (x1 - (1 : Int32)))) (M.1 7 12 (cl (x1 - (1 : Int32)))) (44 : Int32) M
        else none
      else none
def f_X9_outlines (M : Mem) : Option Mem :=
  (f_X9_putsNumber (0 : Int32) (wr (wr (wr M 7 0 15 (0 : Int32)) 7 11 (cl (0 : Int32)) (0 : Int32)) 7 12 (cl (0 : Int32)) (0 : Int32))).bind fun q1 =>
    L_X9_outlines_26 FU (1 : Int32) q1
def B_X9_outline_10 (x1 : Int32) (z0 : Int32) (M : Mem) : Option (Int32 × Mem) :=
  (f_X9_refused z0 M).bind fun q2 =>
    if q2.1 = 0 then
      (f_X9_outlines q2.2).bind fun q4 =>
        if (q4.1 7 0 15) ≤ x1 then
          some (((-1) : Int32), q4)
        else
          if inb x1 160 then
            some ((q4.1 7 10 (cl x1)), q4)
          else none
    else
      some ((0 : Int32), q2.2)
def f_X9_outline (x1 : Int32) (M : Mem) : Option (Int32 × Mem) :=
  if 0 ≤ x1 then
    B_X9_outline_10 x1 (0 : Int32) M
  else
    B_X9_outline_10 x1 (1 : Int32) M
def f_X9_mix (x1 : Int32) (M : Mem) : Option Mem :=
  some (wrL M 7 (((31 : Int64) * (M.2 7)) + (x1).toInt64))
def L_X9_mixAll_2 (x1 : Int32) (x2 : Int32) : Nat → Int32 → Mem → Option Mem
  | 0, _, _ => none
  | n + 1, x3, M =>
    if (x1 + x2) ≤ x3 then
      some M
    else
      if inb x3 3602 then
        (f_X9_mix (M.1 7 1 (cl x3)) M).bind fun q3 =>
          (L_X9_mixAll_2 x1 x2 n) (x3 + 1) q3
      else none
def f_X9_mixAll (x1 : Int32) (x2 : Int32) (M : Mem) : Option Mem :=
  L_X9_mixAll_2 x1 x2 FU x1 M
def L_X9_mixSection_42 (x1 : Int32) : Nat → Int32 → Mem → Option Mem
  | 0, _, _ => none
  | n + 1, x2, M =>
    (f_X9_childMany x1 M).bind fun q8 =>
      if q8 ≤ x2 then
        (f_X9_mixAll ((82 : Int32) + ((6 : Int32) * x1)) (6 : Int32) M).bind fun q10 =>
          some q10
      else
        (f_X9_childAt x1 x2 M).bind fun q11 =>
          (f_X9_mix q11 M).bind fun q12 =>
            (L_X9_mixSection_42 x1 n) (x2 + 1) q12
def f_X9_mixSection (x1 : Int32) (M : Mem) : Option Mem :=
  (f_X9_mix x1 M).bind fun q1 =>
    if inb ((22 : Int32) + x1) 3602 then
      (f_X9_mix (q1.1 7 1 (cl ((22 : Int32) + x1))) q1).bind fun q3 =>
        if inb ((62 : Int32) + x1) 3602 then
          (f_X9_mix (q3.1 7 1 (cl ((62 : Int32) + x1))) q3).bind fun q5 =>
            (f_X9_childMany x1 q5).bind fun q6 =>
              (f_X9_mix q6 q5).bind fun q7 =>
                L_X9_mixSection_42 x1 FU (0 : Int32) q7
        else none
    else none
def B_X9_mixCheck_57 (k17 : Int32 → Mem → Option Mem) (x1 : Int32) (x2 : Int32) (M : Mem) : Option Mem :=
  k17 (x2 + 1) M
def L_X9_mixCheck_17 (x1 : Int32) : Nat → Int32 → Mem → Option Mem
  | 0, _, _ => none
  | n + 1, x2, M =>
    if (20 : Int32) ≤ x2 then
      some M
    else
      (f_X9_isSection x2 M).bind fun q5 =>
        if q5 = 0 then
          B_X9_mixCheck_57 (L_X9_mixCheck_17 x1 n) x1 x2 M
        else
          (f_X9_get x1 (2 : Int32) M).bind fun q7 =>
            (f_X9_isIn x2 q7 M).bind fun q8 =>
              if q8 = 0 then
                B_X9_mixCheck_57 (L_X9_mixCheck_17 x1 n) x1 x2 M
              else
                (f_X9_mixAll (f_X9_copy x1 x2 (0 : Int32)) (12 : Int32) M).bind fun q11 =>
                  B_X9_mixCheck_57 (L_X9_mixCheck_17 x1 n) x1 x2 q11
def f_X9_mixCheck (x1 : Int32) (M : Mem) : Option Mem :=
  (f_X9_mix x1 M).bind fun q1 =>
    (f_X9_mixAll (f_X9_check x1 (1 : Int32)) (5 : Int32) q1).bind fun q3 =>
      L_X9_mixCheck_17 x1 FU (0 : Int32) q3
def B_X9_digest_70 (k51 : Int32 → Mem → Option (Int64 × Mem)) (x1 : Int32) (M : Mem) : Option (Int64 × Mem) :=
  k51 (x1 + 1) M
def L_X9_digest_51 : Nat → Int32 → Mem → Option (Int64 × Mem)
  | 0, _, _ => none
  | n + 1, x1, M =>
    if (10 : Int32) ≤ x1 then
      (f_X9_waits M).bind fun q4 =>
        (f_X9_mixAll (2662 : Int32) ((1 : Int32) + ((4 : Int32) * q4)) M).bind fun q5 =>
          (f_X9_mixAll (2695 : Int32) (6 : Int32) q5).bind fun q6 =>
            (f_X9_mixAll (2701 : Int32) ((1 : Int32) + ((6 : Int32) * (q6.1 7 1 (cl (2701 : Int32))))) q6).bind fun q7 =>
              (f_X9_mix (q7.1 7 0 6) q7).bind fun q8 =>
                (f_X9_mix (q8.1 7 0 3) q8).bind fun q9 =>
                  some ((q9.2 7), q9)
    else
      (f_X9_isCheck x1 M).bind fun q10 =>
        if q10 = 0 then
          B_X9_digest_70 (L_X9_digest_51 n) x1 M
        else
          (f_X9_mixCheck x1 M).bind fun q12 =>
            B_X9_digest_70 (L_X9_digest_51 n) x1 q12
def B_X9_digest_43 (k24 : Int32 → Mem → Option (Int64 × Mem)) (x1 : Int32) (M : Mem) : Option (Int64 × Mem) :=
  k24 (x1 + 1) M
def L_X9_digest_24 : Nat → Int32 → Mem → Option (Int64 × Mem)
  | 0, _, _ => none
  | n + 1, x1, M =>
    if (20 : Int32) ≤ x1 then
      L_X9_digest_51 FU (0 : Int32) M
    else
      (f_X9_isSection x1 M).bind fun q13 =>
        if q13 = 0 then
          B_X9_digest_43 (L_X9_digest_24 n) x1 M
        else
          (f_X9_mixSection x1 M).bind fun q15 =>
            B_X9_digest_43 (L_X9_digest_24 n) x1 q15
def f_X9_digest (M : Mem) : Option (Int64 × Mem) :=
  (f_X9_mix ((wrL (wr M 7 0 4 (0 : Int32)) 7 (2857 : Int64)).1 7 1 (cl (0 : Int32))) (wrL (wr M 7 0 4 (0 : Int32)) 7 (2857 : Int64))).bind fun q1 =>
    L_X9_digest_24 FU (0 : Int32) q1

