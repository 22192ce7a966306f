/-! ===== the printed functions of the methods that throw, and of the law's own ===== -/
def B_X4_putSection_51 (g : Nat) (kr : Int32 → Int32 → Mem → Option Mem) (k33 : Int32 → Mem → Option Mem) (x2 : Int32) (x3 : Int32) (x4 : Int32) (x5 : Int32) (M : Mem) : Option Mem :=
  (f_X7_childAt g x2 x5 M).bind fun q9 =>
    (kr q9 (x3 + (1 : Int32)) M).bind fun q10 =>
      k33 (x5 + 1) q10
def L_X4_putSection_33 (g : Nat) (kr : Int32 → Int32 → Mem → Option Mem) (x2 : Int32) (x3 : Int32) (x4 : Int32) : Nat → Int32 → Mem → Option Mem
  | 0, _, _ => none
  | n + 1, x5, M =>
    if x4 ≤ x5 then
      (f_X4_put (41 : Int32) M).bind fun q7 =>
        some q7
    else
      if x5 ≤ 0 then
        B_X4_putSection_51 g kr (L_X4_putSection_33 g kr x2 x3 x4 n) x2 x3 x4 x5 M
      else
        (f_X4_put (44 : Int32) M).bind fun q11 =>
          B_X4_putSection_51 g kr (L_X4_putSection_33 g kr x2 x3 x4 n) x2 x3 x4 x5 q11
def f_X4_putSection (g : Nat) : Nat → Int32 → Int32 → Mem → Option Mem
  | 0, _, _, _ => none
  | n + 1, x2, x3, M =>
    (f_X4_putNumber x2 M).bind fun q1 =>
      (f_X7_childrenOf g x2 q1).bind fun q2 =>
        if q2 = 0 then
          some q1
        else
          if x3 < (20 : Int32) then
            (f_X4_put (40 : Int32) q1).bind fun q5 =>
              L_X4_putSection_33 g (f_X4_putSection g n) x2 x3 q2 FU (0 : Int32) q5
          else
            some q1
def f_X8_addSection (x1 : Int32) (M : Mem) : Option (Nat × Int32 × Mem) :=
  (f_X1_addFault 0 x1 M).bind fun q1 =>
    if fk q1 = 0 then
      (f_X6_push 0 M).bind fun q3 =>
        (f_X7_add 0 x1 q3).bind fun q4 =>
          some (0, q4.1, q4.2)
    else some (fk q1, 0, M)
def f_X8_removeSection (x1 : Int32) (M : Mem) : Option (Nat × Int32 × Mem) :=
  (f_X1_removeFault 0 x1 M).bind fun q1 =>
    if fk q1 = 0 then
      (f_X6_push 0 M).bind fun q3 =>
        (f_X1_removeNow 0 x1 q3).bind fun q4 =>
          some (0, q4.1, q4.2)
    else some (fk q1, 0, M)
def f_X8_moveSection (x1 : Int32) (x2 : Int32) (M : Mem) : Option (Nat × Int32 × Mem) :=
  (f_X1_moveFault 0 x1 x2 M).bind fun q1 =>
    if fk q1 = 0 then
      (f_X6_push 0 M).bind fun q3 =>
        (f_X7_move 0 x1 x2 q3).bind fun q4 =>
          (f_X7_depthOf 0 x1 q4).bind fun q5 =>
            some (0, q5, q4)
    else some (fk q1, 0, M)
def f_X8_section (x1 : Int32) (x2 : Int32) (M : Mem) : Option (Nat × Int32 × Mem) :=
  (f_X7_has 0 x1 M).bind fun q1 =>
    if fk (f_X8_faultOf q1 (f_X8_isWithin x2 (0 : Int32) (4 : Int32)) (1 : Int32)) = 0 then
      if x2 = (0 : Int32) then
        (f_X7_parentOf 0 x1 M).bind fun q6 =>
          some (0, q6, M)
      else
      if x2 = (1 : Int32) then
        (f_X7_childrenOf 0 x1 M).bind fun q8 =>
          some (0, q8, M)
      else
      if x2 = (2 : Int32) then
        (f_X7_depthOf 0 x1 M).bind fun q10 =>
          some (0, q10, M)
      else
      if x2 = (3 : Int32) then
        (f_X7_versionOf 0 x1 M).bind fun q12 =>
          some (0, q12, M)
      else
      (f_X7_subtreeOf 0 x1 M).bind fun q13 =>
        some (0, ((f_J6_bitCount_0f7a4 q13) - (1 : Int32)), M)
    else some (fk (f_X8_faultOf q1 (f_X8_isWithin x2 (0 : Int32) (4 : Int32)) (1 : Int32)), 0, M)
def B_X8_child_23 (x3 : Int32) (z0 : Int32) (M : Mem) : Option (Nat × Int32 × Mem) :=
  if fk (f_X8_faultOf z0 (1 : Int32) (1 : Int32)) = 0 then
    some (0, x3, M)
  else some (fk (f_X8_faultOf z0 (1 : Int32) (1 : Int32)), 0, M)
def f_X8_child (x1 : Int32) (x2 : Int32) (M : Mem) : Option (Nat × Int32 × Mem) :=
  (f_X7_childAt 0 x1 x2 M).bind fun q1 =>
    if q1 = ((-1) : Int32) then
      B_X8_child_23 q1 (0 : Int32) M
    else
      B_X8_child_23 q1 (1 : Int32) M
def f_X8_line (x1 : Int32) (x2 : Int32) (M : Mem) : Option (Nat × Int32 × Mem) :=
  (f_X1_hasLine 0 x1 x2 M).bind fun q1 =>
    if fk (f_X8_faultOf q1 (1 : Int32) (1 : Int32)) = 0 then
      (f_X7_valueAt 0 (f_X8_cellOf x1 x2) M).bind fun q5 =>
        some (0, q5, M)
    else some (fk (f_X8_faultOf q1 (1 : Int32) (1 : Int32)), 0, M)
def f_X8_write (x1 : Int32) (x2 : Int32) (x3 : Int32) (M : Mem) : Option (Nat × Int32 × Mem) :=
  (f_X1_writeFault 0 x1 x2 x3 M).bind fun q1 =>
    if fk q1 = 0 then
      (f_X6_push 0 M).bind fun q3 =>
        (f_X1_writeNow 0 x1 x2 x3 q3).bind fun q4 =>
          some (0, q4.1, q4.2)
    else some (fk q1, 0, M)
def f_X8_request (x1 : Int32) (x2 : Int32) (x3 : Int32) (x4 : Int32) (M : Mem) : Option (Nat × Int32 × Mem) :=
  (f_X1_requestFault 0 x1 x2 x3 x4 M).bind fun q1 =>
    if fk q1 = 0 then
      (f_X6_push 0 M).bind fun q3 =>
        (f_X1_requestNow 0 x1 x2 x3 x4 q3).bind fun q4 =>
          some (0, q4.1, q4.2)
    else some (fk q1, 0, M)
def f_X8_cancel (x1 : Int32) (M : Mem) : Option (Nat × Int32 × Mem) :=
  (f_X1_waitingFault 0 x1 M).bind fun q1 =>
    if fk q1 = 0 then
      (f_X6_push 0 M).bind fun q3 =>
        (f_X1_cancelNow 0 x1 q3).bind fun q4 =>
          some (0, q4.1, q4.2)
    else some (fk q1, 0, M)
def f_X8_renew (x1 : Int32) (x2 : Int32) (M : Mem) : Option (Nat × Int32 × Mem) :=
  (f_X1_renewFault 0 x1 x2 M).bind fun q1 =>
    if fk q1 = 0 then
      (f_X6_push 0 M).bind fun q3 =>
        (f_X1_renewNow 0 x1 x2 q3).bind fun q4 =>
          some (0, q4.1, q4.2)
    else some (fk q1, 0, M)
def f_X8_breakUp (x1 : Int32) (M : Mem) : Option (Nat × Int32 × Mem) :=
  (f_X1_breakFault 0 x1 M).bind fun q1 =>
    if fk q1 = 0 then
      (f_X6_push 0 M).bind fun q3 =>
        (f_X1_breakNow 0 x1 q3).bind fun q4 =>
          some (0, q4.1, q4.2)
    else some (fk q1, 0, M)
def f_X8_discard (x1 : Int32) (M : Mem) : Option (Nat × Int32 × Mem) :=
  if fk (f_X1_checkOutFault 0 x1 M) = 0 then
    (f_X6_push 0 M).bind fun q3 =>
      (f_X1_discardNow 0 x1 q3).bind fun q4 =>
        some (0, q4.1, q4.2)
  else some (fk (f_X1_checkOutFault 0 x1 M), 0, M)
def f_X8_edit (x1 : Int32) (x2 : Int32) (x3 : Int32) (x4 : Int32) (M : Mem) : Option (Nat × Int32 × Mem) :=
  (f_X1_editFault 0 x1 x2 x3 x4 M).bind fun q1 =>
    if fk q1 = 0 then
      (f_X6_push 0 M).bind fun q3 =>
        (f_X1_editNow 0 x1 x2 x3 x4 q3).bind fun q4 =>
          some (0, q4.1, q4.2)
    else some (fk q1, 0, M)
def f_X8_copied (x1 : Int32) (x2 : Int32) (x3 : Int32) (x4 : Int32) (M : Mem) : Option (Nat × Int32 × Mem) :=
  (f_X1_hasCopy 0 x1 x2 x3 M).bind fun q1 =>
    if fk (f_X8_faultOf q1 (1 : Int32) (1 : Int32)) = 0 then
      if x4 = 0 then
        (f_X0_ownAt 0 x1 (f_X8_cellOf x2 x3) M).bind fun q6 =>
          some (0, q6, M)
      else
        (f_X0_baseAt 0 x1 (f_X8_cellOf x2 x3) M).bind fun q7 =>
          some (0, q7, M)
    else some (fk (f_X8_faultOf q1 (1 : Int32) (1 : Int32)), 0, M)
def f_X8_conflicts (x1 : Int32) (M : Mem) : Option (Nat × Int32 × Mem) :=
  if fk (f_X1_checkOutFault 0 x1 M) = 0 then
    (f_X1_countConflicts 0 x1 M).bind fun q3 =>
      some (0, q3, M)
  else some (fk (f_X1_checkOutFault 0 x1 M), 0, M)
def f_X8_giveBack (x1 : Int32) (x2 : Int32) (M : Mem) : Option (Nat × Int32 × Mem) :=
  (f_X1_giveBackFault 0 x1 x2 M).bind fun q1 =>
    if fk q1 = 0 then
      (f_X6_push 0 M).bind fun q3 =>
        (f_X1_giveBackNow 0 x1 x2 q3).bind fun q4 =>
          some (0, q4.1, q4.2)
    else some (fk q1, 0, M)
def f_X8_checkOut (x1 : Int32) (x2 : Int32) (M : Mem) : Option (Nat × Int32 × Mem) :=
  if fk (f_X8_faultOf (f_X0_has 0 x1 M) (f_X8_isWithin x2 (0 : Int32) (5 : Int32)) (1 : Int32)) = 0 then
    if (5 : Int32) ≤ x2 then
      (f_X1_countEdited 0 x1 M).bind fun q6 =>
        some (0, q6, M)
    else
      (f_X0_fact 0 x1 x2 M).bind fun q7 =>
        some (0, q7, M)
  else some (fk (f_X8_faultOf (f_X0_has 0 x1 M) (f_X8_isWithin x2 (0 : Int32) (5 : Int32)) (1 : Int32)), 0, M)
def f_X8_holders (x1 : Int32) (M : Mem) : Option (Nat × Int32 × Mem) :=
  (f_X7_has 0 x1 M).bind fun q1 =>
    if fk (f_X8_faultOf q1 (1 : Int32) (1 : Int32)) = 0 then
      (f_X1_holdersOf 0 x1 M).bind fun q4 =>
        some (0, q4, M)
    else some (fk (f_X8_faultOf q1 (1 : Int32) (1 : Int32)), 0, M)
def f_X8_ifBroken (x1 : Int32) (M : Mem) : Option (Nat × Int32 × Mem) :=
  if fk (f_X1_checkOutFault 0 x1 M) = 0 then
    (f_X0_isHeld 0 x1 M).bind fun q3 =>
      if q3 = 0 then
        some (0, (0 : Int32), M)
      else
        (f_X1_copyFrom 1 0 M).bind fun q5 =>
          (f_X0_lose 1 x1 q5).bind fun q6 =>
            (f_X1_serve 1 q6).bind fun q7 =>
              some (0, q7.1, q7.2)
  else some (fk (f_X1_checkOutFault 0 x1 M), 0, M)
def f_X8_grantedAt (x1 : Int32) (M : Mem) : Option (Nat × Int32 × Mem) :=
  (f_X1_waitingFault 0 x1 M).bind fun q1 =>
    if fk q1 = 0 then
      (f_X1_copyFrom 1 0 M).bind fun q3 =>
        (f_X1_passTicks 1 (2000 : Int32) x1 q3).bind fun q4 =>
          (f_X5_placeOf 1 x1 q4).bind fun q5 =>
            if q5 = ((-1) : Int32) then
              some (0, (q4.1 1 0 6), q4)
            else
              some (0, ((-1) : Int32), q4)
    else some (fk q1, 0, M)
def f_X8_waitsFor (x1 : Int32) (M : Mem) : Option (Nat × Int32 × Mem) :=
  (f_X1_waitingFault 0 x1 M).bind fun q1 =>
    if fk q1 = 0 then
      (f_X5_placeOf 0 x1 M).bind fun q3 =>
        (f_X1_usersBefore 0 q3 M).bind fun q4 =>
          some (0, q4, M)
    else some (fk q1, 0, M)
def f_X8_entry (x1 : Int32) (x2 : Int32) (M : Mem) : Option (Nat × Int32 × Mem) :=
  if fk (f_X8_faultOf (f_X8_isWithin x1 (0 : Int32) ((M.1 0 14 2) - (1 : Int32))) (f_X8_isWithin x2 (0 : Int32) (5 : Int32)) (1 : Int32)) = 0 then
    (f_X2_fact 0 x1 x2 M).bind fun q5 =>
      some (0, q5, M)
  else some (fk (f_X8_faultOf (f_X8_isWithin x1 (0 : Int32) ((M.1 0 14 2) - (1 : Int32))) (f_X8_isWithin x2 (0 : Int32) (5 : Int32)) (1 : Int32)), 0, M)
def f_X8_blame (x1 : Int32) (x2 : Int32) (M : Mem) : Option (Nat × Int32 × Mem) :=
  (f_X1_hasLine 0 x1 x2 M).bind fun q1 =>
    if fk (f_X8_faultOf q1 (1 : Int32) (1 : Int32)) = 0 then
      (f_X2_latestUserOf 0 x1 x2 M).bind fun q4 =>
        some (0, q4, M)
    else some (fk (f_X8_faultOf q1 (1 : Int32) (1 : Int32)), 0, M)
def f_X8_lineAt (x1 : Int32) (x2 : Int32) (x3 : Int32) (M : Mem) : Option (Nat × Int32 × Mem) :=
  (f_X1_hasLine 0 x1 x2 M).bind fun q1 =>
    if fk (f_X8_faultOf q1 (f_X8_isWithin x3 (0 : Int32) (M.1 0 0 6)) (1 : Int32)) = 0 then
      (f_X1_valueAtEndOf 0 x3 (f_X8_cellOf x1 x2) M).bind fun q6 =>
        some (0, q6.1, q6.2)
    else some (fk (f_X8_faultOf q1 (f_X8_isWithin x3 (0 : Int32) (M.1 0 0 6)) (1 : Int32)), 0, M)
def f_X8_revert (x1 : Int32) (x2 : Int32) (M : Mem) : Option (Nat × Int32 × Mem) :=
  (f_X1_revertFault 0 x1 x2 M).bind fun q1 =>
    if fk q1 = 0 then
      (f_X6_push 0 M).bind fun q3 =>
        (f_X1_revertNow 0 x1 x2 q3).bind fun q4 =>
          some (0, q4.1, q4.2)
    else some (fk q1, 0, M)
def f_X8_waitingAt (x1 : Int32) (x2 : Int32) (M : Mem) : Option (Nat × Int32 × Mem) :=
  if fk (f_X8_faultOf (f_X8_isWithin x1 (0 : Int32) ((M.1 0 12 1) - (1 : Int32))) (f_X8_isWithin x2 (0 : Int32) (3 : Int32)) (1 : Int32)) = 0 then
    (f_X5_fact 0 x1 x2 M).bind fun q5 =>
      some (0, q5, M)
  else some (fk (f_X8_faultOf (f_X8_isWithin x1 (0 : Int32) ((M.1 0 12 1) - (1 : Int32))) (f_X8_isWithin x2 (0 : Int32) (3 : Int32)) (1 : Int32)), 0, M)
def f_X8_pass (x1 : Int32) (M : Mem) : Option (Nat × Int32 × Mem) :=
  if fk (f_X1_passFault 0 x1) = 0 then
    (f_X6_push 0 M).bind fun q3 =>
      (f_X1_passTicks 0 x1 ((-1) : Int32) q3).bind fun q4 =>
        some (0, (q4.1 0 0 6), q4)
  else some (fk (f_X1_passFault 0 x1), 0, M)
def f_X8_useBits (x1 : Int32) (M : Mem) : Option (Nat × Int32 × Mem) :=
  if fk (f_X8_faultOf (f_X8_isUser x1) (1 : Int32) (1 : Int32)) = 0 then
    if (M.1 0 0 6) = 0 then
      some (0, (0 : Int32), M)
    else
      (f_X1_heldTicksOf 0 x1 M).bind fun q5 =>
        if nn (FP.fdiv (FP.i2f q5) (FP.i2f (M.1 0 0 6))) then
          (f_X8_floatBits (FP.fdiv (FP.i2f q5) (FP.i2f (M.1 0 0 6)))).bind fun q7 =>
            some (0, q7, M)
        else none
  else some (fk (f_X8_faultOf (f_X8_isUser x1) (1 : Int32) (1 : Int32)), 0, M)
def B_X8_append_25 (x1 : Int32) (z0 : Int32) (z1 : Int32) (z2 : Int32) (M : Mem) : Option (Nat × Int32 × Mem) :=
  if fk (f_X8_faultOf z2 z1 z0) = 0 then
    (f_X3_put x1 M).bind fun q5 =>
      some (0, q5.1, q5.2)
  else some (fk (f_X8_faultOf z2 z1 z0), 0, M)
def f_X8_append (x1 : Int32) (M : Mem) : Option (Nat × Int32 × Mem) :=
  if (120 : Int32) ≤ (M.1 6 3 1) then
    B_X8_append_25 x1 (0 : Int32) (f_X8_isWithin x1 (0 : Int32) (127 : Int32)) (1 : Int32) M
  else
    B_X8_append_25 x1 (1 : Int32) (f_X8_isWithin x1 (0 : Int32) (127 : Int32)) (1 : Int32) M
def B_X8_outline_10 (x1 : Int32) (z0 : Int32) (z1 : Int32) (M : Mem) : Option (Nat × Int32 × Mem) :=
  if fk (f_X8_faultOf z1 z0 (1 : Int32)) = 0 then
    (f_X4_putSection 0 21 (0 : Int32) (0 : Int32) (wr M 6 7 1 (0 : Int32))).bind fun q4 =>
      (f_X4_byteAt x1 q4).bind fun q5 =>
        some (0, q5, q4)
  else some (fk (f_X8_faultOf z1 z0 (1 : Int32)), 0, M)
def f_X8_outline (x1 : Int32) (M : Mem) : Option (Nat × Int32 × Mem) :=
  if x1 < 0 then
    B_X8_outline_10 x1 (0 : Int32) (1 : Int32) M
  else
    B_X8_outline_10 x1 (1 : Int32) (1 : Int32) M
def B_X8_undo_17 (z0 : Int32) (z1 : Int32) (z2 : Int32) (M : Mem) : Option (Nat × Int32 × Mem) :=
  if fk (f_X8_faultOf z2 z1 z0) = 0 then
    (f_X6_pop 0 M).bind fun q4 =>
      some (0, (q4.1 6 1 1), q4)
  else some (fk (f_X8_faultOf z2 z1 z0), 0, M)
def f_X8_undo (M : Mem) : Option (Nat × Int32 × Mem) :=
  if (M.1 6 1 1) ≤ 0 then
    B_X8_undo_17 (0 : Int32) (1 : Int32) (1 : Int32) M
  else
    B_X8_undo_17 (1 : Int32) (1 : Int32) (1 : Int32) M
def f_L_addSection (x1 : Int32) (M : Mem) : Option (Int32 × Mem) :=
  (f_X8_addSection x1 M).bind fun q1 =>
    if q1.1 = 0 then
      some (q1.2.1, q1.2.2)
    else if q1.1 = 1 then
      some (((-53) : Int32), q1.2.2)
    else if q1.1 = 3 then
      some (((-52) : Int32), q1.2.2)
    else none
def f_L_removeSection (x1 : Int32) (M : Mem) : Option (Int32 × Mem) :=
  (f_X8_removeSection x1 M).bind fun q1 =>
    if q1.1 = 0 then
      some (q1.2.1, q1.2.2)
    else if q1.1 = 1 then
      some (((-53) : Int32), q1.2.2)
    else if q1.1 = 2 then
      some (((-51) : Int32), q1.2.2)
    else if q1.1 = 3 then
      some (((-52) : Int32), q1.2.2)
    else none
def f_L_moveSection (x1 : Int32) (x2 : Int32) (M : Mem) : Option (Int32 × Mem) :=
  (f_X8_moveSection x1 x2 M).bind fun q1 =>
    if q1.1 = 0 then
      some (q1.2.1, q1.2.2)
    else if q1.1 = 1 then
      some (((-53) : Int32), q1.2.2)
    else if q1.1 = 2 then
      some (((-51) : Int32), q1.2.2)
    else if q1.1 = 3 then
      some (((-52) : Int32), q1.2.2)
    else none
def f_L_section (x1 : Int32) (x2 : Int32) (M : Mem) : Option (Int32 × Mem) :=
  (f_X8_section x1 x2 M).bind fun q1 =>
    if q1.1 = 0 then
      some (q1.2.1, q1.2.2)
    else if q1.1 = 1 then
      some (((-53) : Int32), q1.2.2)
    else if q1.1 = 2 then
      some (((-51) : Int32), q1.2.2)
    else none
def f_L_child (x1 : Int32) (x2 : Int32) (M : Mem) : Option (Int32 × Mem) :=
  (f_X8_child x1 x2 M).bind fun q1 =>
    if q1.1 = 0 then
      some (q1.2.1, q1.2.2)
    else if q1.1 = 1 then
      some (((-53) : Int32), q1.2.2)
    else none
def f_L_line (x1 : Int32) (x2 : Int32) (M : Mem) : Option (Int32 × Mem) :=
  (f_X8_line x1 x2 M).bind fun q1 =>
    if q1.1 = 0 then
      some (q1.2.1, q1.2.2)
    else if q1.1 = 1 then
      some (((-53) : Int32), q1.2.2)
    else none
def f_L_write (x1 : Int32) (x2 : Int32) (x3 : Int32) (M : Mem) : Option (Int32 × Mem) :=
  (f_X8_write x1 x2 x3 M).bind fun q1 =>
    if q1.1 = 0 then
      some (q1.2.1, q1.2.2)
    else if q1.1 = 1 then
      some (((-53) : Int32), q1.2.2)
    else if q1.1 = 2 then
      some (((-51) : Int32), q1.2.2)
    else if q1.1 = 3 then
      some (((-52) : Int32), q1.2.2)
    else none
def f_L_request (x1 : Int32) (x2 : Int32) (x3 : Int32) (x4 : Int32) (M : Mem) : Option (Int32 × Mem) :=
  (f_X8_request x1 x2 x3 x4 M).bind fun q1 =>
    if q1.1 = 0 then
      some (q1.2.1, q1.2.2)
    else if q1.1 = 1 then
      some (((-53) : Int32), q1.2.2)
    else if q1.1 = 2 then
      some (((-51) : Int32), q1.2.2)
    else if q1.1 = 3 then
      some (((-52) : Int32), q1.2.2)
    else none
def f_L_cancel (x1 : Int32) (M : Mem) : Option (Int32 × Mem) :=
  (f_X8_cancel x1 M).bind fun q1 =>
    if q1.1 = 0 then
      some (q1.2.1, q1.2.2)
    else if q1.1 = 1 then
      some (((-53) : Int32), q1.2.2)
    else if q1.1 = 3 then
      some (((-52) : Int32), q1.2.2)
    else none
def f_L_renew (x1 : Int32) (x2 : Int32) (M : Mem) : Option (Int32 × Mem) :=
  (f_X8_renew x1 x2 M).bind fun q1 =>
    if q1.1 = 0 then
      some (q1.2.1, q1.2.2)
    else if q1.1 = 1 then
      some (((-53) : Int32), q1.2.2)
    else if q1.1 = 2 then
      some (((-51) : Int32), q1.2.2)
    else if q1.1 = 3 then
      some (((-52) : Int32), q1.2.2)
    else none
def f_L_breakUp (x1 : Int32) (M : Mem) : Option (Int32 × Mem) :=
  (f_X8_breakUp x1 M).bind fun q1 =>
    if q1.1 = 0 then
      some (q1.2.1, q1.2.2)
    else if q1.1 = 1 then
      some (((-53) : Int32), q1.2.2)
    else if q1.1 = 3 then
      some (((-52) : Int32), q1.2.2)
    else none
def f_L_discard (x1 : Int32) (M : Mem) : Option (Int32 × Mem) :=
  (f_X8_discard x1 M).bind fun q1 =>
    if q1.1 = 0 then
      some (q1.2.1, q1.2.2)
    else if q1.1 = 1 then
      some (((-53) : Int32), q1.2.2)
    else none
def f_L_edit (x1 : Int32) (x2 : Int32) (x3 : Int32) (x4 : Int32) (M : Mem) : Option (Int32 × Mem) :=
  (f_X8_edit x1 x2 x3 x4 M).bind fun q1 =>
    if q1.1 = 0 then
      some (q1.2.1, q1.2.2)
    else if q1.1 = 1 then
      some (((-53) : Int32), q1.2.2)
    else if q1.1 = 2 then
      some (((-51) : Int32), q1.2.2)
    else if q1.1 = 3 then
      some (((-52) : Int32), q1.2.2)
    else none
def f_L_copied (x1 : Int32) (x2 : Int32) (x3 : Int32) (x4 : Int32) (M : Mem) : Option (Int32 × Mem) :=
  (f_X8_copied x1 x2 x3 x4 M).bind fun q1 =>
    if q1.1 = 0 then
      some (q1.2.1, q1.2.2)
    else if q1.1 = 1 then
      some (((-53) : Int32), q1.2.2)
    else none
def f_L_conflicts (x1 : Int32) (M : Mem) : Option (Int32 × Mem) :=
  (f_X8_conflicts x1 M).bind fun q1 =>
    if q1.1 = 0 then
      some (q1.2.1, q1.2.2)
    else if q1.1 = 1 then
      some (((-53) : Int32), q1.2.2)
    else none
def f_L_giveBack (x1 : Int32) (x2 : Int32) (M : Mem) : Option (Int32 × Mem) :=
  (f_X8_giveBack x1 x2 M).bind fun q1 =>
    if q1.1 = 0 then
      some (q1.2.1, q1.2.2)
    else if q1.1 = 1 then
      some (((-53) : Int32), q1.2.2)
    else if q1.1 = 2 then
      some (((-51) : Int32), q1.2.2)
    else if q1.1 = 3 then
      some (((-52) : Int32), q1.2.2)
    else none
def f_L_checkOut (x1 : Int32) (x2 : Int32) (M : Mem) : Option (Int32 × Mem) :=
  (f_X8_checkOut x1 x2 M).bind fun q1 =>
    if q1.1 = 0 then
      some (q1.2.1, q1.2.2)
    else if q1.1 = 1 then
      some (((-53) : Int32), q1.2.2)
    else if q1.1 = 2 then
      some (((-51) : Int32), q1.2.2)
    else none
def f_L_holders (x1 : Int32) (M : Mem) : Option (Int32 × Mem) :=
  (f_X8_holders x1 M).bind fun q1 =>
    if q1.1 = 0 then
      some (q1.2.1, q1.2.2)
    else if q1.1 = 1 then
      some (((-53) : Int32), q1.2.2)
    else none
def f_L_ifBroken (x1 : Int32) (M : Mem) : Option (Int32 × Mem) :=
  (f_X8_ifBroken x1 M).bind fun q1 =>
    if q1.1 = 0 then
      some (q1.2.1, q1.2.2)
    else if q1.1 = 1 then
      some (((-53) : Int32), q1.2.2)
    else none
def f_L_grantedAt (x1 : Int32) (M : Mem) : Option (Int32 × Mem) :=
  (f_X8_grantedAt x1 M).bind fun q1 =>
    if q1.1 = 0 then
      some (q1.2.1, q1.2.2)
    else if q1.1 = 1 then
      some (((-53) : Int32), q1.2.2)
    else if q1.1 = 3 then
      some (((-52) : Int32), q1.2.2)
    else none
def f_L_waitsFor (x1 : Int32) (M : Mem) : Option (Int32 × Mem) :=
  (f_X8_waitsFor x1 M).bind fun q1 =>
    if q1.1 = 0 then
      some (q1.2.1, q1.2.2)
    else if q1.1 = 1 then
      some (((-53) : Int32), q1.2.2)
    else if q1.1 = 3 then
      some (((-52) : Int32), q1.2.2)
    else none
def f_L_entry (x1 : Int32) (x2 : Int32) (M : Mem) : Option (Int32 × Mem) :=
  (f_X8_entry x1 x2 M).bind fun q1 =>
    if q1.1 = 0 then
      some (q1.2.1, q1.2.2)
    else if q1.1 = 1 then
      some (((-53) : Int32), q1.2.2)
    else if q1.1 = 2 then
      some (((-51) : Int32), q1.2.2)
    else none
def f_L_blame (x1 : Int32) (x2 : Int32) (M : Mem) : Option (Int32 × Mem) :=
  (f_X8_blame x1 x2 M).bind fun q1 =>
    if q1.1 = 0 then
      some (q1.2.1, q1.2.2)
    else if q1.1 = 1 then
      some (((-53) : Int32), q1.2.2)
    else none
def f_L_lineAt (x1 : Int32) (x2 : Int32) (x3 : Int32) (M : Mem) : Option (Int32 × Mem) :=
  (f_X8_lineAt x1 x2 x3 M).bind fun q1 =>
    if q1.1 = 0 then
      some (q1.2.1, q1.2.2)
    else if q1.1 = 1 then
      some (((-53) : Int32), q1.2.2)
    else if q1.1 = 2 then
      some (((-51) : Int32), q1.2.2)
    else none
def f_L_revert (x1 : Int32) (x2 : Int32) (M : Mem) : Option (Int32 × Mem) :=
  (f_X8_revert x1 x2 M).bind fun q1 =>
    if q1.1 = 0 then
      some (q1.2.1, q1.2.2)
    else if q1.1 = 1 then
      some (((-53) : Int32), q1.2.2)
    else if q1.1 = 2 then
      some (((-51) : Int32), q1.2.2)
    else if q1.1 = 3 then
      some (((-52) : Int32), q1.2.2)
    else none
def f_L_waitingAt (x1 : Int32) (x2 : Int32) (M : Mem) : Option (Int32 × Mem) :=
  (f_X8_waitingAt x1 x2 M).bind fun q1 =>
    if q1.1 = 0 then
      some (q1.2.1, q1.2.2)
    else if q1.1 = 1 then
      some (((-53) : Int32), q1.2.2)
    else if q1.1 = 2 then
      some (((-51) : Int32), q1.2.2)
    else none
def f_L_pass (x1 : Int32) (M : Mem) : Option (Int32 × Mem) :=
  (f_X8_pass x1 M).bind fun q1 =>
    if q1.1 = 0 then
      some (q1.2.1, q1.2.2)
    else if q1.1 = 2 then
      some (((-51) : Int32), q1.2.2)
    else none
def f_L_useBits (x1 : Int32) (M : Mem) : Option (Int32 × Mem) :=
  (f_X8_useBits x1 M).bind fun q1 =>
    if q1.1 = 0 then
      some (q1.2.1, q1.2.2)
    else if q1.1 = 1 then
      some (((-53) : Int32), q1.2.2)
    else none
def f_L_append (x1 : Int32) (M : Mem) : Option (Int32 × Mem) :=
  (f_X8_append x1 M).bind fun q1 =>
    if q1.1 = 0 then
      some (q1.2.1, q1.2.2)
    else if q1.1 = 2 then
      some (((-51) : Int32), q1.2.2)
    else if q1.1 = 3 then
      some (((-52) : Int32), q1.2.2)
    else none
def f_L_outline (x1 : Int32) (M : Mem) : Option (Int32 × Mem) :=
  (f_X8_outline x1 M).bind fun q1 =>
    if q1.1 = 0 then
      some (q1.2.1, q1.2.2)
    else if q1.1 = 2 then
      some (((-51) : Int32), q1.2.2)
    else none
def f_L_undo (M : Mem) : Option (Int32 × Mem) :=
  (f_X8_undo M).bind fun q1 =>
    if q1.1 = 0 then
      some (q1.2.1, q1.2.2)
    else if q1.1 = 3 then
      some (((-52) : Int32), q1.2.2)
    else none
