/-! ===== the printed functions of the law's own methods ===== -/
def f0_X8_refuseFor (x : Int32) (M : Mem) : Option Mem := if fk x = 0 then some M else none
def f0_X8_entry (x1 : Int32) (x2 : Int32) (M : Mem) : Option (Int32 × Mem) :=
  (f0_X8_refuseFor (f_X8_faultOf (f_X8_isWithin x1 (0 : Int32) ((M.1 0 14 2) - (1 : Int32))) (f_X8_isWithin x2 (0 : Int32) (5 : Int32)) (1 : Int32)) M).bind fun q4 =>
    (f_X2_fact 0 x1 x2 q4).bind fun q5 =>
      some (q5, q4)
def f0_X8_line (x1 : Int32) (x2 : Int32) (M : Mem) : Option (Int32 × Mem) :=
  (f_X1_hasLine 0 x1 x2 M).bind fun q1 =>
    (f0_X8_refuseFor (f_X8_faultOf q1 (1 : Int32) (1 : Int32)) M).bind fun q3 =>
      (f_X7_valueAt 0 (f_X8_cellOf x1 x2) q3).bind fun q5 =>
        some (q5, q3)
def f0_X8_blame (x1 : Int32) (x2 : Int32) (M : Mem) : Option (Int32 × Mem) :=
  (f_X1_hasLine 0 x1 x2 M).bind fun q1 =>
    (f0_X8_refuseFor (f_X8_faultOf q1 (1 : Int32) (1 : Int32)) M).bind fun q3 =>
      (f_X2_latestUserOf 0 x1 x2 q3).bind fun q4 =>
        some (q4, q3)
def f0_L_entry (x1 : Int32) (x2 : Int32) (M : Mem) : Option (Int32 × Mem) :=
  (f0_X8_entry x1 x2 M).bind fun q1 =>
    some (q1.1, q1.2)
def f0_L_line (x1 : Int32) (x2 : Int32) (M : Mem) : Option (Int32 × Mem) :=
  (f0_X8_line x1 x2 M).bind fun q1 =>
    some (q1.1, q1.2)
def f0_L_blame (x1 : Int32) (x2 : Int32) (M : Mem) : Option (Int32 × Mem) :=
  (f0_X8_blame x1 x2 M).bind fun q1 =>
    some (q1.1, q1.2)
def f_L_low (x0 : Int32) (x1 : Int32) : Option Int32 :=
  if ¬ x1 = 0 then
    some (ireM (x0 &&& (2147483647 : Int32)) x1)
  else none
def L_L_print_281 : Nat → Int64 → Int32 → Mem → Option (Int64 × Mem)
  | 0, _, _, _ => none
  | n + 1, x1, x3, M =>
    if (6 : Int32) ≤ x3 then
      some (x1, M)
    else
      (f_L_useBits x3 M).bind fun q8 =>
        (L_L_print_281 n) (((31 : Int64) * x1) + (q8.1).toInt64) (x3 + 1) q8.2
def L_L_print_229 : Nat → Int64 → Int32 → Mem → Option (Int64 × Mem)
  | 0, _, _, _ => none
  | n + 1, x1, x3, M =>
    if (8 : Int32) ≤ x3 then
      L_L_print_281 7 x1 (0 : Int32) M
    else
      (f_L_waitingAt x3 (0 : Int32) M).bind fun q9 =>
        (f_L_waitingAt x3 (1 : Int32) q9.2).bind fun q10 =>
          (f_L_waitingAt x3 (2 : Int32) q10.2).bind fun q11 =>
            (L_L_print_229 n) (((31 : Int64) * (((31 : Int64) * (((31 : Int64) * x1) + (q9.1).toInt64)) + (q10.1).toInt64)) + (q11.1).toInt64) (x3 + 1) q11.2
def L_L_print_153 (k144 : Int64 → Int32 → Mem → Option (Int64 × Mem)) (x3 : Int32) : Nat → Int64 → Int32 → Mem → Option (Int64 × Mem)
  | 0, _, _, _ => none
  | n + 1, x1, x4, M =>
    if (6 : Int32) ≤ x4 then
      (f_L_checkOut x3 (1 : Int32) M).bind fun q13 =>
        (f_L_copied x3 q13.1 (0 : Int32) (1 : Int32) q13.2).bind fun q14 =>
          (f_L_checkOut x3 (1 : Int32) q14.2).bind fun q15 =>
            (f_L_copied x3 q15.1 (0 : Int32) (0 : Int32) q15.2).bind fun q16 =>
              k144 (((31 : Int64) * (((31 : Int64) * x1) + (q14.1).toInt64)) + (q16.1).toInt64) (x3 + 1) q16.2
    else
      (f_L_checkOut x3 x4 M).bind fun q17 =>
        (L_L_print_153 k144 x3 n) (((31 : Int64) * x1) + (q17.1).toInt64) (x4 + 1) q17.2
def L_L_print_144 : Nat → Int64 → Int32 → Mem → Option (Int64 × Mem)
  | 0, _, _, _ => none
  | n + 1, x1, x3, M =>
    if (10 : Int32) ≤ x3 then
      L_L_print_229 9 x1 (0 : Int32) M
    else
      L_L_print_153 (L_L_print_144 n) x3 7 x1 (0 : Int32) M
def L_L_print_95 (k56 : Int64 → Int32 → Mem → Option (Int64 × Mem)) (x3 : Int32) : Nat → Int64 → Int32 → Mem → Option (Int64 × Mem)
  | 0, _, _, _ => none
  | n + 1, x1, x4, M =>
    if (6 : Int32) ≤ x4 then
      (f_L_holders x3 M).bind fun q20 =>
        k56 (((31 : Int64) * x1) + (q20.1).toInt64) (x3 + 1) q20.2
    else
      (f_L_line x3 x4 M).bind fun q21 =>
        (L_L_print_95 k56 x3 n) (((31 : Int64) * x1) + (q21.1).toInt64) (x4 + 1) q21.2
def L_L_print_65 (k56 : Int64 → Int32 → Mem → Option (Int64 × Mem)) (x3 : Int32) : Nat → Int64 → Int32 → Mem → Option (Int64 × Mem)
  | 0, _, _, _ => none
  | n + 1, x1, x4, M =>
    if (5 : Int32) ≤ x4 then
      L_L_print_95 k56 x3 7 x1 (0 : Int32) M
    else
      (f_L_section x3 x4 M).bind fun q22 =>
        (L_L_print_65 k56 x3 n) (((31 : Int64) * x1) + (q22.1).toInt64) (x4 + 1) q22.2
def L_L_print_56 : Nat → Int64 → Int32 → Mem → Option (Int64 × Mem)
  | 0, _, _, _ => none
  | n + 1, x1, x3, M =>
    if (20 : Int32) ≤ x3 then
      L_L_print_144 11 x1 (0 : Int32) M
    else
      L_L_print_65 (L_L_print_56 n) x3 6 x1 (0 : Int32) M
def B_L_print_53 (z0 : Int64) (M : Mem) : Option (Int64 × Mem) :=
  L_L_print_56 21 z0 (0 : Int32) M
def f_L_print (M : Mem) : Option (Int64 × Mem) :=
  (f_L_pass (0 : Int32) M).bind fun q1 =>
    (f_L_undo q1.2).bind fun q2 =>
      if q2.1 < 0 then
        B_L_print_53 (0 : Int64) q2.2
      else
        B_L_print_53 ((31 : Int64) * (((31 : Int64) * (((31 : Int64) * (((31 : Int64) * ((f_X8_sections M)).toInt64) + ((f_X8_entries M)).toInt64)) + ((f_X8_waiting M)).toInt64)) + (q1.1).toInt64)) q2.2
def B_L_refused_239 (x1 : Int64) (z0 : Int32) (M : Mem) : Option (Int32 × Mem) :=
  if z0 = 0 then
    some ((0 : Int32), M)
  else
    (f_L_blame (0 : Int32) ((-1) : Int32) M).bind fun q6 =>
      if q6.1 = ((-53) : Int32) then
        (f_L_lineAt (0 : Int32) (0 : Int32) ((-1) : Int32) q6.2).bind fun q8 =>
          if q8.1 = ((-51) : Int32) then
            (f_L_revert (0 : Int32) ((-1) : Int32) q8.2).bind fun q10 =>
              if q10.1 = ((-51) : Int32) then
                (f_L_waitingAt (8 : Int32) (0 : Int32) q10.2).bind fun q12 =>
                  if q12.1 = ((-53) : Int32) then
                    (f_L_pass (1001 : Int32) q12.2).bind fun q14 =>
                      if q14.1 = ((-51) : Int32) then
                        (f_L_useBits (6 : Int32) q14.2).bind fun q16 =>
                          if q16.1 = ((-53) : Int32) then
                            (f_L_append ((-1) : Int32) q16.2).bind fun q18 =>
                              if q18.1 = ((-51) : Int32) then
                                (f_L_outline ((-1) : Int32) q18.2).bind fun q20 =>
                                  if q20.1 = ((-51) : Int32) then
                                    (f_L_print q20.2).bind fun q22 =>
                                      if (lcv q22.1 x1) = 0 then
                                        some ((1 : Int32), q22.2)
                                      else
                                        some ((0 : Int32), q22.2)
                                  else
                                    some ((0 : Int32), q20.2)
                              else
                                some ((0 : Int32), q18.2)
                          else
                            some ((0 : Int32), q16.2)
                      else
                        some ((0 : Int32), q14.2)
                  else
                    some ((0 : Int32), q12.2)
              else
                some ((0 : Int32), q10.2)
          else
            some ((0 : Int32), q8.2)
      else
        some ((0 : Int32), q6.2)
def B_L_refused_238 (x1 : Int64) (M : Mem) : Option (Int32 × Mem) :=
  B_L_refused_239 x1 (0 : Int32) M
def B_L_refused_116 (x1 : Int64) (z0 : Int32) (M : Mem) : Option (Int32 × Mem) :=
  if z0 = 0 then
    B_L_refused_238 x1 M
  else
    (f_L_cancel ((-1) : Int32) M).bind fun q24 =>
      if q24.1 = ((-53) : Int32) then
        (f_L_renew (10 : Int32) (1 : Int32) q24.2).bind fun q26 =>
          if q26.1 = ((-53) : Int32) then
            (f_L_breakUp ((-1) : Int32) q26.2).bind fun q28 =>
              if q28.1 = ((-53) : Int32) then
                (f_L_discard (10 : Int32) q28.2).bind fun q30 =>
                  if q30.1 = ((-53) : Int32) then
                    (f_L_edit ((-1) : Int32) (0 : Int32) (0 : Int32) (0 : Int32) q30.2).bind fun q32 =>
                      if q32.1 = ((-53) : Int32) then
                        (f_L_giveBack (10 : Int32) (0 : Int32) q32.2).bind fun q34 =>
                          if q34.1 = ((-53) : Int32) then
                            (f_L_holders (20 : Int32) q34.2).bind fun q36 =>
                              if q36.1 = ((-53) : Int32) then
                                (f_L_ifBroken ((-1) : Int32) q36.2).bind fun q38 =>
                                  if q38.1 = ((-53) : Int32) then
                                    (f_L_grantedAt (6 : Int32) q38.2).bind fun q40 =>
                                      if q40.1 = ((-53) : Int32) then
                                        (f_L_entry (150 : Int32) (0 : Int32) q40.2).bind fun q42 =>
                                          if q42.1 = ((-53) : Int32) then
                                            B_L_refused_239 x1 (1 : Int32) q42.2
                                          else
                                            B_L_refused_238 x1 q42.2
                                      else
                                        B_L_refused_238 x1 q40.2
                                  else
                                    B_L_refused_238 x1 q38.2
                              else
                                B_L_refused_238 x1 q36.2
                          else
                            B_L_refused_238 x1 q34.2
                      else
                        B_L_refused_238 x1 q32.2
                  else
                    B_L_refused_238 x1 q30.2
              else
                B_L_refused_238 x1 q28.2
          else
            B_L_refused_238 x1 q26.2
      else
        B_L_refused_238 x1 q24.2
def B_L_refused_115 (x1 : Int64) (M : Mem) : Option (Int32 × Mem) :=
  B_L_refused_116 x1 (0 : Int32) M
def f_L_refused (M : Mem) : Option (Int32 × Mem) :=
  (f_L_print M).bind fun q1 =>
    (f_L_addSection ((-1) : Int32) q1.2).bind fun q2 =>
      if q2.1 = ((-53) : Int32) then
        (f_L_removeSection (0 : Int32) q2.2).bind fun q44 =>
          if q44.1 = ((-51) : Int32) then
            (f_L_moveSection (0 : Int32) (0 : Int32) q44.2).bind fun q46 =>
              if q46.1 = ((-51) : Int32) then
                (f_L_section (0 : Int32) ((-1) : Int32) q46.2).bind fun q48 =>
                  if q48.1 = ((-51) : Int32) then
                    (f_L_child (0 : Int32) (20 : Int32) q48.2).bind fun q50 =>
                      if q50.1 = ((-53) : Int32) then
                        (f_L_line (0 : Int32) (6 : Int32) q50.2).bind fun q52 =>
                          if q52.1 = ((-53) : Int32) then
                            (f_L_write (0 : Int32) (0 : Int32) ((-5) : Int32) q52.2).bind fun q54 =>
                              if q54.1 = ((-51) : Int32) then
                                (f_L_request (6 : Int32) (0 : Int32) (1 : Int32) (1 : Int32) q54.2).bind fun q56 =>
                                  if q56.1 = ((-53) : Int32) then
                                    (f_L_request (0 : Int32) (0 : Int32) (0 : Int32) (1 : Int32) q56.2).bind fun q58 =>
                                      if q58.1 = ((-51) : Int32) then
                                        B_L_refused_116 q1.1 (1 : Int32) q58.2
                                      else
                                        B_L_refused_115 q1.1 q58.2
                                  else
                                    B_L_refused_115 q1.1 q56.2
                              else
                                B_L_refused_115 q1.1 q54.2
                          else
                            B_L_refused_115 q1.1 q52.2
                      else
                        B_L_refused_115 q1.1 q50.2
                  else
                    B_L_refused_115 q1.1 q48.2
              else
                B_L_refused_115 q1.1 q46.2
          else
            B_L_refused_115 q1.1 q44.2
      else
        B_L_refused_115 q1.1 q2.2
def B_L_isIn_21 (x2 : Int32) (x3 : Int32) (M : Mem) : Option (Int32 × Mem) :=
  if x3 = x2 then
    some ((1 : Int32), M)
  else
    some ((0 : Int32), M)
def L_L_isIn_2 (x2 : Int32) : Nat → Int32 → Mem → Option (Int32 × Mem)
  | 0, _, _ => none
  | n + 1, x3, M =>
    if x3 < 0 then
      B_L_isIn_21 x2 x3 M
    else
      if x3 = x2 then
        B_L_isIn_21 x2 x3 M
      else
        (f_L_section x3 (0 : Int32) M).bind fun q4 =>
          (L_L_isIn_2 x2 n) q4.1 q4.2
def f_L_isIn (x1 : Int32) (x2 : Int32) (M : Mem) : Option (Int32 × Mem) :=
  L_L_isIn_2 x2 22 x1 M
def B_L_areApart_180 (k4 : Int32 → Int32 → Mem → Option (Int32 × Mem)) (x2 : Int32) (z0 : Int32) (M : Mem) : Option (Int32 × Mem) :=
  k4 z0 (x2 + 1) M
def B_L_areApart_179 (k4 : Int32 → Int32 → Mem → Option (Int32 × Mem)) (x2 : Int32) (M : Mem) : Option (Int32 × Mem) :=
  B_L_areApart_180 k4 x2 (0 : Int32) M
def B_L_areApart_175 (k4 : Int32 → Int32 → Mem → Option (Int32 × Mem)) (x2 : Int32) (M : Mem) : Option (Int32 × Mem) :=
  B_L_areApart_180 k4 x2 (1 : Int32) M
def B_L_areApart_158 (k4 : Int32 → Int32 → Mem → Option (Int32 × Mem)) (x2 : Int32) (M : Mem) : Option (Int32 × Mem) :=
  (f_L_checkOut x2 (4 : Int32) M).bind fun q11 =>
    if q11.1 = 0 then
      (f_L_ifBroken x2 q11.2).bind fun q13 =>
        if q13.1 = 0 then
          B_L_areApart_175 k4 x2 q13.2
        else
          B_L_areApart_179 k4 x2 q13.2
    else
      B_L_areApart_179 k4 x2 q11.2
def B_L_areApart_127 (k4 : Int32 → Int32 → Mem → Option (Int32 × Mem)) (x1 : Int32) (x2 : Int32) (M : Mem) : Option (Int32 × Mem) :=
  if x1 = 0 then
    B_L_areApart_179 k4 x2 M
  else
    (f_L_checkOut x2 (3 : Int32) M).bind fun q7 =>
      if q7.1 < 0 then
        B_L_areApart_175 k4 x2 q7.2
      else
        (f_L_checkOut x2 (3 : Int32) q7.2).bind fun q9 =>
          if q9.1 = (1 : Int32) then
            (f_L_conflicts x2 q9.2).bind fun q15 =>
              if q15.1 = 0 then
                B_L_areApart_175 k4 x2 q15.2
              else
                B_L_areApart_158 k4 x2 q15.2
          else
            B_L_areApart_158 k4 x2 q9.2
def B_L_areApart_121 (k4 : Int32 → Int32 → Mem → Option (Int32 × Mem)) (k16 : Int32 → Int32 → Mem → Option (Int32 × Mem)) (x1 : Int32) (x2 : Int32) (x3 : Int32) (M : Mem) : Option (Int32 × Mem) :=
  k16 x1 (x3 + 1) M
def B_L_areApart_120 (k4 : Int32 → Int32 → Mem → Option (Int32 × Mem)) (k16 : Int32 → Int32 → Mem → Option (Int32 × Mem)) (x2 : Int32) (x3 : Int32) (z0 : Int32) (M : Mem) : Option (Int32 × Mem) :=
  B_L_areApart_121 k4 k16 z0 x2 x3 M
def B_L_areApart_119 (k4 : Int32 → Int32 → Mem → Option (Int32 × Mem)) (k16 : Int32 → Int32 → Mem → Option (Int32 × Mem)) (x2 : Int32) (x3 : Int32) (M : Mem) : Option (Int32 × Mem) :=
  B_L_areApart_120 k4 k16 x2 x3 (0 : Int32) M
def B_L_areApart_95 (k4 : Int32 → Int32 → Mem → Option (Int32 × Mem)) (k16 : Int32 → Int32 → Mem → Option (Int32 × Mem)) (x2 : Int32) (x3 : Int32) (M : Mem) : Option (Int32 × Mem) :=
  (f_L_checkOut x2 (4 : Int32) M).bind fun q25 =>
    if q25.1 = (1 : Int32) then
      (f_L_checkOut x3 (4 : Int32) q25.2).bind fun q27 =>
        if q27.1 = (1 : Int32) then
          B_L_areApart_120 k4 k16 x2 x3 (1 : Int32) q27.2
        else
          B_L_areApart_119 k4 k16 x2 x3 q27.2
    else
      B_L_areApart_119 k4 k16 x2 x3 q25.2
def B_L_areApart_50 (k4 : Int32 → Int32 → Mem → Option (Int32 × Mem)) (k16 : Int32 → Int32 → Mem → Option (Int32 × Mem)) (x1 : Int32) (x2 : Int32) (x3 : Int32) (z0 : Int32) (M : Mem) : Option (Int32 × Mem) :=
  if z0 = 0 then
    B_L_areApart_121 k4 k16 x1 x2 x3 M
  else
    (f_L_checkOut x2 (1 : Int32) M).bind fun q21 =>
      (f_L_checkOut x3 (1 : Int32) q21.2).bind fun q22 =>
        (f_L_isIn q21.1 q22.1 q22.2).bind fun q23 =>
          if q23.1 = 0 then
            (f_L_checkOut x3 (1 : Int32) q23.2).bind fun q29 =>
              (f_L_checkOut x2 (1 : Int32) q29.2).bind fun q30 =>
                (f_L_isIn q29.1 q30.1 q30.2).bind fun q31 =>
                  if q31.1 = 0 then
                    B_L_areApart_121 k4 k16 x1 x2 x3 q31.2
                  else
                    B_L_areApart_95 k4 k16 x2 x3 q31.2
          else
            B_L_areApart_95 k4 k16 x2 x3 q23.2
def B_L_areApart_49 (k4 : Int32 → Int32 → Mem → Option (Int32 × Mem)) (k16 : Int32 → Int32 → Mem → Option (Int32 × Mem)) (x1 : Int32) (x2 : Int32) (x3 : Int32) (M : Mem) : Option (Int32 × Mem) :=
  B_L_areApart_50 k4 k16 x1 x2 x3 (0 : Int32) M
def L_L_areApart_16 (k4 : Int32 → Int32 → Mem → Option (Int32 × Mem)) (x2 : Int32) : Nat → Int32 → Int32 → Mem → Option (Int32 × Mem)
  | 0, _, _, _ => none
  | n + 1, x1, x3, M =>
    if x2 ≤ x3 then
      B_L_areApart_127 k4 x1 x2 M
    else
      if x1 = 0 then
        B_L_areApart_127 k4 x1 x2 M
      else
        (f_L_checkOut x2 (3 : Int32) M).bind fun q18 =>
          if q18.1 = (1 : Int32) then
            (f_L_checkOut x3 (3 : Int32) q18.2).bind fun q33 =>
              if q33.1 = (1 : Int32) then
                B_L_areApart_50 k4 (L_L_areApart_16 k4 x2 n) x1 x2 x3 (1 : Int32) q33.2
              else
                B_L_areApart_49 k4 (L_L_areApart_16 k4 x2 n) x1 x2 x3 q33.2
          else
            B_L_areApart_49 k4 (L_L_areApart_16 k4 x2 n) x1 x2 x3 q18.2
def L_L_areApart_4 : Nat → Int32 → Int32 → Mem → Option (Int32 × Mem)
  | 0, _, _, _ => none
  | n + 1, x1, x2, M =>
    if (10 : Int32) ≤ x2 then
      if isb x1 then
        some (x1, M)
      else none
    else
      if x1 = 0 then
        if isb x1 then
          some (x1, M)
        else none
      else
        L_L_areApart_16 (L_L_areApart_4 n) x2 11 x1 (0 : Int32) M
def f_L_areApart (M : Mem) : Option (Int32 × Mem) :=
  L_L_areApart_4 11 (1 : Int32) (0 : Int32) M
def B_L_isTree_203 (x1 : Int32) (x2 : Int32) (x3 : Int32) (M : Mem) : Option (Int32 × Mem) :=
  if x3 = 0 then
    some ((0 : Int32), M)
  else
    if x1 = (f_X8_sections M) then
      if x2 = (x1 - (1 : Int32)) then
        some ((1 : Int32), M)
      else
        some ((0 : Int32), M)
    else
      some ((0 : Int32), M)
def B_L_isTree_197 (k32 : Int32 → Int32 → Int32 → Int32 → Mem → Option (Int32 × Mem)) (x1 : Int32) (x2 : Int32) (x3 : Int32) (x4 : Int32) (M : Mem) : Option (Int32 × Mem) :=
  k32 x1 x2 x3 (x4 + 1) M
def B_L_isTree_196 (k32 : Int32 → Int32 → Int32 → Int32 → Mem → Option (Int32 × Mem)) (x1 : Int32) (x2 : Int32) (x4 : Int32) (z0 : Int32) (M : Mem) : Option (Int32 × Mem) :=
  B_L_isTree_197 k32 x1 x2 z0 x4 M
def B_L_isTree_195 (k32 : Int32 → Int32 → Int32 → Int32 → Mem → Option (Int32 × Mem)) (x1 : Int32) (x2 : Int32) (x4 : Int32) (M : Mem) : Option (Int32 × Mem) :=
  B_L_isTree_196 k32 x1 x2 x4 (0 : Int32) M
def B_L_isTree_147 (k32 : Int32 → Int32 → Int32 → Int32 → Mem → Option (Int32 × Mem)) (x1 : Int32) (x2 : Int32) (x3 : Int32) (x4 : Int32) (x5 : Int32) (M : Mem) : Option (Int32 × Mem) :=
  (f_L_section x4 (1 : Int32) M).bind fun q12 =>
    if x3 = 0 then
      B_L_isTree_195 k32 x1 (x2 + q12.1) x4 q12.2
    else
      (f_L_section x4 (4 : Int32) q12.2).bind fun q14 =>
        if x5 = q14.1 then
          (f_L_section x4 (1 : Int32) q14.2).bind fun q16 =>
            (f_L_child x4 q16.1 q16.2).bind fun q17 =>
              if q17.1 = ((-53) : Int32) then
                B_L_isTree_196 k32 x1 (x2 + q12.1) x4 (1 : Int32) q17.2
              else
                B_L_isTree_195 k32 x1 (x2 + q12.1) x4 q17.2
        else
          B_L_isTree_195 k32 x1 (x2 + q12.1) x4 q14.2
def B_L_isTree_140 (k32 : Int32 → Int32 → Int32 → Int32 → Mem → Option (Int32 × Mem)) (k64 : Int32 → Int32 → Int32 → Mem → Option (Int32 × Mem)) (x1 : Int32) (x2 : Int32) (x4 : Int32) (x5 : Int32) (x6 : Int32) (z0 : Int32) (M : Mem) : Option (Int32 × Mem) :=
  k64 z0 x5 (x6 + 1) M
def B_L_isTree_139 (k32 : Int32 → Int32 → Int32 → Int32 → Mem → Option (Int32 × Mem)) (k64 : Int32 → Int32 → Int32 → Mem → Option (Int32 × Mem)) (x1 : Int32) (x2 : Int32) (x4 : Int32) (x5 : Int32) (x6 : Int32) (M : Mem) : Option (Int32 × Mem) :=
  B_L_isTree_140 k32 k64 x1 x2 x4 x5 x6 (0 : Int32) M
def L_L_isTree_64 (k32 : Int32 → Int32 → Int32 → Int32 → Mem → Option (Int32 × Mem)) (x1 : Int32) (x2 : Int32) (x4 : Int32) : Nat → Int32 → Int32 → Int32 → Mem → Option (Int32 × Mem)
  | 0, _, _, _, _ => none
  | n + 1, x3, x5, x6, M =>
    (f_L_section x4 (1 : Int32) M).bind fun q10 =>
      if q10.1 ≤ x6 then
        B_L_isTree_147 k32 x1 x2 x3 x4 x5 q10.2
      else
        if x3 = 0 then
          B_L_isTree_147 k32 x1 x2 x3 x4 x5 q10.2
        else
          (f_L_child x4 x6 q10.2).bind fun q20 =>
            (f_L_section q20.1 (4 : Int32) q20.2).bind fun q21 =>
              (f_L_section q20.1 (0 : Int32) q21.2).bind fun q22 =>
                if q22.1 = x4 then
                  (f_L_section q20.1 (2 : Int32) q22.2).bind fun q24 =>
                    (f_L_section x4 (2 : Int32) q24.2).bind fun q25 =>
                      if q24.1 = (q25.1 + (1 : Int32)) then
                        B_L_isTree_140 k32 (L_L_isTree_64 k32 x1 x2 x4 n) x1 x2 x4 (x5 + ((1 : Int32) + q21.1)) x6 (1 : Int32) q25.2
                      else
                        B_L_isTree_139 k32 (L_L_isTree_64 k32 x1 x2 x4 n) x1 x2 x4 (x5 + ((1 : Int32) + q21.1)) x6 q25.2
                else
                  B_L_isTree_139 k32 (L_L_isTree_64 k32 x1 x2 x4 n) x1 x2 x4 (x5 + ((1 : Int32) + q21.1)) x6 q22.2
def L_L_isTree_32 : Nat → Int32 → Int32 → Int32 → Int32 → Mem → Option (Int32 × Mem)
  | 0, _, _, _, _, _ => none
  | n + 1, x1, x2, x3, x4, M =>
    if (20 : Int32) ≤ x4 then
      B_L_isTree_203 x1 x2 x3 M
    else
      if x3 = 0 then
        B_L_isTree_203 x1 x2 x3 M
      else
        (f_L_section x4 (0 : Int32) M).bind fun q8 =>
          if q8.1 ≤ ((-2) : Int32) then
            B_L_isTree_197 (L_L_isTree_32 n) x1 x2 x3 x4 q8.2
          else
            L_L_isTree_64 (L_L_isTree_32 n) (x1 + 1) x2 x4 21 x3 (0 : Int32) (0 : Int32) q8.2
def B_L_isTree_28 (x1 : Int32) (x2 : Int32) (z0 : Int32) (M : Mem) : Option (Int32 × Mem) :=
  L_L_isTree_32 21 x1 x2 z0 (0 : Int32) M
def B_L_isTree_27 (x1 : Int32) (x2 : Int32) (M : Mem) : Option (Int32 × Mem) :=
  B_L_isTree_28 x1 x2 (0 : Int32) M
def f_L_isTree (M : Mem) : Option (Int32 × Mem) :=
  (f_L_section (0 : Int32) (0 : Int32) M).bind fun q1 =>
    if q1.1 = ((-1) : Int32) then
      (f_L_section (0 : Int32) (2 : Int32) q1.2).bind fun q27 =>
        if q27.1 = 0 then
          B_L_isTree_28 (0 : Int32) (0 : Int32) (1 : Int32) q27.2
        else
          B_L_isTree_27 (0 : Int32) (0 : Int32) q27.2
    else
      B_L_isTree_27 (0 : Int32) (0 : Int32) q1.2
def B_L_isTold_201 (k9 : Int32 → Int32 → Mem → Option (Int32 × Mem)) (x2 : Int32) (x3 : Int32) (z0 : Int32) (M : Mem) : Option (Int32 × Mem) :=
  k9 z0 (x3 + 1) M
def B_L_isTold_200 (k9 : Int32 → Int32 → Mem → Option (Int32 × Mem)) (x2 : Int32) (x3 : Int32) (M : Mem) : Option (Int32 × Mem) :=
  B_L_isTold_201 k9 x2 x3 (0 : Int32) M
def B_L_isTold_181 (k9 : Int32 → Int32 → Mem → Option (Int32 × Mem)) (x2 : Int32) (x3 : Int32) (M : Mem) : Option (Int32 × Mem) :=
  (f0_L_entry x3 (3 : Int32) M).bind fun q10 =>
    (f0_L_entry x3 (4 : Int32) q10.2).bind fun q11 =>
      if q10.1 = q11.1 then
        B_L_isTold_200 k9 x2 x3 q11.2
      else
        B_L_isTold_201 k9 x2 x3 (1 : Int32) q11.2
def B_L_isTold_130 (k9 : Int32 → Int32 → Mem → Option (Int32 × Mem)) (k42 : Int32 → Int32 → Int32 → Mem → Option (Int32 × Mem)) (x1 : Int32) (x2 : Int32) (x3 : Int32) (x4 : Int32) (x5 : Int32) (x7 : Int32) (z0 : Int32) (M : Mem) : Option (Int32 × Mem) :=
  k42 x1 z0 (x7 + 1) M
def B_L_isTold_129 (k9 : Int32 → Int32 → Mem → Option (Int32 × Mem)) (k42 : Int32 → Int32 → Int32 → Mem → Option (Int32 × Mem)) (x1 : Int32) (x2 : Int32) (x3 : Int32) (x4 : Int32) (x5 : Int32) (x7 : Int32) (M : Mem) : Option (Int32 × Mem) :=
  B_L_isTold_130 k9 k42 x1 x2 x3 x4 x5 x7 (0 : Int32) M
def B_L_isTold_114 (k9 : Int32 → Int32 → Mem → Option (Int32 × Mem)) (k42 : Int32 → Int32 → Int32 → Mem → Option (Int32 × Mem)) (x2 : Int32) (x3 : Int32) (x4 : Int32) (x5 : Int32) (x6 : Int32) (x7 : Int32) (x8 : Int32) (z0 : Int32) (M : Mem) : Option (Int32 × Mem) :=
  if x6 = 0 then
    B_L_isTold_129 k9 k42 z0 x2 x3 x4 x5 x7 M
  else
    if x8 = 0 then
      B_L_isTold_130 k9 k42 z0 x2 x3 x4 x5 x7 (1 : Int32) M
    else
      B_L_isTold_129 k9 k42 z0 x2 x3 x4 x5 x7 M
def B_L_isTold_113 (k9 : Int32 → Int32 → Mem → Option (Int32 × Mem)) (k42 : Int32 → Int32 → Int32 → Mem → Option (Int32 × Mem)) (x2 : Int32) (x3 : Int32) (x4 : Int32) (x5 : Int32) (x6 : Int32) (x7 : Int32) (x8 : Int32) (M : Mem) : Option (Int32 × Mem) :=
  B_L_isTold_114 k9 k42 x2 x3 x4 x5 x6 x7 x8 (0 : Int32) M
def B_L_isTold_109 (k9 : Int32 → Int32 → Mem → Option (Int32 × Mem)) (k42 : Int32 → Int32 → Int32 → Mem → Option (Int32 × Mem)) (x2 : Int32) (x3 : Int32) (x4 : Int32) (x5 : Int32) (x6 : Int32) (x7 : Int32) (x8 : Int32) (M : Mem) : Option (Int32 × Mem) :=
  B_L_isTold_114 k9 k42 x2 x3 x4 x5 x6 x7 x8 (1 : Int32) M
def B_L_isTold_77 (k9 : Int32 → Int32 → Mem → Option (Int32 × Mem)) (k42 : Int32 → Int32 → Int32 → Mem → Option (Int32 × Mem)) (x1 : Int32) (x2 : Int32) (x3 : Int32) (x4 : Int32) (x5 : Int32) (x6 : Int32) (x7 : Int32) (z0 : Int32) (M : Mem) : Option (Int32 × Mem) :=
  if x1 = 0 then
    B_L_isTold_113 k9 k42 x2 x3 x4 x5 x6 x7 z0 M
  else
    if x6 = 0 then
      B_L_isTold_109 k9 k42 x2 x3 x4 x5 x6 x7 z0 M
    else
      if z0 = 0 then
        B_L_isTold_109 k9 k42 x2 x3 x4 x5 x6 x7 z0 M
      else
        (f0_L_entry x7 (3 : Int32) M).bind fun q26 =>
          (f0_L_entry x3 (4 : Int32) q26.2).bind fun q27 =>
            if q26.1 = q27.1 then
              B_L_isTold_109 k9 k42 x2 x3 x4 x5 x6 x7 z0 q27.2
            else
              B_L_isTold_113 k9 k42 x2 x3 x4 x5 x6 x7 z0 q27.2
def B_L_isTold_76 (k9 : Int32 → Int32 → Mem → Option (Int32 × Mem)) (k42 : Int32 → Int32 → Int32 → Mem → Option (Int32 × Mem)) (x1 : Int32) (x2 : Int32) (x3 : Int32) (x4 : Int32) (x5 : Int32) (x6 : Int32) (x7 : Int32) (M : Mem) : Option (Int32 × Mem) :=
  B_L_isTold_77 k9 k42 x1 x2 x3 x4 x5 x6 x7 (0 : Int32) M
def L_L_isTold_42 (k9 : Int32 → Int32 → Mem → Option (Int32 × Mem)) (x2 : Int32) (x3 : Int32) (x4 : Int32) (x5 : Int32) : Nat → Int32 → Int32 → Int32 → Mem → Option (Int32 × Mem)
  | 0, _, _, _, _ => none
  | n + 1, x1, x6, x7, M =>
    if x2 ≤ x7 then
      if x1 = 0 then
        B_L_isTold_200 k9 x2 x3 M
      else
        if x6 = 0 then
          B_L_isTold_181 k9 x2 x3 M
        else
          (f0_L_line x4 x5 M).bind fun q13 =>
            (f0_L_entry x3 (4 : Int32) q13.2).bind fun q14 =>
              if q13.1 = q14.1 then
                (f0_L_blame x4 x5 q14.2).bind fun q16 =>
                  (f0_L_entry x3 (5 : Int32) q16.2).bind fun q17 =>
                    if q16.1 = q17.1 then
                      B_L_isTold_181 k9 x2 x3 q17.2
                    else
                      B_L_isTold_200 k9 x2 x3 q17.2
              else
                B_L_isTold_200 k9 x2 x3 q14.2
    else
      (f0_L_entry x7 (1 : Int32) M).bind fun q19 =>
        if q19.1 = x4 then
          (f0_L_entry x7 (2 : Int32) q19.2).bind fun q29 =>
            if q29.1 = x5 then
              B_L_isTold_77 k9 (L_L_isTold_42 k9 x2 x3 x4 x5 n) x1 x2 x3 x4 x5 x6 x7 (1 : Int32) q29.2
            else
              B_L_isTold_76 k9 (L_L_isTold_42 k9 x2 x3 x4 x5 n) x1 x2 x3 x4 x5 x6 x7 q29.2
        else
          B_L_isTold_76 k9 (L_L_isTold_42 k9 x2 x3 x4 x5 n) x1 x2 x3 x4 x5 x6 x7 q19.2
def L_L_isTold_9 (x2 : Int32) : Nat → Int32 → Int32 → Mem → Option (Int32 × Mem)
  | 0, _, _, _ => none
  | n + 1, x1, x3, M =>
    if x2 ≤ x3 then
      if isb x1 then
        some (x1, M)
      else none
    else
      if x1 = 0 then
        if isb x1 then
          some (x1, M)
        else none
      else
        (f0_L_entry x3 (1 : Int32) M).bind fun q5 =>
          (f0_L_entry x3 (2 : Int32) q5.2).bind fun q6 =>
            L_L_isTold_42 (L_L_isTold_9 x2 n) x2 x3 q5.1 q6.1 152 x1 (1 : Int32) (x3 + (1 : Int32)) q6.2
def f_L_isTold (M : Mem) : Option (Int32 × Mem) :=
  L_L_isTold_9 (f_X8_entries M) 152 (1 : Int32) (0 : Int32) M
def B_L_isGranted_242 (x1 : Int64) (x3 : Int32) (M : Mem) : Option (Int32 × Mem) :=
  if x3 = 0 then
    some ((0 : Int32), M)
  else
    (f_L_print M).bind fun q5 =>
      if (lcv q5.1 x1) = 0 then
        some ((1 : Int32), q5.2)
      else
        some ((0 : Int32), q5.2)
def B_L_isGranted_236 (k166 : Int32 → Int32 → Mem → Option (Int32 × Mem)) (x1 : Int64) (x3 : Int32) (x4 : Int32) (M : Mem) : Option (Int32 × Mem) :=
  k166 x3 (x4 + 1) M
def B_L_isGranted_235 (k166 : Int32 → Int32 → Mem → Option (Int32 × Mem)) (x1 : Int64) (x4 : Int32) (z0 : Int32) (M : Mem) : Option (Int32 × Mem) :=
  B_L_isGranted_236 k166 x1 z0 x4 M
def B_L_isGranted_234 (k166 : Int32 → Int32 → Mem → Option (Int32 × Mem)) (x1 : Int64) (x4 : Int32) (M : Mem) : Option (Int32 × Mem) :=
  B_L_isGranted_235 k166 x1 x4 (0 : Int32) M
def L_L_isGranted_166 (x1 : Int64) : Nat → Int32 → Int32 → Mem → Option (Int32 × Mem)
  | 0, _, _, _ => none
  | n + 1, x3, x4, M =>
    if (10 : Int32) ≤ x4 then
      B_L_isGranted_242 x1 x3 M
    else
      if x3 = 0 then
        B_L_isGranted_242 x1 x3 M
      else
        (f_L_ifBroken x4 M).bind fun q8 =>
          (f_L_checkOut x4 (3 : Int32) q8.2).bind fun q9 =>
            if q9.1 = (1 : Int32) then
              (f_L_breakUp x4 q9.2).bind fun q11 =>
                if q11.1 < 0 then
                  B_L_isGranted_234 (L_L_isGranted_166 x1 n) x1 x4 q11.2
                else
                  if (f_X8_waiting q11.2) = ((f_X8_waiting q9.2) - q8.1) then
                    (f_L_undo q11.2).bind fun q14 =>
                      if q14.1 < 0 then
                        B_L_isGranted_234 (L_L_isGranted_166 x1 n) x1 x4 q14.2
                      else
                        B_L_isGranted_235 (L_L_isGranted_166 x1 n) x1 x4 (1 : Int32) q14.2
                  else
                    B_L_isGranted_234 (L_L_isGranted_166 x1 n) x1 x4 q11.2
            else
              B_L_isGranted_236 (L_L_isGranted_166 x1 n) x1 x3 x4 q9.2
def B_L_isGranted_163 (x1 : Int64) (x3 : Int32) (M : Mem) : Option (Int32 × Mem) :=
  L_L_isGranted_166 x1 11 x3 (0 : Int32) M
def B_L_isGranted_157 (k10 : Int32 → Int32 → Mem → Option (Int32 × Mem)) (x1 : Int64) (x3 : Int32) (x4 : Int32) (M : Mem) : Option (Int32 × Mem) :=
  k10 x3 (x4 + 1) M
def B_L_isGranted_156 (k10 : Int32 → Int32 → Mem → Option (Int32 × Mem)) (x1 : Int64) (x4 : Int32) (z0 : Int32) (M : Mem) : Option (Int32 × Mem) :=
  B_L_isGranted_157 k10 x1 z0 x4 M
def B_L_isGranted_155 (k10 : Int32 → Int32 → Mem → Option (Int32 × Mem)) (x1 : Int64) (x4 : Int32) (M : Mem) : Option (Int32 × Mem) :=
  B_L_isGranted_156 k10 x1 x4 (0 : Int32) M
def B_L_isGranted_51 (k10 : Int32 → Int32 → Mem → Option (Int32 × Mem)) (x1 : Int64) (x4 : Int32) (x5 : Int32) (x6 : Int32) (z0 : Int32) (M : Mem) : Option (Int32 × Mem) :=
  (f_L_grantedAt x5 M).bind fun q21 =>
    if z0 = 0 then
      B_L_isGranted_157 k10 x1 z0 x4 q21.2
    else
      if q21.1 < 0 then
        B_L_isGranted_157 k10 x1 z0 x4 q21.2
      else
        if (1000 : Int32) < (q21.1 - x6) then
          B_L_isGranted_157 k10 x1 z0 x4 q21.2
        else
          if q21.1 ≤ x6 then
            B_L_isGranted_155 k10 x1 x4 q21.2
          else
            (f_L_pass ((q21.1 - x6) - (1 : Int32)) q21.2).bind fun q26 =>
              if q26.1 = (q21.1 - (1 : Int32)) then
                (f_L_grantedAt x5 q26.2).bind fun q28 =>
                  if q28.1 = q21.1 then
                    (f_L_pass (1 : Int32) q28.2).bind fun q30 =>
                      if q30.1 = q21.1 then
                        (f_L_grantedAt x5 q30.2).bind fun q32 =>
                          if q32.1 = ((-52) : Int32) then
                            (f_L_undo q32.2).bind fun q34 =>
                              if q34.1 < 0 then
                                B_L_isGranted_155 k10 x1 x4 q34.2
                              else
                                (f_L_undo q34.2).bind fun q36 =>
                                  if q36.1 < 0 then
                                    B_L_isGranted_155 k10 x1 x4 q36.2
                                  else
                                    B_L_isGranted_156 k10 x1 x4 (1 : Int32) q36.2
                          else
                            B_L_isGranted_155 k10 x1 x4 q32.2
                      else
                        B_L_isGranted_155 k10 x1 x4 q30.2
                  else
                    B_L_isGranted_155 k10 x1 x4 q28.2
              else
                B_L_isGranted_155 k10 x1 x4 q26.2
def L_L_isGranted_10 (x1 : Int64) : Nat → Int32 → Int32 → Mem → Option (Int32 × Mem)
  | 0, _, _, _ => none
  | n + 1, x3, x4, M =>
    if (f_X8_waiting M) ≤ x4 then
      B_L_isGranted_163 x1 x3 M
    else
      if x3 = 0 then
        B_L_isGranted_163 x1 x3 M
      else
        (f_L_waitingAt x4 (0 : Int32) M).bind fun q17 =>
          (f_L_pass (0 : Int32) q17.2).bind fun q18 =>
            (f_L_undo q18.2).bind fun q19 =>
              if q19.1 < 0 then
                B_L_isGranted_51 (L_L_isGranted_10 x1 n) x1 x4 q17.1 q18.1 (0 : Int32) q19.2
              else
                B_L_isGranted_51 (L_L_isGranted_10 x1 n) x1 x4 q17.1 q18.1 (1 : Int32) q19.2
def f_L_isGranted (M : Mem) : Option (Int32 × Mem) :=
  (f_L_print M).bind fun q1 =>
    L_L_isGranted_10 q1.1 10 (1 : Int32) (0 : Int32) q1.2
def B_L_comesBack_265 (x1 : Int32) (x2 : Int64) (x4 : Int32) (x6 : Int32) (x10 : Int32) (x11 : Int32) (M : Mem) : Option (Int32 × Mem) :=
  if x11 = 0 then
    some ((0 : Int32), M)
  else
    (f_L_discard x1 M).bind fun q15 =>
      if q15.1 = x6 then
        (f_L_line x4 (0 : Int32) q15.2).bind fun q17 =>
          if q17.1 = x10 then
            (f_L_undo q17.2).bind fun q19 =>
              if q19.1 < 0 then
                some ((0 : Int32), q19.2)
              else
                (f_L_print q19.2).bind fun q21 =>
                  if (lcv q21.1 x2) = 0 then
                    some ((1 : Int32), q21.2)
                  else
                    some ((0 : Int32), q21.2)
          else
            some ((0 : Int32), q17.2)
      else
        some ((0 : Int32), q15.2)
def B_L_comesBack_259 (k124 : Int32 → Int32 → Mem → Option (Int32 × Mem)) (x1 : Int32) (x2 : Int64) (x4 : Int32) (x5 : Int32) (x6 : Int32) (x7 : Int32) (x8 : Int32) (x9 : Int32) (x10 : Int32) (x11 : Int32) (x12 : Int32) (M : Mem) : Option (Int32 × Mem) :=
  k124 x11 (x12 + 1) M
def B_L_comesBack_257 (k124 : Int32 → Int32 → Mem → Option (Int32 × Mem)) (x1 : Int32) (x2 : Int64) (x4 : Int32) (x5 : Int32) (x6 : Int32) (x7 : Int32) (x8 : Int32) (x9 : Int32) (x10 : Int32) (x12 : Int32) (z0 : Int32) (M : Mem) : Option (Int32 × Mem) :=
  B_L_comesBack_259 k124 x1 x2 x4 x5 x6 x7 x8 x9 x10 z0 x12 M
def B_L_comesBack_256 (k124 : Int32 → Int32 → Mem → Option (Int32 × Mem)) (x1 : Int32) (x2 : Int64) (x4 : Int32) (x5 : Int32) (x6 : Int32) (x7 : Int32) (x8 : Int32) (x9 : Int32) (x10 : Int32) (x12 : Int32) (M : Mem) : Option (Int32 × Mem) :=
  B_L_comesBack_257 k124 x1 x2 x4 x5 x6 x7 x8 x9 x10 x12 (0 : Int32) M
def B_L_comesBack_245 (k124 : Int32 → Int32 → Mem → Option (Int32 × Mem)) (x1 : Int32) (x2 : Int64) (x4 : Int32) (x5 : Int32) (x6 : Int32) (x7 : Int32) (x8 : Int32) (x9 : Int32) (x10 : Int32) (x12 : Int32) (M : Mem) : Option (Int32 × Mem) :=
  (f_L_undo M).bind fun q32 =>
    if q32.1 < 0 then
      B_L_comesBack_256 k124 x1 x2 x4 x5 x6 x7 x8 x9 x10 x12 q32.2
    else
      B_L_comesBack_257 k124 x1 x2 x4 x5 x6 x7 x8 x9 x10 x12 (1 : Int32) q32.2
def B_L_comesBack_221 (k124 : Int32 → Int32 → Mem → Option (Int32 × Mem)) (x1 : Int32) (x2 : Int64) (x4 : Int32) (x5 : Int32) (x6 : Int32) (x7 : Int32) (x8 : Int32) (x9 : Int32) (x10 : Int32) (x12 : Int32) (M : Mem) : Option (Int32 × Mem) :=
  (f_L_line x4 (0 : Int32) M).bind fun q30 =>
    if q30.1 = x10 then
      B_L_comesBack_245 k124 x1 x2 x4 x5 x6 x7 x8 x9 x10 x12 q30.2
    else
      (f_L_blame x4 (0 : Int32) q30.2).bind fun q34 =>
        if q34.1 = x7 then
          B_L_comesBack_245 k124 x1 x2 x4 x5 x6 x7 x8 x9 x10 x12 q34.2
        else
          B_L_comesBack_256 k124 x1 x2 x4 x5 x6 x7 x8 x9 x10 x12 q34.2
def B_L_comesBack_197 (k124 : Int32 → Int32 → Mem → Option (Int32 × Mem)) (x1 : Int32) (x2 : Int64) (x4 : Int32) (x5 : Int32) (x6 : Int32) (x7 : Int32) (x8 : Int32) (x9 : Int32) (x10 : Int32) (x12 : Int32) (x13 : Int32) (M : Mem) : Option (Int32 × Mem) :=
  if x8 = 0 then
    B_L_comesBack_221 k124 x1 x2 x4 x5 x6 x7 x8 x9 x10 x12 M
  else
    (f_L_line x4 (0 : Int32) M).bind fun q36 =>
      if q36.1 = x9 then
        if x13 = x6 then
          B_L_comesBack_221 k124 x1 x2 x4 x5 x6 x7 x8 x9 x10 x12 q36.2
        else
          B_L_comesBack_256 k124 x1 x2 x4 x5 x6 x7 x8 x9 x10 x12 q36.2
      else
        B_L_comesBack_256 k124 x1 x2 x4 x5 x6 x7 x8 x9 x10 x12 q36.2
def B_L_comesBack_170 (k124 : Int32 → Int32 → Mem → Option (Int32 × Mem)) (x1 : Int32) (x2 : Int64) (x4 : Int32) (x5 : Int32) (x6 : Int32) (x7 : Int32) (x8 : Int32) (x9 : Int32) (x10 : Int32) (x12 : Int32) (z0 : Int32) (M : Mem) : Option (Int32 × Mem) :=
  B_L_comesBack_259 k124 x1 x2 x4 x5 x6 x7 x8 x9 x10 z0 x12 M
def B_L_comesBack_169 (k124 : Int32 → Int32 → Mem → Option (Int32 × Mem)) (x1 : Int32) (x2 : Int64) (x4 : Int32) (x5 : Int32) (x6 : Int32) (x7 : Int32) (x8 : Int32) (x9 : Int32) (x10 : Int32) (x12 : Int32) (M : Mem) : Option (Int32 × Mem) :=
  B_L_comesBack_170 k124 x1 x2 x4 x5 x6 x7 x8 x9 x10 x12 (0 : Int32) M
def L_L_comesBack_124 (x1 : Int32) (x2 : Int64) (x4 : Int32) (x5 : Int32) (x6 : Int32) (x7 : Int32) (x8 : Int32) (x9 : Int32) (x10 : Int32) : Nat → Int32 → Int32 → Mem → Option (Int32 × Mem)
  | 0, _, _, _ => none
  | n + 1, x11, x12, M =>
    if (3 : Int32) ≤ x12 then
      B_L_comesBack_265 x1 x2 x4 x6 x10 x11 M
    else
      if x11 = 0 then
        B_L_comesBack_265 x1 x2 x4 x6 x10 x11 M
      else
        (f_L_giveBack x1 x12 M).bind fun q24 =>
          if q24.1 = ((-52) : Int32) then
            if x8 = 0 then
              (f_L_checkOut x1 (3 : Int32) q24.2).bind fun q41 =>
                if q41.1 = 0 then
                  B_L_comesBack_170 (L_L_comesBack_124 x1 x2 x4 x5 x6 x7 x8 x9 x10 n) x1 x2 x4 x5 x6 x7 x8 x9 x10 x12 (1 : Int32) q41.2
                else
                  B_L_comesBack_169 (L_L_comesBack_124 x1 x2 x4 x5 x6 x7 x8 x9 x10 n) x1 x2 x4 x5 x6 x7 x8 x9 x10 x12 q41.2
            else
              B_L_comesBack_169 (L_L_comesBack_124 x1 x2 x4 x5 x6 x7 x8 x9 x10 n) x1 x2 x4 x5 x6 x7 x8 x9 x10 x12 q24.2
          else
            if q24.1 < 0 then
              B_L_comesBack_256 (L_L_comesBack_124 x1 x2 x4 x5 x6 x7 x8 x9 x10 n) x1 x2 x4 x5 x6 x7 x8 x9 x10 x12 q24.2
            else
              if x6 < q24.1 then
                B_L_comesBack_256 (L_L_comesBack_124 x1 x2 x4 x5 x6 x7 x8 x9 x10 n) x1 x2 x4 x5 x6 x7 x8 x9 x10 x12 q24.2
              else
                if 0 < x12 then
                  B_L_comesBack_197 (L_L_comesBack_124 x1 x2 x4 x5 x6 x7 x8 x9 x10 n) x1 x2 x4 x5 x6 x7 x8 x9 x10 x12 q24.1 q24.2
                else
                  if x5 = 0 then
                    B_L_comesBack_197 (L_L_comesBack_124 x1 x2 x4 x5 x6 x7 x8 x9 x10 n) x1 x2 x4 x5 x6 x7 x8 x9 x10 x12 q24.1 q24.2
                  else
                    B_L_comesBack_256 (L_L_comesBack_124 x1 x2 x4 x5 x6 x7 x8 x9 x10 n) x1 x2 x4 x5 x6 x7 x8 x9 x10 x12 q24.2
def B_L_comesBack_119 (x1 : Int32) (x2 : Int64) (x4 : Int32) (x5 : Int32) (x6 : Int32) (x7 : Int32) (x8 : Int32) (x9 : Int32) (x10 : Int32) (z0 : Int32) (M : Mem) : Option (Int32 × Mem) :=
  L_L_comesBack_124 x1 x2 x4 x5 x6 x7 x8 x9 x10 4 z0 (0 : Int32) M
def B_L_comesBack_85 (x1 : Int32) (x2 : Int64) (x4 : Int32) (x5 : Int32) (x6 : Int32) (x7 : Int32) (z0 : Int32) (M : Mem) : Option (Int32 × Mem) :=
  (f_L_copied x1 x4 (0 : Int32) (0 : Int32) M).bind fun q10 =>
    (f_L_line x4 (0 : Int32) q10.2).bind fun q11 =>
      if x6 < x5 then
        B_L_comesBack_119 x1 x2 x4 x5 x6 x7 z0 q10.1 q11.1 (0 : Int32) q11.2
      else
        B_L_comesBack_119 x1 x2 x4 x5 x6 x7 z0 q10.1 q11.1 (1 : Int32) q11.2
def B_L_comesBack_84 (x1 : Int32) (x2 : Int64) (x4 : Int32) (x5 : Int32) (x6 : Int32) (x7 : Int32) (M : Mem) : Option (Int32 × Mem) :=
  B_L_comesBack_85 x1 x2 x4 x5 x6 x7 (0 : Int32) M
def f_L_comesBack (x1 : Int32) (M : Mem) : Option (Int32 × Mem) :=
  (f_L_checkOut x1 (0 : Int32) M).bind fun q1 =>
    if 0 ≤ q1.1 then
      (f_L_print q1.2).bind fun q3 =>
        (f_L_checkOut x1 (1 : Int32) q3.2).bind fun q4 =>
          (f_L_conflicts x1 q4.2).bind fun q5 =>
            (f_L_checkOut x1 (5 : Int32) q5.2).bind fun q6 =>
              (f_L_checkOut x1 (0 : Int32) q6.2).bind fun q7 =>
                (f_L_checkOut x1 (3 : Int32) q7.2).bind fun q8 =>
                  if q8.1 = (1 : Int32) then
                    (f_L_checkOut x1 (4 : Int32) q8.2).bind fun q43 =>
                      if q43.1 = 0 then
                        B_L_comesBack_85 x1 q3.1 q4.1 q5.1 q6.1 q7.1 (1 : Int32) q43.2
                      else
                        B_L_comesBack_84 x1 q3.1 q4.1 q5.1 q6.1 q7.1 q43.2
                  else
                    B_L_comesBack_84 x1 q3.1 q4.1 q5.1 q6.1 q7.1 q8.2
    else
      (f_L_conflicts x1 q1.2).bind fun q45 =>
        if q45.1 = ((-53) : Int32) then
          some ((1 : Int32), q45.2)
        else
          some ((0 : Int32), q45.2)
def B_L_isPutBack_114 (x4 : Int32) (z0 : Int32) (M : Mem) : Option (Int32 × Mem) :=
  if z0 = 0 then
    some ((0 : Int32), M)
  else
    (f_L_undo M).bind fun q9 =>
      if q9.1 < 0 then
        some ((0 : Int32), q9.2)
      else
        if (f_X8_entries q9.2) = x4 then
          some ((1 : Int32), q9.2)
        else
          some ((0 : Int32), q9.2)
def B_L_isPutBack_113 (x4 : Int32) (M : Mem) : Option (Int32 × Mem) :=
  B_L_isPutBack_114 x4 (0 : Int32) M
def B_L_isPutBack_109 (x4 : Int32) (M : Mem) : Option (Int32 × Mem) :=
  B_L_isPutBack_114 x4 (1 : Int32) M
def f_L_isPutBack (x1 : Int32) (x2 : Int32) (M : Mem) : Option (Int32 × Mem) :=
  (f_L_section x1 (0 : Int32) M).bind fun q1 =>
    if ((-1) : Int32) ≤ q1.1 then
      (f_L_lineAt x1 (2 : Int32) x2 q1.2).bind fun q3 =>
        (f_L_revert x1 x2 q3.2).bind fun q4 =>
          if 0 ≤ q4.1 then
            (f_L_line x1 (2 : Int32) q4.2).bind fun q6 =>
              if q6.1 = q3.1 then
                if (150 : Int32) < ((f_X8_entries q3.2) + q4.1) then
                  B_L_isPutBack_109 (f_X8_entries q3.2) q6.2
                else
                  if (f_X8_entries q6.2) = ((f_X8_entries q3.2) + q4.1) then
                    B_L_isPutBack_109 (f_X8_entries q3.2) q6.2
                  else
                    B_L_isPutBack_113 (f_X8_entries q3.2) q6.2
              else
                B_L_isPutBack_113 (f_X8_entries q3.2) q6.2
          else
            if q4.1 = ((-52) : Int32) then
              if (f_X8_entries q4.2) = (f_X8_entries q3.2) then
                some ((1 : Int32), q4.2)
              else
                some ((0 : Int32), q4.2)
            else
              some ((0 : Int32), q4.2)
    else
      (f_L_revert x1 (0 : Int32) q1.2).bind fun q16 =>
        if q16.1 = ((-53) : Int32) then
          some ((1 : Int32), q16.2)
        else
          some ((0 : Int32), q16.2)
def B_L_types_137 (x7 : Int32) (M : Mem) : Option (Int32 × Mem) :=
  if x7 = 0 then
    some ((0 : Int32), M)
  else
    (f_L_append (59 : Int32) M).bind fun q5 =>
      if q5.1 ≤ 0 then
        some ((0 : Int32), q5.2)
      else
        some ((1 : Int32), q5.2)
def B_L_types_129 (k18 : Int32 → Int32 → Mem → Option (Int32 × Mem)) (x2 : Int32) (x3 : Int32) (x4 : Int32) (x5 : Int32) (x6 : Int32) (x8 : Int32) (z0 : Int32) (M : Mem) : Option (Int32 × Mem) :=
  k18 z0 (x8 + 1) M
def B_L_types_128 (k18 : Int32 → Int32 → Mem → Option (Int32 × Mem)) (x2 : Int32) (x3 : Int32) (x4 : Int32) (x5 : Int32) (x6 : Int32) (x8 : Int32) (M : Mem) : Option (Int32 × Mem) :=
  B_L_types_129 k18 x2 x3 x4 x5 x6 x8 (0 : Int32) M
def B_L_types_62 (k18 : Int32 → Int32 → Mem → Option (Int32 × Mem)) (x2 : Int32) (x3 : Int32) (x4 : Int32) (x5 : Int32) (x6 : Int32) (x8 : Int32) (z0 : Int32) (M : Mem) : Option (Int32 × Mem) :=
  (f_L_append (32 : Int32) M).bind fun q11 =>
    if q11.1 ≤ 0 then
      B_L_types_128 k18 x2 x3 x4 x5 x6 x8 q11.2
    else
      (f_L_append ((48 : Int32) + (ireM (z0 / (100 : Int32)) (10 : Int32))) q11.2).bind fun q13 =>
        if q13.1 ≤ 0 then
          B_L_types_128 k18 x2 x3 x4 x5 x6 x8 q13.2
        else
          (f_L_append ((48 : Int32) + (ireM (z0 / (10 : Int32)) (10 : Int32))) q13.2).bind fun q15 =>
            if q15.1 ≤ 0 then
              B_L_types_128 k18 x2 x3 x4 x5 x6 x8 q15.2
            else
              (f_L_append ((48 : Int32) + (ireM z0 (10 : Int32))) q15.2).bind fun q17 =>
                if q17.1 ≤ 0 then
                  B_L_types_128 k18 x2 x3 x4 x5 x6 x8 q17.2
                else
                  B_L_types_129 k18 x2 x3 x4 x5 x6 x8 (1 : Int32) q17.2
def L_L_types_18 (x2 : Int32) (x3 : Int32) (x4 : Int32) (x5 : Int32) (x6 : Int32) : Nat → Int32 → Int32 → Mem → Option (Int32 × Mem)
  | 0, _, _, _ => none
  | n + 1, x7, x8, M =>
    if x2 ≤ x8 then
      B_L_types_137 x7 M
    else
      if x7 = 0 then
        B_L_types_137 x7 M
      else
        if x8 = 0 then
          B_L_types_62 (L_L_types_18 x2 x3 x4 x5 x6 n) x2 x3 x4 x5 x6 x8 x3 M
        else
          if x8 = (1 : Int32) then
            B_L_types_62 (L_L_types_18 x2 x3 x4 x5 x6 n) x2 x3 x4 x5 x6 x8 x4 M
          else
            if x8 = (2 : Int32) then
              B_L_types_62 (L_L_types_18 x2 x3 x4 x5 x6 n) x2 x3 x4 x5 x6 x8 x5 M
            else
              B_L_types_62 (L_L_types_18 x2 x3 x4 x5 x6 n) x2 x3 x4 x5 x6 x8 x6 M
def B_L_types_13 (x2 : Int32) (x3 : Int32) (x4 : Int32) (x5 : Int32) (x6 : Int32) (z0 : Int32) (M : Mem) : Option (Int32 × Mem) :=
  L_L_types_18 x2 x3 x4 x5 x6 6 z0 (0 : Int32) M
def f_L_types (x1 : Int32) (x2 : Int32) (x3 : Int32) (x4 : Int32) (x5 : Int32) (x6 : Int32) (M : Mem) : Option (Int32 × Mem) :=
  (f_L_append x1 M).bind fun q1 =>
    if q1.1 ≤ 0 then
      B_L_types_13 x2 x3 x4 x5 x6 (0 : Int32) q1.2
    else
      B_L_types_13 x2 x3 x4 x5 x6 (1 : Int32) q1.2
def B_L_areOrders_293 (x6 : Int64) (x8 : Int32) (M : Mem) : Option (Int32 × Mem) :=
  if x8 = 0 then
    some ((0 : Int32), M)
  else
    (f_L_print M).bind fun q11 =>
      if (lcv q11.1 x6) = 0 then
        (f_X8_clearText q11.2).bind fun q13 =>
          if q13.1 ≤ 0 then
            some ((0 : Int32), q13.2)
          else
            some ((1 : Int32), q13.2)
      else
        some ((0 : Int32), q11.2)
def B_L_areOrders_285 (k261 : Int32 → Int32 → Mem → Option (Int32 × Mem)) (x6 : Int64) (x12 : Int32) (x13 : Int32) (z0 : Int32) (M : Mem) : Option (Int32 × Mem) :=
  k261 z0 (x13 + 1) M
def L_L_areOrders_261 (x6 : Int64) (x12 : Int32) : Nat → Int32 → Int32 → Mem → Option (Int32 × Mem)
  | 0, _, _, _ => none
  | n + 1, x8, x13, M =>
    if x12 ≤ x13 then
      B_L_areOrders_293 x6 x8 M
    else
      if x8 = 0 then
        B_L_areOrders_293 x6 x8 M
      else
        (f_L_undo M).bind fun q16 =>
          if q16.1 < 0 then
            B_L_areOrders_285 (L_L_areOrders_261 x6 x12 n) x6 x12 x13 (0 : Int32) q16.2
          else
            B_L_areOrders_285 (L_L_areOrders_261 x6 x12 n) x6 x12 x13 (1 : Int32) q16.2
def B_L_areOrders_256 (x6 : Int64) (x12 : Int32) (z0 : Int32) (M : Mem) : Option (Int32 × Mem) :=
  L_L_areOrders_261 x6 x12 5 z0 (0 : Int32) M
def B_L_areOrders_255 (x6 : Int64) (x12 : Int32) (M : Mem) : Option (Int32 × Mem) :=
  B_L_areOrders_256 x6 x12 (0 : Int32) M
def B_L_areOrders_251 (x6 : Int64) (x12 : Int32) (M : Mem) : Option (Int32 × Mem) :=
  B_L_areOrders_256 x6 x12 (1 : Int32) M
def B_L_areOrders_210 (x6 : Int64) (x8 : Int32) (x9 : Int32) (x10 : Int64) (x12 : Int32) (M : Mem) : Option (Int32 × Mem) :=
  if x8 = 0 then
    B_L_areOrders_255 x6 x12 M
  else
    if x9 = (3 : Int32) then
      if x12 = (3 : Int32) then
        (f_L_print M).bind fun q21 =>
          if (lcv q21.1 x10) = 0 then
            B_L_areOrders_251 x6 x12 q21.2
          else
            B_L_areOrders_255 x6 x12 q21.2
      else
        B_L_areOrders_255 x6 x12 M
    else
      if x12 = (((-1000) : Int32) - x9) then
        B_L_areOrders_251 x6 x12 M
      else
        B_L_areOrders_255 x6 x12 M
def B_L_areOrders_208 (x6 : Int64) (x8 : Int32) (x9 : Int32) (x10 : Int64) (z0 : Int32) (M : Mem) : Option (Int32 × Mem) :=
  B_L_areOrders_210 x6 x8 x9 x10 z0 M
def B_L_areOrders_152 (x1 : Int32) (x2 : Int32) (x3 : Int32) (x4 : Int32) (x5 : Int32) (x6 : Int64) (x9 : Int32) (x10 : Int64) (z0 : Int32) (M : Mem) : Option (Int32 × Mem) :=
  if z0 = 0 then
    B_L_areOrders_210 x6 z0 x9 x10 (0 : Int32) M
  else
    (f_L_pass (ireM x4 (4 : Int32)) M).bind fun q23 =>
      if q23.1 < 0 then
        B_L_areOrders_210 x6 z0 x9 x10 (0 : Int32) q23.2
      else
        (f_L_request x1 x2 ((1 : Int32) + (ireM x4 (9 : Int32))) x5 q23.2).bind fun q25 =>
          if q25.1 < ((-1) : Int32) then
            B_L_areOrders_210 x6 z0 x9 x10 (1 : Int32) q25.2
          else
            (f_L_breakUp x3 q25.2).bind fun q27 =>
              if q27.1 < 0 then
                B_L_areOrders_208 x6 z0 x9 x10 (2 : Int32) q27.2
              else
                B_L_areOrders_208 x6 z0 x9 x10 (3 : Int32) q27.2
def B_L_areOrders_151 (x1 : Int32) (x2 : Int32) (x3 : Int32) (x4 : Int32) (x5 : Int32) (x6 : Int64) (x9 : Int32) (x10 : Int64) (M : Mem) : Option (Int32 × Mem) :=
  B_L_areOrders_152 x1 x2 x3 x4 x5 x6 x9 x10 (0 : Int32) M
def B_L_areOrders_137 (x1 : Int32) (x2 : Int32) (x3 : Int32) (x4 : Int32) (x5 : Int32) (x6 : Int64) (x9 : Int32) (x10 : Int64) (M : Mem) : Option (Int32 × Mem) :=
  (f_L_print M).bind fun q32 =>
    if (lcv q32.1 x6) = 0 then
      B_L_areOrders_152 x1 x2 x3 x4 x5 x6 x9 x10 (1 : Int32) q32.2
    else
      B_L_areOrders_151 x1 x2 x3 x4 x5 x6 x9 x10 q32.2
def B_L_areOrders_129 (x1 : Int32) (x2 : Int32) (x3 : Int32) (x4 : Int32) (x5 : Int32) (x6 : Int64) (x9 : Int32) (x10 : Int64) (M : Mem) : Option (Int32 × Mem) :=
  if (lcv x10 x6) = 0 then
    B_L_areOrders_137 x1 x2 x3 x4 x5 x6 x9 x10 M
  else
    B_L_areOrders_151 x1 x2 x3 x4 x5 x6 x9 x10 M
def B_L_areOrders_78 (x1 : Int32) (x2 : Int32) (x3 : Int32) (x4 : Int32) (x5 : Int32) (x6 : Int64) (z0 : Int32) (M : Mem) : Option (Int32 × Mem) :=
  (f_X8_carryOut M).bind fun q4 =>
    (f_L_print q4.2).bind fun q5 =>
      if z0 = 0 then
        B_L_areOrders_151 x1 x2 x3 x4 x5 x6 q4.1 q5.1 q5.2
      else
        if q4.1 = (3 : Int32) then
          (f_L_undo q5.2).bind fun q35 =>
            if q35.1 < 0 then
              B_L_areOrders_151 x1 x2 x3 x4 x5 x6 q4.1 q5.1 q35.2
            else
              B_L_areOrders_137 x1 x2 x3 x4 x5 x6 q4.1 q5.1 q35.2
        else
          if q4.1 = ((-1001) : Int32) then
            B_L_areOrders_129 x1 x2 x3 x4 x5 x6 q4.1 q5.1 q5.2
          else
            if q4.1 = ((-1002) : Int32) then
              B_L_areOrders_129 x1 x2 x3 x4 x5 x6 q4.1 q5.1 q5.2
            else
              B_L_areOrders_151 x1 x2 x3 x4 x5 x6 q4.1 q5.1 q5.2
def B_L_areOrders_77 (x1 : Int32) (x2 : Int32) (x3 : Int32) (x4 : Int32) (x5 : Int32) (x6 : Int64) (M : Mem) : Option (Int32 × Mem) :=
  B_L_areOrders_78 x1 x2 x3 x4 x5 x6 (0 : Int32) M
def B_L_areOrders_53 (x1 : Int32) (x2 : Int32) (x3 : Int32) (x4 : Int32) (x5 : Int32) (x6 : Int64) (z0 : Int32) (z1 : Int32) (z2 : Int32) (z3 : Int32) (z4 : Int32) (z5 : Int32) (M : Mem) : Option (Int32 × Mem) :=
  (f_L_types z5 z4 z3 z2 z1 z0 M).bind fun q40 =>
    if q40.1 = 0 then
      B_L_areOrders_77 x1 x2 x3 x4 x5 x6 q40.2
    else
      (f_L_types (98 : Int32) (1 : Int32) x3 (0 : Int32) (0 : Int32) (0 : Int32) q40.2).bind fun q42 =>
        if q42.1 = 0 then
          B_L_areOrders_77 x1 x2 x3 x4 x5 x6 q42.2
        else
          B_L_areOrders_78 x1 x2 x3 x4 x5 x6 (1 : Int32) q42.2
def f_L_areOrders (x1 : Int32) (x2 : Int32) (x3 : Int32) (x4 : Int32) (x5 : Int32) (M : Mem) : Option (Int32 × Mem) :=
  (f_L_print M).bind fun q1 =>
    (f_X8_clearText q1.2).bind fun q2 =>
      if q2.1 < 0 then
        B_L_areOrders_77 x1 x2 x3 x4 x5 q1.1 q2.2
      else
        (f_L_types (112 : Int32) (1 : Int32) (ireM x4 (4 : Int32)) (0 : Int32) (0 : Int32) (0 : Int32) q2.2).bind fun q37 =>
          if q37.1 = 0 then
            B_L_areOrders_77 x1 x2 x3 x4 x5 q1.1 q37.2
          else
            if x5 = 0 then
              B_L_areOrders_53 x1 x2 x3 x4 x5 q1.1 (0 : Int32) ((1 : Int32) + (ireM x4 (9 : Int32))) x2 x1 (4 : Int32) (113 : Int32) q37.2
            else
              B_L_areOrders_53 x1 x2 x3 x4 x5 q1.1 (1 : Int32) ((1 : Int32) + (ireM x4 (9 : Int32))) x2 x1 (4 : Int32) (113 : Int32) q37.2
def B_L_law_655 (xs : Nat → Int32) (nS : Nat) (x2 : Int32) (M : Mem) : Option Int32 :=
  if x2 = 0 then
    some 0
  else
    (f_L_outline (0 : Int32) M).bind fun q6 =>
      if q6.1 = (48 : Int32) then
        (f_L_refused q6.2).bind fun q8 =>
          if q8.1 = 0 then
            some 0
          else
            some 1
      else
        some 0
def B_L_law_648 (xs : Nat → Int32) (nS : Nat) (k86 : Int32 → Int32 → Mem → Option Int32) (x3 : Int32) (z0 : Int32) (M : Mem) : Option Int32 :=
  k86 z0 (x3 + 1) M
def B_L_law_647 (xs : Nat → Int32) (nS : Nat) (k86 : Int32 → Int32 → Mem → Option Int32) (x3 : Int32) (M : Mem) : Option Int32 :=
  B_L_law_648 xs nS k86 x3 (0 : Int32) M
def B_L_law_643 (xs : Nat → Int32) (nS : Nat) (k86 : Int32 → Int32 → Mem → Option Int32) (x3 : Int32) (M : Mem) : Option Int32 :=
  B_L_law_648 xs nS k86 x3 (1 : Int32) M
def B_L_law_611 (xs : Nat → Int32) (nS : Nat) (k86 : Int32 → Int32 → Mem → Option Int32) (x3 : Int32) (x5 : Int32) (z0 : Int32) (M : Mem) : Option Int32 :=
  (f_L_waitsFor x5 M).bind fun q24 =>
    if z0 = 0 then
      B_L_law_647 xs nS k86 x3 q24.2
    else
      if q24.1 = ((-52) : Int32) then
        B_L_law_643 xs nS k86 x3 q24.2
      else
        if q24.1 < 0 then
          B_L_law_647 xs nS k86 x3 q24.2
        else
          if (64 : Int32) ≤ q24.1 then
            B_L_law_647 xs nS k86 x3 q24.2
          else
            B_L_law_643 xs nS k86 x3 q24.2
def B_L_law_610 (xs : Nat → Int32) (nS : Nat) (k86 : Int32 → Int32 → Mem → Option Int32) (x3 : Int32) (x5 : Int32) (M : Mem) : Option Int32 :=
  B_L_law_611 xs nS k86 x3 x5 (0 : Int32) M
def B_L_law_606 (xs : Nat → Int32) (nS : Nat) (k86 : Int32 → Int32 → Mem → Option Int32) (x3 : Int32) (x5 : Int32) (M : Mem) : Option Int32 :=
  B_L_law_611 xs nS k86 x3 x5 (1 : Int32) M
def B_L_law_591 (xs : Nat → Int32) (nS : Nat) (k86 : Int32 → Int32 → Mem → Option Int32) (x3 : Int32) (x5 : Int32) (M : Mem) : Option Int32 :=
  if (ireM x3 (7 : Int32)) = (2 : Int32) then
    (f_L_refused M).bind fun q34 =>
      if q34.1 = 0 then
        B_L_law_610 xs nS k86 x3 x5 q34.2
      else
        B_L_law_606 xs nS k86 x3 x5 q34.2
  else
    B_L_law_606 xs nS k86 x3 x5 M
def B_L_law_585 (xs : Nat → Int32) (nS : Nat) (k86 : Int32 → Int32 → Mem → Option Int32) (x3 : Int32) (x5 : Int32) (z0 : Int32) (z1 : Int32) (z2 : Int32) (z3 : Int32) (z4 : Int32) (M : Mem) : Option Int32 :=
  (f_L_areOrders z4 z3 z2 z1 z0 M).bind fun q37 =>
    if q37.1 = 0 then
      B_L_law_610 xs nS k86 x3 x5 q37.2
    else
      B_L_law_591 xs nS k86 x3 x5 q37.2
def B_L_law_544 (xs : Nat → Int32) (nS : Nat) (k86 : Int32 → Int32 → Mem → Option Int32) (x3 : Int32) (x4 : Int32) (x5 : Int32) (x6 : Int32) (x7 : Int32) (x8 : Int32) (M : Mem) : Option Int32 :=
  (f_L_comesBack x7 M).bind fun q30 =>
    if q30.1 = 0 then
      B_L_law_610 xs nS k86 x3 x5 q30.2
    else
      if (ireM x3 (4 : Int32)) = (1 : Int32) then
        if ((x4 >>> ((23 : Int32) &&& 31)) &&& (1 : Int32)) = (1 : Int32) then
          B_L_law_585 xs nS k86 x3 x5 (1 : Int32) x8 x7 x6 x5 q30.2
        else
          B_L_law_585 xs nS k86 x3 x5 (0 : Int32) x8 x7 x6 x5 q30.2
      else
        B_L_law_591 xs nS k86 x3 x5 q30.2
def B_L_law_526 (xs : Nat → Int32) (nS : Nat) (k86 : Int32 → Int32 → Mem → Option Int32) (x3 : Int32) (x4 : Int32) (x5 : Int32) (x6 : Int32) (x7 : Int32) (x8 : Int32) (z0 : Int32) (M : Mem) : Option Int32 :=
  if z0 = 0 then
    B_L_law_610 xs nS k86 x3 x5 M
  else
    if (ireM x3 (3 : Int32)) = 0 then
      (f_L_isGranted M).bind fun q39 =>
        if q39.1 = 0 then
          B_L_law_610 xs nS k86 x3 x5 q39.2
        else
          B_L_law_544 xs nS k86 x3 x4 x5 x6 x7 x8 q39.2
    else
      B_L_law_544 xs nS k86 x3 x4 x5 x6 x7 x8 M
def B_L_law_525 (xs : Nat → Int32) (nS : Nat) (k86 : Int32 → Int32 → Mem → Option Int32) (x3 : Int32) (x4 : Int32) (x5 : Int32) (x6 : Int32) (x7 : Int32) (x8 : Int32) (M : Mem) : Option Int32 :=
  B_L_law_526 xs nS k86 x3 x4 x5 x6 x7 x8 (0 : Int32) M
def B_L_law_490 (xs : Nat → Int32) (nS : Nat) (k86 : Int32 → Int32 → Mem → Option Int32) (x3 : Int32) (x4 : Int32) (x5 : Int32) (x6 : Int32) (x7 : Int32) (x8 : Int32) (M : Mem) : Option Int32 :=
  (f_L_areApart M).bind fun q21 =>
    if q21.1 = 0 then
      B_L_law_525 xs nS k86 x3 x4 x5 x6 x7 x8 q21.2
    else
      (f_L_isTree q21.2).bind fun q41 =>
        if q41.1 = 0 then
          B_L_law_525 xs nS k86 x3 x4 x5 x6 x7 x8 q41.2
        else
          (f_L_isTold q41.2).bind fun q43 =>
            if q43.1 = 0 then
              B_L_law_525 xs nS k86 x3 x4 x5 x6 x7 x8 q43.2
            else
              (f_L_isPutBack x6 (0 : Int32) q43.2).bind fun q45 =>
                if q45.1 = 0 then
                  B_L_law_525 xs nS k86 x3 x4 x5 x6 x7 x8 q45.2
                else
                  B_L_law_526 xs nS k86 x3 x4 x5 x6 x7 x8 (1 : Int32) q45.2
def B_L_law_463 (xs : Nat → Int32) (nS : Nat) (k86 : Int32 → Int32 → Mem → Option Int32) (x3 : Int32) (x4 : Int32) (x5 : Int32) (x6 : Int32) (x7 : Int32) (x8 : Int32) (x9 : Int32) (M : Mem) : Option Int32 :=
  if ((-1) : Int32) ≤ x9 then
    B_L_law_490 xs nS k86 x3 x4 x5 x6 x7 x8 M
  else
    if x9 = ((-52) : Int32) then
      B_L_law_490 xs nS k86 x3 x4 x5 x6 x7 x8 M
    else
      if x9 = ((-53) : Int32) then
        B_L_law_490 xs nS k86 x3 x4 x5 x6 x7 x8 M
      else
        if x9 = ((-51) : Int32) then
          B_L_law_490 xs nS k86 x3 x4 x5 x6 x7 x8 M
        else
          B_L_law_525 xs nS k86 x3 x4 x5 x6 x7 x8 M
def B_L_law_252 (xs : Nat → Int32) (nS : Nat) (k86 : Int32 → Int32 → Mem → Option Int32) (x3 : Int32) (x4 : Int32) (x5 : Int32) (x6 : Int32) (x7 : Int32) (x8 : Int32) (z0 : Int32) (z1 : Int32) (z2 : Int32) (z3 : Int32) (M : Mem) : Option Int32 :=
  (f_L_request z3 z2 z1 z0 M).bind fun q19 =>
    B_L_law_463 xs nS k86 x3 x4 x5 x6 x7 x8 q19.1 q19.2
def B_L_law_340 (xs : Nat → Int32) (nS : Nat) (k86 : Int32 → Int32 → Mem → Option Int32) (x3 : Int32) (x4 : Int32) (x5 : Int32) (x6 : Int32) (x7 : Int32) (x8 : Int32) (z0 : Int32) (M : Mem) : Option Int32 :=
  B_L_law_463 xs nS k86 x3 x4 x5 x6 x7 x8 z0 M
def B_L_law_378 (xs : Nat → Int32) (nS : Nat) (k86 : Int32 → Int32 → Mem → Option Int32) (x3 : Int32) (x4 : Int32) (x5 : Int32) (x6 : Int32) (x7 : Int32) (x8 : Int32) (z0 : Int32) (M : Mem) : Option Int32 :=
  B_L_law_463 xs nS k86 x3 x4 x5 x6 x7 x8 z0 M
def B_L_law_411 (xs : Nat → Int32) (nS : Nat) (k86 : Int32 → Int32 → Mem → Option Int32) (x3 : Int32) (x4 : Int32) (x5 : Int32) (x6 : Int32) (x7 : Int32) (x8 : Int32) (z0 : Int32) (M : Mem) : Option Int32 :=
  B_L_law_463 xs nS k86 x3 x4 x5 x6 x7 x8 z0 M
def B_L_law_449 (xs : Nat → Int32) (nS : Nat) (k86 : Int32 → Int32 → Mem → Option Int32) (x3 : Int32) (x4 : Int32) (x5 : Int32) (x6 : Int32) (x7 : Int32) (x8 : Int32) (z0 : Int32) (M : Mem) : Option Int32 :=
  B_L_law_463 xs nS k86 x3 x4 x5 x6 x7 x8 z0 M
def L_L_law_86 (xs : Nat → Int32) (nS : Nat) : Nat → Int32 → Int32 → Mem → Option Int32
  | 0, _, _, _ => none
  | n + 1, x2, x3, M =>
    if (22 : Int32) ≤ x3 then
      B_L_law_655 xs nS x2 M
    else
      if x2 = 0 then
        B_L_law_655 xs nS x2 M
      else
        if (0 : Int32) ≤ x3 then
          (f_L_low ((cellv xs nS x3) >>> ((5 : Int32) &&& 31)) (6 : Int32)).bind fun q12 =>
            (f_L_low ((cellv xs nS x3) >>> ((8 : Int32) &&& 31)) (8 : Int32)).bind fun q13 =>
              (f_L_low ((cellv xs nS x3) >>> ((11 : Int32) &&& 31)) (6 : Int32)).bind fun q14 =>
                (f_L_low ((cellv xs nS x3) >>> ((14 : Int32) &&& 31)) (1000 : Int32)).bind fun q15 =>
                  (f_L_low (cellv xs nS x3) (13 : Int32)).bind fun q16 =>
                    if q16 = (0 : Int32) then
                      if (((cellv xs nS x3) >>> ((24 : Int32) &&& 31)) &&& (1 : Int32)) = (1 : Int32) then
                        B_L_law_252 xs nS (L_L_law_86 xs nS n) x3 (cellv xs nS x3) q12 q13 q14 q15 (1 : Int32) ((1 : Int32) + (ireM q15 (30 : Int32))) q13 q12 M
                      else
                        B_L_law_252 xs nS (L_L_law_86 xs nS n) x3 (cellv xs nS x3) q12 q13 q14 q15 (0 : Int32) ((1 : Int32) + (ireM q15 (30 : Int32))) q13 q12 M
                    else
                    if q16 = (1 : Int32) then
                      if (((cellv xs nS x3) >>> ((24 : Int32) &&& 31)) &&& (1 : Int32)) = (1 : Int32) then
                        B_L_law_252 xs nS (L_L_law_86 xs nS n) x3 (cellv xs nS x3) q12 q13 q14 q15 (1 : Int32) ((1 : Int32) + (ireM q15 (30 : Int32))) q13 q12 M
                      else
                        B_L_law_252 xs nS (L_L_law_86 xs nS n) x3 (cellv xs nS x3) q12 q13 q14 q15 (0 : Int32) ((1 : Int32) + (ireM q15 (30 : Int32))) q13 q12 M
                    else
                    if q16 = (2 : Int32) then
                      if (((cellv xs nS x3) >>> ((24 : Int32) &&& 31)) &&& (1 : Int32)) = (1 : Int32) then
                        B_L_law_252 xs nS (L_L_law_86 xs nS n) x3 (cellv xs nS x3) q12 q13 q14 q15 (1 : Int32) ((1 : Int32) + (ireM q15 (30 : Int32))) q13 q12 M
                      else
                        B_L_law_252 xs nS (L_L_law_86 xs nS n) x3 (cellv xs nS x3) q12 q13 q14 q15 (0 : Int32) ((1 : Int32) + (ireM q15 (30 : Int32))) q13 q12 M
                    else
                    if q16 = (3 : Int32) then
                      if (((cellv xs nS x3) >>> ((24 : Int32) &&& 31)) &&& (1 : Int32)) = (1 : Int32) then
                        B_L_law_252 xs nS (L_L_law_86 xs nS n) x3 (cellv xs nS x3) q12 q13 q14 q15 (1 : Int32) ((1 : Int32) + (ireM q15 (30 : Int32))) q13 q12 M
                      else
                        B_L_law_252 xs nS (L_L_law_86 xs nS n) x3 (cellv xs nS x3) q12 q13 q14 q15 (0 : Int32) ((1 : Int32) + (ireM q15 (30 : Int32))) q13 q12 M
                    else
                    if q16 = (4 : Int32) then
                      (f_L_edit q14 q13 (ireM q15 (3 : Int32)) q15 M).bind fun q57 =>
                        B_L_law_463 xs nS (L_L_law_86 xs nS n) x3 (cellv xs nS x3) q12 q13 q14 q15 q57.1 q57.2
                    else
                    if q16 = (5 : Int32) then
                      (f_L_edit q14 q13 (ireM q15 (3 : Int32)) q15 M).bind fun q59 =>
                        B_L_law_463 xs nS (L_L_law_86 xs nS n) x3 (cellv xs nS x3) q12 q13 q14 q15 q59.1 q59.2
                    else
                    if q16 = (6 : Int32) then
                      (f_L_pass (ireM q15 (12 : Int32)) M).bind fun q61 =>
                        B_L_law_463 xs nS (L_L_law_86 xs nS n) x3 (cellv xs nS x3) q12 q13 q14 q15 q61.1 q61.2
                    else
                    if q16 = (7 : Int32) then
                      (f_L_write q13 (ireM q15 (3 : Int32)) q15 M).bind fun q63 =>
                        B_L_law_463 xs nS (L_L_law_86 xs nS n) x3 (cellv xs nS x3) q12 q13 q14 q15 q63.1 q63.2
                    else
                    if q16 = (8 : Int32) then
                      if (((cellv xs nS x3) >>> ((24 : Int32) &&& 31)) &&& (1 : Int32)) = (1 : Int32) then
                        (f_L_giveBack q14 (ireM q15 (3 : Int32)) M).bind fun q67 =>
                          B_L_law_340 xs nS (L_L_law_86 xs nS n) x3 (cellv xs nS x3) q12 q13 q14 q15 q67.1 q67.2
                      else
                        (f_L_breakUp q14 M).bind fun q66 =>
                          B_L_law_340 xs nS (L_L_law_86 xs nS n) x3 (cellv xs nS x3) q12 q13 q14 q15 q66.1 q66.2
                    else
                    if q16 = (9 : Int32) then
                      if (((cellv xs nS x3) >>> ((24 : Int32) &&& 31)) &&& (1 : Int32)) = (1 : Int32) then
                        (f_L_cancel q12 M).bind fun q71 =>
                          B_L_law_378 xs nS (L_L_law_86 xs nS n) x3 (cellv xs nS x3) q12 q13 q14 q15 q71.1 q71.2
                      else
                        (f_L_renew q14 ((1 : Int32) + (ireM q15 (20 : Int32))) M).bind fun q70 =>
                          B_L_law_378 xs nS (L_L_law_86 xs nS n) x3 (cellv xs nS x3) q12 q13 q14 q15 q70.1 q70.2
                    else
                    if q16 = (10 : Int32) then
                      if (((cellv xs nS x3) >>> ((24 : Int32) &&& 31)) &&& (1 : Int32)) = (1 : Int32) then
                        (f_L_removeSection q13 M).bind fun q75 =>
                          B_L_law_411 xs nS (L_L_law_86 xs nS n) x3 (cellv xs nS x3) q12 q13 q14 q15 q75.1 q75.2
                      else
                        (f_L_moveSection q13 q12 M).bind fun q74 =>
                          B_L_law_411 xs nS (L_L_law_86 xs nS n) x3 (cellv xs nS x3) q12 q13 q14 q15 q74.1 q74.2
                    else
                    if q16 = (11 : Int32) then
                      if (((cellv xs nS x3) >>> ((24 : Int32) &&& 31)) &&& (1 : Int32)) = (1 : Int32) then
                        (f_L_addSection q13 M).bind fun q79 =>
                          B_L_law_449 xs nS (L_L_law_86 xs nS n) x3 (cellv xs nS x3) q12 q13 q14 q15 q79.1 q79.2
                      else
                        (f_L_edit q14 (0 : Int32) (ireM q15 (3 : Int32)) q15 M).bind fun q78 =>
                          B_L_law_449 xs nS (L_L_law_86 xs nS n) x3 (cellv xs nS x3) q12 q13 q14 q15 q78.1 q78.2
                    else
                    (f_L_revert q13 (0 : Int32) M).bind fun q80 =>
                      B_L_law_463 xs nS (L_L_law_86 xs nS n) x3 (cellv xs nS x3) q12 q13 q14 q15 q80.1 q80.2
        else none
def B_L_law_84 (xs : Nat → Int32) (nS : Nat) (x2 : Int32) (M : Mem) : Option Int32 :=
  L_L_law_86 xs nS 23 x2 (0 : Int32) M
def B_L_law_77 (xs : Nat → Int32) (nS : Nat) (k40 : Int32 → Int32 → Mem → Option Int32) (x3 : Int32) (z0 : Int32) (M : Mem) : Option Int32 :=
  k40 z0 (x3 + 1) M
def L_L_law_40 (xs : Nat → Int32) (nS : Nat) : Nat → Int32 → Int32 → Mem → Option Int32
  | 0, _, _, _ => none
  | n + 1, x2, x3, M =>
    if (8 : Int32) ≤ x3 then
      B_L_law_84 xs nS x2 M
    else
      if x2 = 0 then
        B_L_law_84 xs nS x2 M
      else
        if (0 : Int32) ≤ (40 : Int32) then
          (f_L_low ((cellv xs nS (40 : Int32)) >>> (((3 : Int32) * x3) &&& 31)) x3).bind fun q83 =>
            (f_L_addSection q83 M).bind fun q84 =>
              if q84.1 = x3 then
                B_L_law_77 xs nS (L_L_law_40 xs nS n) x3 (1 : Int32) q84.2
              else
                B_L_law_77 xs nS (L_L_law_40 xs nS n) x3 (0 : Int32) q84.2
        else none
def B_L_law_37 (xs : Nat → Int32) (nS : Nat) (z0 : Int32) (M : Mem) : Option Int32 :=
  L_L_law_40 xs nS 8 z0 (1 : Int32) M
def B_L_law_36 (xs : Nat → Int32) (nS : Nat) (M : Mem) : Option Int32 :=
  B_L_law_37 xs nS (0 : Int32) M
def f_L_law (xs : Nat → Int32) (nS : Nat) (M : Mem) : Option Int32 :=
  (f_L_undo M).bind fun q1 =>
    if q1.1 = ((-52) : Int32) then
      (f_L_pass (0 : Int32) q1.2).bind fun q86 =>
        if q86.1 = 0 then
          (f_L_refused q86.2).bind fun q88 =>
            if q88.1 = 0 then
              B_L_law_36 xs nS q88.2
            else
              B_L_law_37 xs nS (1 : Int32) q88.2
        else
          B_L_law_36 xs nS q86.2
    else
      B_L_law_36 xs nS q1.2
theorem gw_0 : (Cond.initialized "SectionDeskLaw") ∈ GL := gl_of 40 (by decide +kernel) (by decide +kernel)
theorem gw_227 : (Cond.methodLink "SectionDeskLaw" (218 : Nat) ({ cls := "SectionDeskLaw", name := "cell", desc := "([II)I" } : MethodName)) ∈ GL := gl_of 267 (by decide +kernel) (by decide +kernel)
theorem gw_228 : (Cond.static ({ cls := "SectionDeskLaw", name := "cell", desc := "([II)I" } : MethodName)) ∈ GL := gl_of 268 (by decide +kernel) (by decide +kernel)
theorem gw_229 : (Cond.code ({ cls := "SectionDeskLaw", name := "cell", desc := "([II)I" } : MethodName) method_2_code (2 : Nat) (Option.some FieldType.int)) ∈ GL := gl_of 269 (by decide +kernel) (by decide +kernel)
theorem gw_230 : (Cond.constant "SectionDeskLaw" (7 : Nat) (916318735 : Int32)) ∈ GL := gl_of 270 (by decide +kernel) (by decide +kernel)
theorem gw_231 : (Cond.methodLink "SectionDeskLaw" (222 : Nat) ({ cls := "SectionDeskLaw", name := "low", desc := "(II)I" } : MethodName)) ∈ GL := gl_of 271 (by decide +kernel) (by decide +kernel)
theorem gw_232 : (Cond.static ({ cls := "SectionDeskLaw", name := "low", desc := "(II)I" } : MethodName)) ∈ GL := gl_of 272 (by decide +kernel) (by decide +kernel)
theorem gw_233 : (Cond.code ({ cls := "SectionDeskLaw", name := "low", desc := "(II)I" } : MethodName) method_3_code (2 : Nat) (Option.some FieldType.int)) ∈ GL := gl_of 273 (by decide +kernel) (by decide +kernel)
theorem gw_234 : (Cond.constant "SectionDeskLaw" (8 : Nat) (2147483647 : Int32)) ∈ GL := gl_of 274 (by decide +kernel) (by decide +kernel)
theorem gw_235 : (Cond.methodLink "SectionDeskLaw" (155 : Nat) ({ cls := "SectionDeskLaw", name := "addSection", desc := "(LSectionDesk;I)I" } : MethodName)) ∈ GL := gl_of 275 (by decide +kernel) (by decide +kernel)
theorem gw_236 : (Cond.static ({ cls := "SectionDeskLaw", name := "addSection", desc := "(LSectionDesk;I)I" } : MethodName)) ∈ GL := gl_of 276 (by decide +kernel) (by decide +kernel)
theorem gw_237 : (Cond.codeWith ({ cls := "SectionDeskLaw", name := "addSection", desc := "(LSectionDesk;I)I" } : MethodName) method_4_code (4 : Nat) (Option.some FieldType.int) [((0 : Nat), (6 : Nat), (9 : Nat), (15 : Nat)), ((0 : Nat), (6 : Nat), (13 : Nat), (17 : Nat))]) ∈ GL := gl_of 277 (by decide +kernel) (by decide +kernel)
theorem gw_462 : (Cond.methodLink "SectionDeskLaw" (157 : Nat) ({ cls := "SectionDeskLaw", name := "removeSection", desc := "(LSectionDesk;I)I" } : MethodName)) ∈ GL := gl_of 502 (by decide +kernel) (by decide +kernel)
theorem gw_463 : (Cond.static ({ cls := "SectionDeskLaw", name := "removeSection", desc := "(LSectionDesk;I)I" } : MethodName)) ∈ GL := gl_of 503 (by decide +kernel) (by decide +kernel)
theorem gw_464 : (Cond.codeWith ({ cls := "SectionDeskLaw", name := "removeSection", desc := "(LSectionDesk;I)I" } : MethodName) method_5_code (4 : Nat) (Option.some FieldType.int) [((0 : Nat), (6 : Nat), (9 : Nat), (15 : Nat)), ((0 : Nat), (6 : Nat), (13 : Nat), (22 : Nat)), ((0 : Nat), (6 : Nat), (17 : Nat), (17 : Nat))]) ∈ GL := gl_of 504 (by decide +kernel) (by decide +kernel)
theorem gw_522 : (Cond.methodLink "SectionDeskLaw" (159 : Nat) ({ cls := "SectionDeskLaw", name := "moveSection", desc := "(LSectionDesk;II)I" } : MethodName)) ∈ GL := gl_of 562 (by decide +kernel) (by decide +kernel)
theorem gw_523 : (Cond.static ({ cls := "SectionDeskLaw", name := "moveSection", desc := "(LSectionDesk;II)I" } : MethodName)) ∈ GL := gl_of 563 (by decide +kernel) (by decide +kernel)
theorem gw_524 : (Cond.codeWith ({ cls := "SectionDeskLaw", name := "moveSection", desc := "(LSectionDesk;II)I" } : MethodName) method_6_code (5 : Nat) (Option.some FieldType.int) [((0 : Nat), (7 : Nat), (10 : Nat), (15 : Nat)), ((0 : Nat), (7 : Nat), (15 : Nat), (22 : Nat)), ((0 : Nat), (7 : Nat), (20 : Nat), (17 : Nat))]) ∈ GL := gl_of 564 (by decide +kernel) (by decide +kernel)
theorem gw_546 : (Cond.methodLink "SectionDeskLaw" (163 : Nat) ({ cls := "SectionDeskLaw", name := "write", desc := "(LSectionDesk;III)I" } : MethodName)) ∈ GL := gl_of 586 (by decide +kernel) (by decide +kernel)
theorem gw_547 : (Cond.static ({ cls := "SectionDeskLaw", name := "write", desc := "(LSectionDesk;III)I" } : MethodName)) ∈ GL := gl_of 587 (by decide +kernel) (by decide +kernel)
theorem gw_548 : (Cond.codeWith ({ cls := "SectionDeskLaw", name := "write", desc := "(LSectionDesk;III)I" } : MethodName) method_10_code (6 : Nat) (Option.some FieldType.int) [((0 : Nat), (9 : Nat), (12 : Nat), (15 : Nat)), ((0 : Nat), (9 : Nat), (17 : Nat), (22 : Nat)), ((0 : Nat), (9 : Nat), (22 : Nat), (17 : Nat))]) ∈ GL := gl_of 588 (by decide +kernel) (by decide +kernel)
theorem gw_600 : (Cond.methodLink "SectionDeskLaw" (166 : Nat) ({ cls := "SectionDeskLaw", name := "request", desc := "(LSectionDesk;IIIZ)I" } : MethodName)) ∈ GL := gl_of 640 (by decide +kernel) (by decide +kernel)
theorem gw_601 : (Cond.static ({ cls := "SectionDeskLaw", name := "request", desc := "(LSectionDesk;IIIZ)I" } : MethodName)) ∈ GL := gl_of 641 (by decide +kernel) (by decide +kernel)
theorem gw_602 : (Cond.codeWith ({ cls := "SectionDeskLaw", name := "request", desc := "(LSectionDesk;IIIZ)I" } : MethodName) method_11_code (7 : Nat) (Option.some FieldType.int) [((0 : Nat), (11 : Nat), (14 : Nat), (15 : Nat)), ((0 : Nat), (11 : Nat), (19 : Nat), (22 : Nat)), ((0 : Nat), (11 : Nat), (24 : Nat), (17 : Nat))]) ∈ GL := gl_of 642 (by decide +kernel) (by decide +kernel)
theorem gw_720 : (Cond.methodLink "SectionDeskLaw" (168 : Nat) ({ cls := "SectionDeskLaw", name := "cancel", desc := "(LSectionDesk;I)I" } : MethodName)) ∈ GL := gl_of 760 (by decide +kernel) (by decide +kernel)
theorem gw_721 : (Cond.static ({ cls := "SectionDeskLaw", name := "cancel", desc := "(LSectionDesk;I)I" } : MethodName)) ∈ GL := gl_of 761 (by decide +kernel) (by decide +kernel)
theorem gw_722 : (Cond.codeWith ({ cls := "SectionDeskLaw", name := "cancel", desc := "(LSectionDesk;I)I" } : MethodName) method_12_code (4 : Nat) (Option.some FieldType.int) [((0 : Nat), (6 : Nat), (9 : Nat), (15 : Nat)), ((0 : Nat), (6 : Nat), (13 : Nat), (17 : Nat))]) ∈ GL := gl_of 762 (by decide +kernel) (by decide +kernel)
theorem gw_739 : (Cond.methodLink "SectionDeskLaw" (170 : Nat) ({ cls := "SectionDeskLaw", name := "renew", desc := "(LSectionDesk;II)I" } : MethodName)) ∈ GL := gl_of 779 (by decide +kernel) (by decide +kernel)
theorem gw_740 : (Cond.static ({ cls := "SectionDeskLaw", name := "renew", desc := "(LSectionDesk;II)I" } : MethodName)) ∈ GL := gl_of 780 (by decide +kernel) (by decide +kernel)
theorem gw_741 : (Cond.codeWith ({ cls := "SectionDeskLaw", name := "renew", desc := "(LSectionDesk;II)I" } : MethodName) method_13_code (5 : Nat) (Option.some FieldType.int) [((0 : Nat), (7 : Nat), (10 : Nat), (15 : Nat)), ((0 : Nat), (7 : Nat), (15 : Nat), (22 : Nat)), ((0 : Nat), (7 : Nat), (20 : Nat), (17 : Nat))]) ∈ GL := gl_of 781 (by decide +kernel) (by decide +kernel)
theorem gw_759 : (Cond.methodLink "SectionDeskLaw" (172 : Nat) ({ cls := "SectionDeskLaw", name := "breakUp", desc := "(LSectionDesk;I)I" } : MethodName)) ∈ GL := gl_of 799 (by decide +kernel) (by decide +kernel)
theorem gw_760 : (Cond.static ({ cls := "SectionDeskLaw", name := "breakUp", desc := "(LSectionDesk;I)I" } : MethodName)) ∈ GL := gl_of 800 (by decide +kernel) (by decide +kernel)
theorem gw_761 : (Cond.codeWith ({ cls := "SectionDeskLaw", name := "breakUp", desc := "(LSectionDesk;I)I" } : MethodName) method_14_code (4 : Nat) (Option.some FieldType.int) [((0 : Nat), (6 : Nat), (9 : Nat), (15 : Nat)), ((0 : Nat), (6 : Nat), (13 : Nat), (17 : Nat))]) ∈ GL := gl_of 801 (by decide +kernel) (by decide +kernel)
theorem gw_783 : (Cond.methodLink "SectionDeskLaw" (176 : Nat) ({ cls := "SectionDeskLaw", name := "edit", desc := "(LSectionDesk;IIII)I" } : MethodName)) ∈ GL := gl_of 823 (by decide +kernel) (by decide +kernel)
theorem gw_784 : (Cond.static ({ cls := "SectionDeskLaw", name := "edit", desc := "(LSectionDesk;IIII)I" } : MethodName)) ∈ GL := gl_of 824 (by decide +kernel) (by decide +kernel)
theorem gw_785 : (Cond.codeWith ({ cls := "SectionDeskLaw", name := "edit", desc := "(LSectionDesk;IIII)I" } : MethodName) method_16_code (7 : Nat) (Option.some FieldType.int) [((0 : Nat), (11 : Nat), (14 : Nat), (15 : Nat)), ((0 : Nat), (11 : Nat), (19 : Nat), (22 : Nat)), ((0 : Nat), (11 : Nat), (24 : Nat), (17 : Nat))]) ∈ GL := gl_of 825 (by decide +kernel) (by decide +kernel)
theorem gw_808 : (Cond.methodLink "SectionDeskLaw" (179 : Nat) ({ cls := "SectionDeskLaw", name := "giveBack", desc := "(LSectionDesk;II)I" } : MethodName)) ∈ GL := gl_of 848 (by decide +kernel) (by decide +kernel)
theorem gw_809 : (Cond.static ({ cls := "SectionDeskLaw", name := "giveBack", desc := "(LSectionDesk;II)I" } : MethodName)) ∈ GL := gl_of 849 (by decide +kernel) (by decide +kernel)
theorem gw_810 : (Cond.codeWith ({ cls := "SectionDeskLaw", name := "giveBack", desc := "(LSectionDesk;II)I" } : MethodName) method_19_code (5 : Nat) (Option.some FieldType.int) [((0 : Nat), (7 : Nat), (10 : Nat), (15 : Nat)), ((0 : Nat), (7 : Nat), (15 : Nat), (22 : Nat)), ((0 : Nat), (7 : Nat), (20 : Nat), (17 : Nat))]) ∈ GL := gl_of 850 (by decide +kernel) (by decide +kernel)
theorem gw_845 : (Cond.methodLink "SectionDeskLaw" (248 : Nat) ({ cls := "SectionDeskLaw", name := "waitsFor", desc := "(LSectionDesk;I)I" } : MethodName)) ∈ GL := gl_of 885 (by decide +kernel) (by decide +kernel)
theorem gw_846 : (Cond.static ({ cls := "SectionDeskLaw", name := "waitsFor", desc := "(LSectionDesk;I)I" } : MethodName)) ∈ GL := gl_of 886 (by decide +kernel) (by decide +kernel)
theorem gw_847 : (Cond.codeWith ({ cls := "SectionDeskLaw", name := "waitsFor", desc := "(LSectionDesk;I)I" } : MethodName) method_24_code (4 : Nat) (Option.some FieldType.int) [((0 : Nat), (6 : Nat), (9 : Nat), (15 : Nat)), ((0 : Nat), (6 : Nat), (13 : Nat), (17 : Nat))]) ∈ GL := gl_of 887 (by decide +kernel) (by decide +kernel)
theorem gw_857 : (Cond.methodLink "SectionDeskLaw" (191 : Nat) ({ cls := "SectionDeskLaw", name := "revert", desc := "(LSectionDesk;II)I" } : MethodName)) ∈ GL := gl_of 897 (by decide +kernel) (by decide +kernel)
theorem gw_858 : (Cond.static ({ cls := "SectionDeskLaw", name := "revert", desc := "(LSectionDesk;II)I" } : MethodName)) ∈ GL := gl_of 898 (by decide +kernel) (by decide +kernel)
theorem gw_859 : (Cond.codeWith ({ cls := "SectionDeskLaw", name := "revert", desc := "(LSectionDesk;II)I" } : MethodName) method_28_code (5 : Nat) (Option.some FieldType.int) [((0 : Nat), (7 : Nat), (10 : Nat), (15 : Nat)), ((0 : Nat), (7 : Nat), (15 : Nat), (22 : Nat)), ((0 : Nat), (7 : Nat), (20 : Nat), (17 : Nat))]) ∈ GL := gl_of 899 (by decide +kernel) (by decide +kernel)
theorem gw_878 : (Cond.methodLink "SectionDeskLaw" (127 : Nat) ({ cls := "SectionDeskLaw", name := "pass", desc := "(LSectionDesk;I)I" } : MethodName)) ∈ GL := gl_of 918 (by decide +kernel) (by decide +kernel)
theorem gw_879 : (Cond.static ({ cls := "SectionDeskLaw", name := "pass", desc := "(LSectionDesk;I)I" } : MethodName)) ∈ GL := gl_of 919 (by decide +kernel) (by decide +kernel)
theorem gw_880 : (Cond.codeWith ({ cls := "SectionDeskLaw", name := "pass", desc := "(LSectionDesk;I)I" } : MethodName) method_30_code (4 : Nat) (Option.some FieldType.int) [((0 : Nat), (6 : Nat), (9 : Nat), (22 : Nat))]) ∈ GL := gl_of 920 (by decide +kernel) (by decide +kernel)
theorem gw_909 : (Cond.methodLink "SectionDeskLaw" (195 : Nat) ({ cls := "SectionDeskLaw", name := "outline", desc := "(LSectionDesk;I)I" } : MethodName)) ∈ GL := gl_of 949 (by decide +kernel) (by decide +kernel)
theorem gw_910 : (Cond.static ({ cls := "SectionDeskLaw", name := "outline", desc := "(LSectionDesk;I)I" } : MethodName)) ∈ GL := gl_of 950 (by decide +kernel) (by decide +kernel)
theorem gw_911 : (Cond.codeWith ({ cls := "SectionDeskLaw", name := "outline", desc := "(LSectionDesk;I)I" } : MethodName) method_33_code (4 : Nat) (Option.some FieldType.int) [((0 : Nat), (6 : Nat), (9 : Nat), (22 : Nat))]) ∈ GL := gl_of 951 (by decide +kernel) (by decide +kernel)
theorem gw_946 : (Cond.methodLink "SectionDeskLaw" (132 : Nat) ({ cls := "SectionDeskLaw", name := "undo", desc := "(LSectionDesk;)I" } : MethodName)) ∈ GL := gl_of 986 (by decide +kernel) (by decide +kernel)
theorem gw_947 : (Cond.static ({ cls := "SectionDeskLaw", name := "undo", desc := "(LSectionDesk;)I" } : MethodName)) ∈ GL := gl_of 987 (by decide +kernel) (by decide +kernel)
theorem gw_948 : (Cond.codeWith ({ cls := "SectionDeskLaw", name := "undo", desc := "(LSectionDesk;)I" } : MethodName) method_34_code (3 : Nat) (Option.some FieldType.int) [((0 : Nat), (5 : Nat), (8 : Nat), (17 : Nat))]) ∈ GL := gl_of 988 (by decide +kernel) (by decide +kernel)
theorem gw_957 : (Cond.methodLink "SectionDeskLaw" (214 : Nat) ({ cls := "SectionDeskLaw", name := "refused", desc := "(LSectionDesk;)Z" } : MethodName)) ∈ GL := gl_of 997 (by decide +kernel) (by decide +kernel)
theorem gw_958 : (Cond.static ({ cls := "SectionDeskLaw", name := "refused", desc := "(LSectionDesk;)Z" } : MethodName)) ∈ GL := gl_of 998 (by decide +kernel) (by decide +kernel)
theorem gw_959 : (Cond.code ({ cls := "SectionDeskLaw", name := "refused", desc := "(LSectionDesk;)Z" } : MethodName) method_36_code (4 : Nat) (Option.some FieldType.boolean)) ∈ GL := gl_of 999 (by decide +kernel) (by decide +kernel)
theorem gw_960 : (Cond.methodLink "SectionDeskLaw" (151 : Nat) ({ cls := "SectionDeskLaw", name := "print", desc := "(LSectionDesk;)J" } : MethodName)) ∈ GL := gl_of 1000 (by decide +kernel) (by decide +kernel)
theorem gw_961 : (Cond.static ({ cls := "SectionDeskLaw", name := "print", desc := "(LSectionDesk;)J" } : MethodName)) ∈ GL := gl_of 1001 (by decide +kernel) (by decide +kernel)
theorem gw_962 : (Cond.code ({ cls := "SectionDeskLaw", name := "print", desc := "(LSectionDesk;)J" } : MethodName) method_35_code (5 : Nat) (Option.some FieldType.long)) ∈ GL := gl_of 1002 (by decide +kernel) (by decide +kernel)
theorem gw_963 : (Cond.constantLong "SectionDeskLaw" (116 : Nat) (31 : Int64)) ∈ GL := gl_of 1003 (by decide +kernel) (by decide +kernel)
theorem gw_964 : (Cond.methodLink "SectionDeskLaw" (118 : Nat) ({ cls := "SectionDesk", name := "sections", desc := "()I" } : MethodName)) ∈ GL := gl_of 1004 (by decide +kernel) (by decide +kernel)
theorem gw_965 : (Cond.instanceMethod ({ cls := "SectionDesk", name := "sections", desc := "()I" } : MethodName)) ∈ GL := gl_of 1005 (by decide +kernel) (by decide +kernel)
theorem gw_966 : (Cond.selects "SectionDesk" ({ cls := "SectionDesk", name := "sections", desc := "()I" } : MethodName) ({ cls := "SectionDesk", name := "sections", desc := "()I" } : MethodName)) ∈ GL := gl_of 1006 (by decide +kernel) (by decide +kernel)
theorem gw_967 : (Cond.code ({ cls := "SectionDesk", name := "sections", desc := "()I" } : MethodName) prog_1_method_5_code (1 : Nat) (Option.some FieldType.int)) ∈ GL := gl_of 1007 (by decide +kernel) (by decide +kernel)
theorem gw_968 : (Cond.methodLink "SectionDeskLaw" (121 : Nat) ({ cls := "SectionDesk", name := "entries", desc := "()I" } : MethodName)) ∈ GL := gl_of 1008 (by decide +kernel) (by decide +kernel)
theorem gw_969 : (Cond.instanceMethod ({ cls := "SectionDesk", name := "entries", desc := "()I" } : MethodName)) ∈ GL := gl_of 1009 (by decide +kernel) (by decide +kernel)
theorem gw_970 : (Cond.selects "SectionDesk" ({ cls := "SectionDesk", name := "entries", desc := "()I" } : MethodName) ({ cls := "SectionDesk", name := "entries", desc := "()I" } : MethodName)) ∈ GL := gl_of 1010 (by decide +kernel) (by decide +kernel)
theorem gw_971 : (Cond.code ({ cls := "SectionDesk", name := "entries", desc := "()I" } : MethodName) prog_1_method_24_code (1 : Nat) (Option.some FieldType.int)) ∈ GL := gl_of 1011 (by decide +kernel) (by decide +kernel)
theorem gw_972 : (Cond.methodLink "SectionDeskLaw" (124 : Nat) ({ cls := "SectionDesk", name := "waiting", desc := "()I" } : MethodName)) ∈ GL := gl_of 1012 (by decide +kernel) (by decide +kernel)
theorem gw_973 : (Cond.instanceMethod ({ cls := "SectionDesk", name := "waiting", desc := "()I" } : MethodName)) ∈ GL := gl_of 1013 (by decide +kernel) (by decide +kernel)
theorem gw_974 : (Cond.selects "SectionDesk" ({ cls := "SectionDesk", name := "waiting", desc := "()I" } : MethodName) ({ cls := "SectionDesk", name := "waiting", desc := "()I" } : MethodName)) ∈ GL := gl_of 1014 (by decide +kernel) (by decide +kernel)
theorem gw_975 : (Cond.code ({ cls := "SectionDesk", name := "waiting", desc := "()I" } : MethodName) prog_1_method_29_code (1 : Nat) (Option.some FieldType.int)) ∈ GL := gl_of 1015 (by decide +kernel) (by decide +kernel)
theorem gw_976 : (Cond.methodLink "SectionDeskLaw" (135 : Nat) ({ cls := "SectionDeskLaw", name := "section", desc := "(LSectionDesk;II)I" } : MethodName)) ∈ GL := gl_of 1016 (by decide +kernel) (by decide +kernel)
theorem gw_977 : (Cond.static ({ cls := "SectionDeskLaw", name := "section", desc := "(LSectionDesk;II)I" } : MethodName)) ∈ GL := gl_of 1017 (by decide +kernel) (by decide +kernel)
theorem gw_978 : (Cond.codeWith ({ cls := "SectionDeskLaw", name := "section", desc := "(LSectionDesk;II)I" } : MethodName) method_7_code (5 : Nat) (Option.some FieldType.int) [((0 : Nat), (7 : Nat), (10 : Nat), (15 : Nat)), ((0 : Nat), (7 : Nat), (15 : Nat), (22 : Nat))]) ∈ GL := gl_of 1018 (by decide +kernel) (by decide +kernel)
theorem gw_992 : (Cond.methodLink "SectionDeskLaw" (138 : Nat) ({ cls := "SectionDeskLaw", name := "line", desc := "(LSectionDesk;II)I" } : MethodName)) ∈ GL := gl_of 1032 (by decide +kernel) (by decide +kernel)
theorem gw_993 : (Cond.static ({ cls := "SectionDeskLaw", name := "line", desc := "(LSectionDesk;II)I" } : MethodName)) ∈ GL := gl_of 1033 (by decide +kernel) (by decide +kernel)
theorem gw_994 : (Cond.codeWith ({ cls := "SectionDeskLaw", name := "line", desc := "(LSectionDesk;II)I" } : MethodName) method_9_code (5 : Nat) (Option.some FieldType.int) [((0 : Nat), (7 : Nat), (10 : Nat), (15 : Nat))]) ∈ GL := gl_of 1034 (by decide +kernel) (by decide +kernel)
theorem gw_1002 : (Cond.methodLink "SectionDeskLaw" (140 : Nat) ({ cls := "SectionDeskLaw", name := "holders", desc := "(LSectionDesk;I)I" } : MethodName)) ∈ GL := gl_of 1042 (by decide +kernel) (by decide +kernel)
theorem gw_1003 : (Cond.static ({ cls := "SectionDeskLaw", name := "holders", desc := "(LSectionDesk;I)I" } : MethodName)) ∈ GL := gl_of 1043 (by decide +kernel) (by decide +kernel)
theorem gw_1004 : (Cond.codeWith ({ cls := "SectionDeskLaw", name := "holders", desc := "(LSectionDesk;I)I" } : MethodName) method_21_code (4 : Nat) (Option.some FieldType.int) [((0 : Nat), (6 : Nat), (9 : Nat), (15 : Nat))]) ∈ GL := gl_of 1044 (by decide +kernel) (by decide +kernel)
theorem gw_1013 : (Cond.methodLink "SectionDeskLaw" (142 : Nat) ({ cls := "SectionDeskLaw", name := "checkOut", desc := "(LSectionDesk;II)I" } : MethodName)) ∈ GL := gl_of 1053 (by decide +kernel) (by decide +kernel)
theorem gw_1014 : (Cond.static ({ cls := "SectionDeskLaw", name := "checkOut", desc := "(LSectionDesk;II)I" } : MethodName)) ∈ GL := gl_of 1054 (by decide +kernel) (by decide +kernel)
theorem gw_1015 : (Cond.codeWith ({ cls := "SectionDeskLaw", name := "checkOut", desc := "(LSectionDesk;II)I" } : MethodName) method_20_code (5 : Nat) (Option.some FieldType.int) [((0 : Nat), (7 : Nat), (10 : Nat), (15 : Nat)), ((0 : Nat), (7 : Nat), (15 : Nat), (22 : Nat))]) ∈ GL := gl_of 1055 (by decide +kernel) (by decide +kernel)
theorem gw_1026 : (Cond.methodLink "SectionDeskLaw" (144 : Nat) ({ cls := "SectionDeskLaw", name := "copied", desc := "(LSectionDesk;IIIZ)I" } : MethodName)) ∈ GL := gl_of 1066 (by decide +kernel) (by decide +kernel)
theorem gw_1027 : (Cond.static ({ cls := "SectionDeskLaw", name := "copied", desc := "(LSectionDesk;IIIZ)I" } : MethodName)) ∈ GL := gl_of 1067 (by decide +kernel) (by decide +kernel)
theorem gw_1028 : (Cond.codeWith ({ cls := "SectionDeskLaw", name := "copied", desc := "(LSectionDesk;IIIZ)I" } : MethodName) method_17_code (7 : Nat) (Option.some FieldType.int) [((0 : Nat), (11 : Nat), (14 : Nat), (15 : Nat))]) ∈ GL := gl_of 1068 (by decide +kernel) (by decide +kernel)
theorem gw_1036 : (Cond.methodLink "SectionDeskLaw" (147 : Nat) ({ cls := "SectionDeskLaw", name := "waitingAt", desc := "(LSectionDesk;II)I" } : MethodName)) ∈ GL := gl_of 1076 (by decide +kernel) (by decide +kernel)
theorem gw_1037 : (Cond.static ({ cls := "SectionDeskLaw", name := "waitingAt", desc := "(LSectionDesk;II)I" } : MethodName)) ∈ GL := gl_of 1077 (by decide +kernel) (by decide +kernel)
theorem gw_1038 : (Cond.codeWith ({ cls := "SectionDeskLaw", name := "waitingAt", desc := "(LSectionDesk;II)I" } : MethodName) method_29_code (5 : Nat) (Option.some FieldType.int) [((0 : Nat), (7 : Nat), (10 : Nat), (15 : Nat)), ((0 : Nat), (7 : Nat), (15 : Nat), (22 : Nat))]) ∈ GL := gl_of 1078 (by decide +kernel) (by decide +kernel)
theorem gw_1044 : (Cond.methodLink "SectionDeskLaw" (149 : Nat) ({ cls := "SectionDeskLaw", name := "useBits", desc := "(LSectionDesk;I)I" } : MethodName)) ∈ GL := gl_of 1084 (by decide +kernel) (by decide +kernel)
theorem gw_1045 : (Cond.static ({ cls := "SectionDeskLaw", name := "useBits", desc := "(LSectionDesk;I)I" } : MethodName)) ∈ GL := gl_of 1085 (by decide +kernel) (by decide +kernel)
theorem gw_1046 : (Cond.codeWith ({ cls := "SectionDeskLaw", name := "useBits", desc := "(LSectionDesk;I)I" } : MethodName) method_31_code (4 : Nat) (Option.some FieldType.int) [((0 : Nat), (6 : Nat), (9 : Nat), (15 : Nat))]) ∈ GL := gl_of 1086 (by decide +kernel) (by decide +kernel)
theorem gw_1061 : (Cond.methodLink "SectionDeskLaw" (161 : Nat) ({ cls := "SectionDeskLaw", name := "child", desc := "(LSectionDesk;II)I" } : MethodName)) ∈ GL := gl_of 1101 (by decide +kernel) (by decide +kernel)
theorem gw_1062 : (Cond.static ({ cls := "SectionDeskLaw", name := "child", desc := "(LSectionDesk;II)I" } : MethodName)) ∈ GL := gl_of 1102 (by decide +kernel) (by decide +kernel)
theorem gw_1063 : (Cond.codeWith ({ cls := "SectionDeskLaw", name := "child", desc := "(LSectionDesk;II)I" } : MethodName) method_8_code (5 : Nat) (Option.some FieldType.int) [((0 : Nat), (7 : Nat), (10 : Nat), (15 : Nat))]) ∈ GL := gl_of 1103 (by decide +kernel) (by decide +kernel)
theorem gw_1069 : (Cond.methodLink "SectionDeskLaw" (174 : Nat) ({ cls := "SectionDeskLaw", name := "discard", desc := "(LSectionDesk;I)I" } : MethodName)) ∈ GL := gl_of 1109 (by decide +kernel) (by decide +kernel)
theorem gw_1070 : (Cond.static ({ cls := "SectionDeskLaw", name := "discard", desc := "(LSectionDesk;I)I" } : MethodName)) ∈ GL := gl_of 1110 (by decide +kernel) (by decide +kernel)
theorem gw_1071 : (Cond.codeWith ({ cls := "SectionDeskLaw", name := "discard", desc := "(LSectionDesk;I)I" } : MethodName) method_15_code (4 : Nat) (Option.some FieldType.int) [((0 : Nat), (6 : Nat), (9 : Nat), (15 : Nat))]) ∈ GL := gl_of 1111 (by decide +kernel) (by decide +kernel)
theorem gw_1085 : (Cond.methodLink "SectionDeskLaw" (181 : Nat) ({ cls := "SectionDeskLaw", name := "ifBroken", desc := "(LSectionDesk;I)I" } : MethodName)) ∈ GL := gl_of 1125 (by decide +kernel) (by decide +kernel)
theorem gw_1086 : (Cond.static ({ cls := "SectionDeskLaw", name := "ifBroken", desc := "(LSectionDesk;I)I" } : MethodName)) ∈ GL := gl_of 1126 (by decide +kernel) (by decide +kernel)
theorem gw_1087 : (Cond.codeWith ({ cls := "SectionDeskLaw", name := "ifBroken", desc := "(LSectionDesk;I)I" } : MethodName) method_22_code (4 : Nat) (Option.some FieldType.int) [((0 : Nat), (6 : Nat), (9 : Nat), (15 : Nat))]) ∈ GL := gl_of 1127 (by decide +kernel) (by decide +kernel)
theorem gw_1096 : (Cond.methodLink "SectionDeskLaw" (183 : Nat) ({ cls := "SectionDeskLaw", name := "grantedAt", desc := "(LSectionDesk;I)I" } : MethodName)) ∈ GL := gl_of 1136 (by decide +kernel) (by decide +kernel)
theorem gw_1097 : (Cond.static ({ cls := "SectionDeskLaw", name := "grantedAt", desc := "(LSectionDesk;I)I" } : MethodName)) ∈ GL := gl_of 1137 (by decide +kernel) (by decide +kernel)
theorem gw_1098 : (Cond.codeWith ({ cls := "SectionDeskLaw", name := "grantedAt", desc := "(LSectionDesk;I)I" } : MethodName) method_23_code (4 : Nat) (Option.some FieldType.int) [((0 : Nat), (6 : Nat), (9 : Nat), (15 : Nat)), ((0 : Nat), (6 : Nat), (13 : Nat), (17 : Nat))]) ∈ GL := gl_of 1138 (by decide +kernel) (by decide +kernel)
theorem gw_1103 : (Cond.methodLink "SectionDeskLaw" (185 : Nat) ({ cls := "SectionDeskLaw", name := "entry", desc := "(LSectionDesk;II)I" } : MethodName)) ∈ GL := gl_of 1143 (by decide +kernel) (by decide +kernel)
theorem gw_1104 : (Cond.static ({ cls := "SectionDeskLaw", name := "entry", desc := "(LSectionDesk;II)I" } : MethodName)) ∈ GL := gl_of 1144 (by decide +kernel) (by decide +kernel)
theorem gw_1105 : (Cond.codeWith ({ cls := "SectionDeskLaw", name := "entry", desc := "(LSectionDesk;II)I" } : MethodName) method_25_code (5 : Nat) (Option.some FieldType.int) [((0 : Nat), (7 : Nat), (10 : Nat), (15 : Nat)), ((0 : Nat), (7 : Nat), (15 : Nat), (22 : Nat))]) ∈ GL := gl_of 1145 (by decide +kernel) (by decide +kernel)
theorem gw_1111 : (Cond.methodLink "SectionDeskLaw" (187 : Nat) ({ cls := "SectionDeskLaw", name := "blame", desc := "(LSectionDesk;II)I" } : MethodName)) ∈ GL := gl_of 1151 (by decide +kernel) (by decide +kernel)
theorem gw_1112 : (Cond.static ({ cls := "SectionDeskLaw", name := "blame", desc := "(LSectionDesk;II)I" } : MethodName)) ∈ GL := gl_of 1152 (by decide +kernel) (by decide +kernel)
theorem gw_1113 : (Cond.codeWith ({ cls := "SectionDeskLaw", name := "blame", desc := "(LSectionDesk;II)I" } : MethodName) method_26_code (5 : Nat) (Option.some FieldType.int) [((0 : Nat), (7 : Nat), (10 : Nat), (15 : Nat))]) ∈ GL := gl_of 1153 (by decide +kernel) (by decide +kernel)
theorem gw_1122 : (Cond.methodLink "SectionDeskLaw" (189 : Nat) ({ cls := "SectionDeskLaw", name := "lineAt", desc := "(LSectionDesk;III)I" } : MethodName)) ∈ GL := gl_of 1162 (by decide +kernel) (by decide +kernel)
theorem gw_1123 : (Cond.static ({ cls := "SectionDeskLaw", name := "lineAt", desc := "(LSectionDesk;III)I" } : MethodName)) ∈ GL := gl_of 1163 (by decide +kernel) (by decide +kernel)
theorem gw_1124 : (Cond.codeWith ({ cls := "SectionDeskLaw", name := "lineAt", desc := "(LSectionDesk;III)I" } : MethodName) method_27_code (6 : Nat) (Option.some FieldType.int) [((0 : Nat), (9 : Nat), (12 : Nat), (15 : Nat)), ((0 : Nat), (9 : Nat), (17 : Nat), (22 : Nat))]) ∈ GL := gl_of 1164 (by decide +kernel) (by decide +kernel)
theorem gw_1133 : (Cond.methodLink "SectionDeskLaw" (193 : Nat) ({ cls := "SectionDeskLaw", name := "append", desc := "(LSectionDesk;I)I" } : MethodName)) ∈ GL := gl_of 1173 (by decide +kernel) (by decide +kernel)
theorem gw_1134 : (Cond.static ({ cls := "SectionDeskLaw", name := "append", desc := "(LSectionDesk;I)I" } : MethodName)) ∈ GL := gl_of 1174 (by decide +kernel) (by decide +kernel)
theorem gw_1135 : (Cond.codeWith ({ cls := "SectionDeskLaw", name := "append", desc := "(LSectionDesk;I)I" } : MethodName) method_32_code (4 : Nat) (Option.some FieldType.int) [((0 : Nat), (6 : Nat), (9 : Nat), (22 : Nat)), ((0 : Nat), (6 : Nat), (13 : Nat), (17 : Nat))]) ∈ GL := gl_of 1175 (by decide +kernel) (by decide +kernel)
theorem gw_1145 : (Cond.methodLink "SectionDeskLaw" (225 : Nat) ({ cls := "SectionDeskLaw", name := "areApart", desc := "(LSectionDesk;)Z" } : MethodName)) ∈ GL := gl_of 1185 (by decide +kernel) (by decide +kernel)
theorem gw_1146 : (Cond.static ({ cls := "SectionDeskLaw", name := "areApart", desc := "(LSectionDesk;)Z" } : MethodName)) ∈ GL := gl_of 1186 (by decide +kernel) (by decide +kernel)
theorem gw_1147 : (Cond.code ({ cls := "SectionDeskLaw", name := "areApart", desc := "(LSectionDesk;)Z" } : MethodName) method_38_code (5 : Nat) (Option.some FieldType.boolean)) ∈ GL := gl_of 1187 (by decide +kernel) (by decide +kernel)
theorem gw_1148 : (Cond.methodLink "SectionDeskLaw" (197 : Nat) ({ cls := "SectionDeskLaw", name := "isIn", desc := "(LSectionDesk;II)Z" } : MethodName)) ∈ GL := gl_of 1188 (by decide +kernel) (by decide +kernel)
theorem gw_1149 : (Cond.static ({ cls := "SectionDeskLaw", name := "isIn", desc := "(LSectionDesk;II)Z" } : MethodName)) ∈ GL := gl_of 1189 (by decide +kernel) (by decide +kernel)
theorem gw_1150 : (Cond.code ({ cls := "SectionDeskLaw", name := "isIn", desc := "(LSectionDesk;II)Z" } : MethodName) method_37_code (4 : Nat) (Option.some FieldType.boolean)) ∈ GL := gl_of 1190 (by decide +kernel) (by decide +kernel)
theorem gw_1151 : (Cond.methodLink "SectionDeskLaw" (201 : Nat) ({ cls := "SectionDeskLaw", name := "conflicts", desc := "(LSectionDesk;I)I" } : MethodName)) ∈ GL := gl_of 1191 (by decide +kernel) (by decide +kernel)
theorem gw_1152 : (Cond.static ({ cls := "SectionDeskLaw", name := "conflicts", desc := "(LSectionDesk;I)I" } : MethodName)) ∈ GL := gl_of 1192 (by decide +kernel) (by decide +kernel)
theorem gw_1153 : (Cond.codeWith ({ cls := "SectionDeskLaw", name := "conflicts", desc := "(LSectionDesk;I)I" } : MethodName) method_18_code (4 : Nat) (Option.some FieldType.int) [((0 : Nat), (6 : Nat), (9 : Nat), (15 : Nat))]) ∈ GL := gl_of 1193 (by decide +kernel) (by decide +kernel)
theorem gw_1159 : (Cond.methodLink "SectionDeskLaw" (228 : Nat) ({ cls := "SectionDeskLaw", name := "isTree", desc := "(LSectionDesk;)Z" } : MethodName)) ∈ GL := gl_of 1199 (by decide +kernel) (by decide +kernel)
theorem gw_1160 : (Cond.static ({ cls := "SectionDeskLaw", name := "isTree", desc := "(LSectionDesk;)Z" } : MethodName)) ∈ GL := gl_of 1200 (by decide +kernel) (by decide +kernel)
theorem gw_1161 : (Cond.code ({ cls := "SectionDeskLaw", name := "isTree", desc := "(LSectionDesk;)Z" } : MethodName) method_39_code (8 : Nat) (Option.some FieldType.boolean)) ∈ GL := gl_of 1201 (by decide +kernel) (by decide +kernel)
theorem gw_1162 : (Cond.methodLink "SectionDeskLaw" (231 : Nat) ({ cls := "SectionDeskLaw", name := "isTold", desc := "(LSectionDesk;)Z" } : MethodName)) ∈ GL := gl_of 1202 (by decide +kernel) (by decide +kernel)
theorem gw_1163 : (Cond.static ({ cls := "SectionDeskLaw", name := "isTold", desc := "(LSectionDesk;)Z" } : MethodName)) ∈ GL := gl_of 1203 (by decide +kernel) (by decide +kernel)
theorem gw_1164 : (Cond.code ({ cls := "SectionDeskLaw", name := "isTold", desc := "(LSectionDesk;)Z" } : MethodName) method_40_code (9 : Nat) (Option.some FieldType.boolean)) ∈ GL := gl_of 1204 (by decide +kernel) (by decide +kernel)
theorem gw_1165 : (Cond.methodLink "SectionDeskLaw" (237 : Nat) ({ cls := "SectionDeskLaw", name := "isGranted", desc := "(LSectionDesk;)Z" } : MethodName)) ∈ GL := gl_of 1205 (by decide +kernel) (by decide +kernel)
theorem gw_1166 : (Cond.static ({ cls := "SectionDeskLaw", name := "isGranted", desc := "(LSectionDesk;)Z" } : MethodName)) ∈ GL := gl_of 1206 (by decide +kernel) (by decide +kernel)
theorem gw_1167 : (Cond.code ({ cls := "SectionDeskLaw", name := "isGranted", desc := "(LSectionDesk;)Z" } : MethodName) method_41_code (8 : Nat) (Option.some FieldType.boolean)) ∈ GL := gl_of 1207 (by decide +kernel) (by decide +kernel)
theorem gw_1168 : (Cond.methodLink "SectionDeskLaw" (240 : Nat) ({ cls := "SectionDeskLaw", name := "comesBack", desc := "(LSectionDesk;I)Z" } : MethodName)) ∈ GL := gl_of 1208 (by decide +kernel) (by decide +kernel)
theorem gw_1169 : (Cond.static ({ cls := "SectionDeskLaw", name := "comesBack", desc := "(LSectionDesk;I)Z" } : MethodName)) ∈ GL := gl_of 1209 (by decide +kernel) (by decide +kernel)
theorem gw_1170 : (Cond.code ({ cls := "SectionDeskLaw", name := "comesBack", desc := "(LSectionDesk;I)Z" } : MethodName) method_42_code (14 : Nat) (Option.some FieldType.boolean)) ∈ GL := gl_of 1210 (by decide +kernel) (by decide +kernel)
theorem gw_1171 : (Cond.methodLink "SectionDeskLaw" (234 : Nat) ({ cls := "SectionDeskLaw", name := "isPutBack", desc := "(LSectionDesk;II)Z" } : MethodName)) ∈ GL := gl_of 1211 (by decide +kernel) (by decide +kernel)
theorem gw_1172 : (Cond.static ({ cls := "SectionDeskLaw", name := "isPutBack", desc := "(LSectionDesk;II)Z" } : MethodName)) ∈ GL := gl_of 1212 (by decide +kernel) (by decide +kernel)
theorem gw_1173 : (Cond.code ({ cls := "SectionDeskLaw", name := "isPutBack", desc := "(LSectionDesk;II)Z" } : MethodName) method_43_code (7 : Nat) (Option.some FieldType.boolean)) ∈ GL := gl_of 1213 (by decide +kernel) (by decide +kernel)
theorem gw_1174 : (Cond.methodLink "SectionDeskLaw" (244 : Nat) ({ cls := "SectionDeskLaw", name := "areOrders", desc := "(LSectionDesk;IIIIZ)Z" } : MethodName)) ∈ GL := gl_of 1214 (by decide +kernel) (by decide +kernel)
theorem gw_1175 : (Cond.static ({ cls := "SectionDeskLaw", name := "areOrders", desc := "(LSectionDesk;IIIIZ)Z" } : MethodName)) ∈ GL := gl_of 1215 (by decide +kernel) (by decide +kernel)
theorem gw_1176 : (Cond.code ({ cls := "SectionDeskLaw", name := "areOrders", desc := "(LSectionDesk;IIIIZ)Z" } : MethodName) method_45_code (14 : Nat) (Option.some FieldType.boolean)) ∈ GL := gl_of 1216 (by decide +kernel) (by decide +kernel)
theorem gw_1177 : (Cond.methodLink "SectionDeskLaw" (203 : Nat) ({ cls := "SectionDesk", name := "clearText", desc := "()I" } : MethodName)) ∈ GL := gl_of 1217 (by decide +kernel) (by decide +kernel)
theorem gw_1178 : (Cond.instanceMethod ({ cls := "SectionDesk", name := "clearText", desc := "()I" } : MethodName)) ∈ GL := gl_of 1218 (by decide +kernel) (by decide +kernel)
theorem gw_1179 : (Cond.selects "SectionDesk" ({ cls := "SectionDesk", name := "clearText", desc := "()I" } : MethodName) ({ cls := "SectionDesk", name := "clearText", desc := "()I" } : MethodName)) ∈ GL := gl_of 1219 (by decide +kernel) (by decide +kernel)
theorem gw_1180 : (Cond.code ({ cls := "SectionDesk", name := "clearText", desc := "()I" } : MethodName) prog_1_method_34_code (2 : Nat) (Option.some FieldType.int)) ∈ GL := gl_of 1220 (by decide +kernel) (by decide +kernel)
theorem gw_1181 : (Cond.methodLink "SectionDeskLaw" (206 : Nat) ({ cls := "SectionDeskLaw", name := "types", desc := "(LSectionDesk;IIIIII)Z" } : MethodName)) ∈ GL := gl_of 1221 (by decide +kernel) (by decide +kernel)
theorem gw_1182 : (Cond.static ({ cls := "SectionDeskLaw", name := "types", desc := "(LSectionDesk;IIIIII)Z" } : MethodName)) ∈ GL := gl_of 1222 (by decide +kernel) (by decide +kernel)
theorem gw_1183 : (Cond.code ({ cls := "SectionDeskLaw", name := "types", desc := "(LSectionDesk;IIIIII)Z" } : MethodName) method_44_code (10 : Nat) (Option.some FieldType.boolean)) ∈ GL := gl_of 1223 (by decide +kernel) (by decide +kernel)
theorem gw_1184 : (Cond.methodLink "SectionDeskLaw" (210 : Nat) ({ cls := "SectionDesk", name := "carryOut", desc := "()I" } : MethodName)) ∈ GL := gl_of 1224 (by decide +kernel) (by decide +kernel)
theorem gw_1185 : (Cond.instanceMethod ({ cls := "SectionDesk", name := "carryOut", desc := "()I" } : MethodName)) ∈ GL := gl_of 1225 (by decide +kernel) (by decide +kernel)
theorem gw_1186 : (Cond.selects "SectionDesk" ({ cls := "SectionDesk", name := "carryOut", desc := "()I" } : MethodName) ({ cls := "SectionDesk", name := "carryOut", desc := "()I" } : MethodName)) ∈ GL := gl_of 1226 (by decide +kernel) (by decide +kernel)
theorem gw_1187 : (Cond.code ({ cls := "SectionDesk", name := "carryOut", desc := "()I" } : MethodName) prog_1_method_35_code (3 : Nat) (Option.some FieldType.int)) ∈ GL := gl_of 1227 (by decide +kernel) (by decide +kernel)
theorem kd_L_areApart : cwd yL_areApart cL_areApart 5 (some .boolean) 1 := ⟨gw_0, gw_1147, by decide +kernel, by decide +kernel, by decide +kernel⟩
theorem kd_L_areOrders : cwd yL_areOrders cL_areOrders 14 (some .boolean) 6 := ⟨gw_0, gw_1176, by decide +kernel, by decide +kernel, by decide +kernel⟩
theorem kd_L_cell : cwd yL_cell cL_cell 2 (some .int) 2 := ⟨gw_0, gw_229, by decide +kernel, by decide +kernel, by decide +kernel⟩
theorem kd_L_comesBack : cwd yL_comesBack cL_comesBack 14 (some .boolean) 2 := ⟨gw_0, gw_1170, by decide +kernel, by decide +kernel, by decide +kernel⟩
theorem kd_L_isGranted : cwd yL_isGranted cL_isGranted 8 (some .boolean) 1 := ⟨gw_0, gw_1167, by decide +kernel, by decide +kernel, by decide +kernel⟩
theorem kd_L_isIn : cwd yL_isIn cL_isIn 4 (some .boolean) 3 := ⟨gw_0, gw_1150, by decide +kernel, by decide +kernel, by decide +kernel⟩
theorem kd_L_isPutBack : cwd yL_isPutBack cL_isPutBack 7 (some .boolean) 3 := ⟨gw_0, gw_1173, by decide +kernel, by decide +kernel, by decide +kernel⟩
theorem kd_L_isTold : cwd yL_isTold cL_isTold 9 (some .boolean) 1 := ⟨gw_0, gw_1164, by decide +kernel, by decide +kernel, by decide +kernel⟩
theorem kd_L_isTree : cwd yL_isTree cL_isTree 8 (some .boolean) 1 := ⟨gw_0, gw_1161, by decide +kernel, by decide +kernel, by decide +kernel⟩
theorem kd_L_low : cwd yL_low cL_low 2 (some .int) 2 := ⟨gw_0, gw_233, by decide +kernel, by decide +kernel, by decide +kernel⟩
theorem kd_L_print : cwd yL_print cL_print 5 (some .long) 1 := ⟨gw_0, gw_962, by decide +kernel, by decide +kernel, by decide +kernel⟩
theorem kd_L_refused : cwd yL_refused cL_refused 4 (some .boolean) 1 := ⟨gw_0, gw_959, by decide +kernel, by decide +kernel, by decide +kernel⟩
theorem kd_L_types : cwd yL_types cL_types 10 (some .boolean) 7 := ⟨gw_0, gw_1183, by decide +kernel, by decide +kernel, by decide +kernel⟩
theorem kd_X8_carryOut : cwd yX8_carryOut cX8_carryOut 3 (some .int) 0 := ⟨gw_1, gw_1187, by decide +kernel, by decide +kernel, by decide +kernel⟩
theorem kv_X8_carryOut : cwv yX8_carryOut := ⟨gw_1185, gw_1186⟩
theorem kd_X8_clearText : cwd yX8_clearText cX8_clearText 2 (some .int) 0 := ⟨gw_1, gw_1180, by decide +kernel, by decide +kernel, by decide +kernel⟩
theorem kv_X8_clearText : cwv yX8_clearText := ⟨gw_1178, gw_1179⟩
theorem kd_X8_entries : cwd yX8_entries cX8_entries 1 (some .int) 0 := ⟨gw_1, gw_971, by decide +kernel, by decide +kernel, by decide +kernel⟩
theorem kv_X8_entries : cwv yX8_entries := ⟨gw_969, gw_970⟩
theorem kd_X8_sections : cwd yX8_sections cX8_sections 1 (some .int) 0 := ⟨gw_1, gw_967, by decide +kernel, by decide +kernel, by decide +kernel⟩
theorem kv_X8_sections : cwv yX8_sections := ⟨gw_965, gw_966⟩
theorem kd_X8_waiting : cwd yX8_waiting cX8_waiting 1 (some .int) 0 := ⟨gw_1, gw_975, by decide +kernel, by decide +kernel, by decide +kernel⟩
theorem kv_X8_waiting : cwv yX8_waiting := ⟨gw_973, gw_974⟩
theorem kx_L_addSection : cwx yL_addSection cL_addSection 4 (some .int) [(0, 6, 9, 15), (0, 6, 13, 17)] 2 := ⟨gw_0, gw_237, by decide +kernel, by decide +kernel, by decide +kernel⟩
theorem kx_L_append : cwx yL_append cL_append 4 (some .int) [(0, 6, 9, 22), (0, 6, 13, 17)] 2 := ⟨gw_0, gw_1135, by decide +kernel, by decide +kernel, by decide +kernel⟩
theorem kx_L_blame : cwx yL_blame cL_blame 5 (some .int) [(0, 7, 10, 15)] 3 := ⟨gw_0, gw_1113, by decide +kernel, by decide +kernel, by decide +kernel⟩
theorem kx_L_breakUp : cwx yL_breakUp cL_breakUp 4 (some .int) [(0, 6, 9, 15), (0, 6, 13, 17)] 2 := ⟨gw_0, gw_761, by decide +kernel, by decide +kernel, by decide +kernel⟩
theorem kx_L_cancel : cwx yL_cancel cL_cancel 4 (some .int) [(0, 6, 9, 15), (0, 6, 13, 17)] 2 := ⟨gw_0, gw_722, by decide +kernel, by decide +kernel, by decide +kernel⟩
theorem kx_L_checkOut : cwx yL_checkOut cL_checkOut 5 (some .int) [(0, 7, 10, 15), (0, 7, 15, 22)] 3 := ⟨gw_0, gw_1015, by decide +kernel, by decide +kernel, by decide +kernel⟩
theorem kx_L_child : cwx yL_child cL_child 5 (some .int) [(0, 7, 10, 15)] 3 := ⟨gw_0, gw_1063, by decide +kernel, by decide +kernel, by decide +kernel⟩
theorem kx_L_conflicts : cwx yL_conflicts cL_conflicts 4 (some .int) [(0, 6, 9, 15)] 2 := ⟨gw_0, gw_1153, by decide +kernel, by decide +kernel, by decide +kernel⟩
theorem kx_L_copied : cwx yL_copied cL_copied 7 (some .int) [(0, 11, 14, 15)] 5 := ⟨gw_0, gw_1028, by decide +kernel, by decide +kernel, by decide +kernel⟩
theorem kx_L_discard : cwx yL_discard cL_discard 4 (some .int) [(0, 6, 9, 15)] 2 := ⟨gw_0, gw_1071, by decide +kernel, by decide +kernel, by decide +kernel⟩
theorem kx_L_edit : cwx yL_edit cL_edit 7 (some .int) [(0, 11, 14, 15), (0, 11, 19, 22), (0, 11, 24, 17)] 5 := ⟨gw_0, gw_785, by decide +kernel, by decide +kernel, by decide +kernel⟩
theorem kx_L_entry : cwx yL_entry cL_entry 5 (some .int) [(0, 7, 10, 15), (0, 7, 15, 22)] 3 := ⟨gw_0, gw_1105, by decide +kernel, by decide +kernel, by decide +kernel⟩
theorem kx_L_giveBack : cwx yL_giveBack cL_giveBack 5 (some .int) [(0, 7, 10, 15), (0, 7, 15, 22), (0, 7, 20, 17)] 3 := ⟨gw_0, gw_810, by decide +kernel, by decide +kernel, by decide +kernel⟩
theorem kx_L_grantedAt : cwx yL_grantedAt cL_grantedAt 4 (some .int) [(0, 6, 9, 15), (0, 6, 13, 17)] 2 := ⟨gw_0, gw_1098, by decide +kernel, by decide +kernel, by decide +kernel⟩
theorem kx_L_holders : cwx yL_holders cL_holders 4 (some .int) [(0, 6, 9, 15)] 2 := ⟨gw_0, gw_1004, by decide +kernel, by decide +kernel, by decide +kernel⟩
theorem kx_L_ifBroken : cwx yL_ifBroken cL_ifBroken 4 (some .int) [(0, 6, 9, 15)] 2 := ⟨gw_0, gw_1087, by decide +kernel, by decide +kernel, by decide +kernel⟩
theorem kx_L_line : cwx yL_line cL_line 5 (some .int) [(0, 7, 10, 15)] 3 := ⟨gw_0, gw_994, by decide +kernel, by decide +kernel, by decide +kernel⟩
theorem kx_L_lineAt : cwx yL_lineAt cL_lineAt 6 (some .int) [(0, 9, 12, 15), (0, 9, 17, 22)] 4 := ⟨gw_0, gw_1124, by decide +kernel, by decide +kernel, by decide +kernel⟩
theorem kx_L_moveSection : cwx yL_moveSection cL_moveSection 5 (some .int) [(0, 7, 10, 15), (0, 7, 15, 22), (0, 7, 20, 17)] 3 := ⟨gw_0, gw_524, by decide +kernel, by decide +kernel, by decide +kernel⟩
theorem kx_L_outline : cwx yL_outline cL_outline 4 (some .int) [(0, 6, 9, 22)] 2 := ⟨gw_0, gw_911, by decide +kernel, by decide +kernel, by decide +kernel⟩
theorem kx_L_pass : cwx yL_pass cL_pass 4 (some .int) [(0, 6, 9, 22)] 2 := ⟨gw_0, gw_880, by decide +kernel, by decide +kernel, by decide +kernel⟩
theorem kx_L_removeSection : cwx yL_removeSection cL_removeSection 4 (some .int) [(0, 6, 9, 15), (0, 6, 13, 22), (0, 6, 17, 17)] 2 := ⟨gw_0, gw_464, by decide +kernel, by decide +kernel, by decide +kernel⟩
theorem kx_L_renew : cwx yL_renew cL_renew 5 (some .int) [(0, 7, 10, 15), (0, 7, 15, 22), (0, 7, 20, 17)] 3 := ⟨gw_0, gw_741, by decide +kernel, by decide +kernel, by decide +kernel⟩
theorem kx_L_request : cwx yL_request cL_request 7 (some .int) [(0, 11, 14, 15), (0, 11, 19, 22), (0, 11, 24, 17)] 5 := ⟨gw_0, gw_602, by decide +kernel, by decide +kernel, by decide +kernel⟩
theorem kx_L_revert : cwx yL_revert cL_revert 5 (some .int) [(0, 7, 10, 15), (0, 7, 15, 22), (0, 7, 20, 17)] 3 := ⟨gw_0, gw_859, by decide +kernel, by decide +kernel, by decide +kernel⟩
theorem kx_L_section : cwx yL_section cL_section 5 (some .int) [(0, 7, 10, 15), (0, 7, 15, 22)] 3 := ⟨gw_0, gw_978, by decide +kernel, by decide +kernel, by decide +kernel⟩
theorem kx_L_undo : cwx yL_undo cL_undo 3 (some .int) [(0, 5, 8, 17)] 1 := ⟨gw_0, gw_948, by decide +kernel, by decide +kernel, by decide +kernel⟩
theorem kx_L_useBits : cwx yL_useBits cL_useBits 4 (some .int) [(0, 6, 9, 15)] 2 := ⟨gw_0, gw_1046, by decide +kernel, by decide +kernel, by decide +kernel⟩
theorem kx_L_waitingAt : cwx yL_waitingAt cL_waitingAt 5 (some .int) [(0, 7, 10, 15), (0, 7, 15, 22)] 3 := ⟨gw_0, gw_1038, by decide +kernel, by decide +kernel, by decide +kernel⟩
theorem kx_L_waitsFor : cwx yL_waitsFor cL_waitsFor 4 (some .int) [(0, 6, 9, 15), (0, 6, 13, 17)] 2 := ⟨gw_0, gw_847, by decide +kernel, by decide +kernel, by decide +kernel⟩
theorem kx_L_write : cwx yL_write cL_write 6 (some .int) [(0, 9, 12, 15), (0, 9, 17, 22), (0, 9, 22, 17)] 4 := ⟨gw_0, gw_548, by decide +kernel, by decide +kernel, by decide +kernel⟩
section CELL
variable {l : Launch} {G : Geo}
theorem c_L_cell {b nS : Nat} {xs : Nat → Int32} (hnS : nS < 2147483648) {k : Int32} (hk : 0 ≤ k) {M : Mem} (hG : gD G) : Met l yL_cell (.code yL_cell cL_cell 2 (some .int) :: GL) (rmk 1) (gPs G b nS xs [.ref b, .int k] M) (gQ G (some (.int (cellv xs nS k))) M) 0 0 (gA G) := by
  refine Met.ofW (cc := cL_cell) (maxL := 2) (ret := some .int) (by decide +kernel) rfl ?_
  intro p e s m args below meth c s₁ B hml hv
  obtain ⟨rfl, ⟨hP, hK, hN⟩, hsc, hbl, hbA⟩ := hv
  have hts := atoms_spec (ws := .code yL_cell cL_cell 2 (some .int) :: GL) B.pre
  have hfc : s.vm.findClass RL = some m.cls := findClass_of_methodNamed (x := yL_cell) B.named
  have hS : va_S (gA G) s.heap s.heap [] := va_S.rf
  have hl := lv_entry [.ref b, .int k] (n := 2) (Nat.le_of_ble_eq_true rfl)
  have hl : lv_has _ 2 [(0, .ref b), (1, .int k)] := hl
  rw [lg_entry_eq]
  have hC : Cx p s m #[.ref b, .int k] c cL_cell RL 2 G := ⟨B.exec, B.bytes, hml, hfc, fun w hw => hts w (List.mem_cons_of_mem _ hw), hK, hN, hG⟩
  have hr := B.returns
  have hlk := B.notSynchronized
  have key : V p l e (rmk 1) s m #[.ref b, .int k] below meth c 2 G 0 0 (MQ below (gQ G (some (.int (cellv xs nS k))) M) #[.ref b, .int k] s 0 0 (gA G)) 0 [(0, .ref b), (1, .int k)] [] M := by
    refine V_iload_n hC dL_cell_0 rfl 1 rfl ?_
    refine V_aload_n hC dL_cell_1 rfl 0 rfl ?_
    refine V_slen hC hsc hbl hbA dL_cell_2 ?_
    refine V_icmp_ge hC 12 dL_cell_3 (by decide) (fun c1 => ?_) (fun c1 => ?_)
    · rw [show cellv xs nS k = (916318735 : Int32) * (k + 1) from if_pos c1]
      refine V_ldc hC (916318735 : Int32) dL_cell_12 gw_230 ?_
      refine V_iload_n hC dL_cell_14 rfl 1 rfl ?_
      refine V_iconst hC (1 : Int32) dL_cell_15 (by decide) ?_
      refine V_iadd hC dL_cell_16 ?_
      refine V_imul hC dL_cell_17 ?_
      exact V_iret hC hr hlk dL_cell_18
    · rw [show cellv xs nS k = xs (cl k) from if_neg c1]
      refine V_aload_n hC dL_cell_6 rfl 0 rfl ?_
      refine V_iload_n hC dL_cell_7 rfl 1 rfl ?_
      refine V_sld hC hsc hbl hbA (i := k) (decide_eq_true fun h => ?_) dL_cell_8 ?_
      · rcases h with h | h
        · exact Int32.not_lt.mpr hk h
        · refine c1 ?_
          have h1 : Int32.ofNat nS ≤ Int32.ofNat k.toNatClampNeg := (Int32.ofNat_le_ofNat (by omega) k.toNatClampNeg_lt).mpr h
          rw [Int32.ofNat_toNatClampNeg k hk] at h1
          exact h1
      · refine V_goto hC 18 dL_cell_9 (by decide) ?_
        exact V_iret hC hr hlk dL_cell_18
  exact key _ _ _ hl hP hS
end CELL
section CELL2
variable {p : Program} {l : Launch} {e : Env} {R : Room} {s : State} {m : MethodId} {args : Array Value} {below : List Frame} {meth : Method} {c : Code} {cells slots : Nat} {Q : State → Prop} {cc : ByteArray} {own : String} {nL : Nat} {G : Geo} {pc : Nat} {L L' : List (Nat × Value)} {st : List Value} {M : Mem}
theorem V_cell (hC : Cx p s m args c cc own nL G) {b nS : Nat} {xs : Nat → Int32} (hnS : nS < 2147483648) {k : Int32} (hk : 0 ≤ k) (hsc : va_X b nS xs s s.heap) (hbl : b < s.heap.size) (hbA : ¬ gA G b) {index : Nat} (hw : cwd yL_cell cL_cell 2 (some .int) 2) (hs : Cond.static yL_cell ∈ GL) (hl : Cond.methodLink own index yL_cell ∈ GL) (hd : decode cc pc = .ok (.invokestatic index, 3)) (hR : 1 + 1 ≤ R.frames ∧ 8 + (2 + 11) + 60 * 1 ≤ R.locals) (hst : (st.map fun v => v.category).sum ≤ 8) (hf : cells ≤ R.cells ∧ slots ≤ R.slots) (kk : V p l e R s m args below meth c nL G cells slots Q (pc + 3) L (.int (cellv xs nS k) :: st) M) : V p l e R s m args below meth c nL G cells slots Q pc L (.int k :: .ref b :: st) M :=
  V_call (rv := (some (.int (cellv xs nS k)))) (fun ls H locs hl9 hP hS => va_runS (rest := st) ⟨hC.1, hC.2.1, hC.2.2.1, hC.2.2.2.1, hC.2.2.2.2.1⟩ (c_L_cell (l := l) (b := b) (nS := nS) (xs := xs) hnS hk (M := M) hC.2.2.2.2.2.2.2) ⟨callB_of 2 hC.2.2.2.2.1 (good_code hw) rfl rfl rfl (hC.2.2.2.2.1 _ hw.1) (hC.2.2.2.2.1 _ hl) hw.2.2 hR, hC.2.2.2.2.1 _ hs⟩
    ⟨gPs_blind G b nS xs _ M, fun U hU hW => ⟨rfl, ⟨by rw [hU]; exact hP, va_K.moved hW.alike hC.2.2.2.2.2.1, nw_warm hW hC.2.2.2.2.2.2.1⟩, va_X.moved hW.alike (va_X.kept hsc (by rw [hU]; exact hS.2.1 b hbl hbA)), by rw [hU]; exact Nat.lt_of_lt_of_le hbl hS.1, hbA⟩⟩ rfl rfl hl9.1 rfl (lv_room hst) hd hf) kk
end CELL2
/-- what the law's long loop may make at most -/
def KL : Nat := 331164
theorem law_hf {u k : Nat} (h : u + k ≤ KL + 939) : 1000 + u + k ≤ 721783 ∧ 100000 + 6 * u + 6 * k ≤ 6936274 := by
  have h1 : 1000 + (KL + 939) ≤ 721783 := Nat.le_of_ble_eq_true rfl
  have h2 : 100000 + 6 * (KL + 939) ≤ 6936274 := Nat.le_of_ble_eq_true rfl
  refine ⟨Nat.le_trans ?_ h1, Nat.le_trans ?_ h2⟩
  · rw [Nat.add_assoc]
    exact Nat.add_le_add_left h 1000
  · rw [Nat.add_assoc, ← Nat.mul_add]
    exact Nat.add_le_add_left (Nat.mul_le_mul_left 6 h) 100000
