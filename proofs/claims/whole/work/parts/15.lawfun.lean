/-! ===== the printed function of the law ===== -/
def B_L_law_2323 (xs : Nat → Int32) (nS : Nat) (k23 : Int32 → Mem → Option Int32) (x4 : Int32) (M : Mem) : Option Int32 :=
  k23 (x4 + 5) M
def B_L_law_253 (xs : Nat → Int32) (nS : Nat) (k23 : Int32 → Mem → Option Int32) (x4 : Int32) (M : Mem) : Option Int32 :=
  B_L_law_2323 xs nS k23 x4 M
def B_L_law_200 (xs : Nat → Int32) (nS : Nat) (k23 : Int32 → Mem → Option Int32) (x4 : Int32) (M : Mem) : Option Int32 :=
  if inb (x4 + (1 : Int32)) nS then
    (f_L_addSection (xs (cl (x4 + (1 : Int32)))) M).bind fun q5 =>
      if inb (x4 + (1 : Int32)) nS then
        (f_X9_addSection (xs (cl (x4 + (1 : Int32)))) q5.2).bind fun q7 =>
          if (f_X9_thrown q7.2) = q5.1 then
            if q5.1 = 0 then
              if (lcv (q7.2.2 8) (q7.1).toInt64) = 0 then
                B_L_law_253 xs nS k23 x4 q7.2
              else
                some 0
            else
              B_L_law_253 xs nS k23 x4 q7.2
          else
            some 0
      else none
  else none
def B_L_law_309 (xs : Nat → Int32) (nS : Nat) (k23 : Int32 → Mem → Option Int32) (x4 : Int32) (M : Mem) : Option Int32 :=
  B_L_law_2323 xs nS k23 x4 M
def B_L_law_256 (xs : Nat → Int32) (nS : Nat) (k23 : Int32 → Mem → Option Int32) (x4 : Int32) (M : Mem) : Option Int32 :=
  if inb (x4 + (1 : Int32)) nS then
    (f_L_removeSection (xs (cl (x4 + (1 : Int32)))) M).bind fun q14 =>
      if inb (x4 + (1 : Int32)) nS then
        (f_X9_removeSection (xs (cl (x4 + (1 : Int32)))) q14.2).bind fun q16 =>
          if (f_X9_thrown q16.2) = q14.1 then
            if q14.1 = 0 then
              if (lcv (q16.2.2 8) (q16.1).toInt64) = 0 then
                B_L_law_309 xs nS k23 x4 q16.2
              else
                some 0
            else
              B_L_law_309 xs nS k23 x4 q16.2
          else
            some 0
      else none
  else none
def B_L_law_377 (xs : Nat → Int32) (nS : Nat) (k23 : Int32 → Mem → Option Int32) (x4 : Int32) (M : Mem) : Option Int32 :=
  B_L_law_2323 xs nS k23 x4 M
def B_L_law_312 (xs : Nat → Int32) (nS : Nat) (k23 : Int32 → Mem → Option Int32) (x4 : Int32) (M : Mem) : Option Int32 :=
  if inb (x4 + (1 : Int32)) nS then
    if inb (x4 + (2 : Int32)) nS then
      (f_L_moveSection (xs (cl (x4 + (1 : Int32)))) (xs (cl (x4 + (2 : Int32)))) M).bind fun q24 =>
        if inb (x4 + (1 : Int32)) nS then
          if inb (x4 + (2 : Int32)) nS then
            (f_X9_moveSection (xs (cl (x4 + (1 : Int32)))) (xs (cl (x4 + (2 : Int32)))) q24.2).bind fun q27 =>
              if (f_X9_thrown q27.2) = q24.1 then
                if q24.1 = 0 then
                  if (lcv (q27.2.2 8) (q27.1).toInt64) = 0 then
                    B_L_law_377 xs nS k23 x4 q27.2
                  else
                    some 0
                else
                  B_L_law_377 xs nS k23 x4 q27.2
              else
                some 0
          else none
        else none
    else none
  else none
def B_L_law_380 (xs : Nat → Int32) (nS : Nat) (k23 : Int32 → Mem → Option Int32) (x4 : Int32) (M : Mem) : Option Int32 :=
  (f_X9_sections M).bind fun q34 =>
    if (f_X8_sections M) = q34.1 then
      B_L_law_2323 xs nS k23 x4 q34.2
    else
      some 0
def B_L_law_458 (xs : Nat → Int32) (nS : Nat) (k23 : Int32 → Mem → Option Int32) (x4 : Int32) (M : Mem) : Option Int32 :=
  B_L_law_2323 xs nS k23 x4 M
def B_L_law_393 (xs : Nat → Int32) (nS : Nat) (k23 : Int32 → Mem → Option Int32) (x4 : Int32) (M : Mem) : Option Int32 :=
  if inb (x4 + (1 : Int32)) nS then
    if inb (x4 + (2 : Int32)) nS then
      (f_L_section (xs (cl (x4 + (1 : Int32)))) (xs (cl (x4 + (2 : Int32)))) M).bind fun q39 =>
        if inb (x4 + (1 : Int32)) nS then
          if inb (x4 + (2 : Int32)) nS then
            (f_X9_section (xs (cl (x4 + (1 : Int32)))) (xs (cl (x4 + (2 : Int32)))) q39.2).bind fun q42 =>
              if (f_X9_thrown q42.2) = q39.1 then
                if q39.1 = 0 then
                  if (lcv (q42.2.2 8) (q42.1).toInt64) = 0 then
                    B_L_law_458 xs nS k23 x4 q42.2
                  else
                    some 0
                else
                  B_L_law_458 xs nS k23 x4 q42.2
              else
                some 0
          else none
        else none
    else none
  else none
def B_L_law_526 (xs : Nat → Int32) (nS : Nat) (k23 : Int32 → Mem → Option Int32) (x4 : Int32) (M : Mem) : Option Int32 :=
  B_L_law_2323 xs nS k23 x4 M
def B_L_law_461 (xs : Nat → Int32) (nS : Nat) (k23 : Int32 → Mem → Option Int32) (x4 : Int32) (M : Mem) : Option Int32 :=
  if inb (x4 + (1 : Int32)) nS then
    if inb (x4 + (2 : Int32)) nS then
      (f_L_child (xs (cl (x4 + (1 : Int32)))) (xs (cl (x4 + (2 : Int32)))) M).bind fun q50 =>
        if inb (x4 + (1 : Int32)) nS then
          if inb (x4 + (2 : Int32)) nS then
            (f_X9_child (xs (cl (x4 + (1 : Int32)))) (xs (cl (x4 + (2 : Int32)))) q50.2).bind fun q53 =>
              if (f_X9_thrown q53.2) = q50.1 then
                if q50.1 = 0 then
                  if (lcv (q53.2.2 8) (q53.1).toInt64) = 0 then
                    B_L_law_526 xs nS k23 x4 q53.2
                  else
                    some 0
                else
                  B_L_law_526 xs nS k23 x4 q53.2
              else
                some 0
          else none
        else none
    else none
  else none
def B_L_law_594 (xs : Nat → Int32) (nS : Nat) (k23 : Int32 → Mem → Option Int32) (x4 : Int32) (M : Mem) : Option Int32 :=
  B_L_law_2323 xs nS k23 x4 M
def B_L_law_529 (xs : Nat → Int32) (nS : Nat) (k23 : Int32 → Mem → Option Int32) (x4 : Int32) (M : Mem) : Option Int32 :=
  if inb (x4 + (1 : Int32)) nS then
    if inb (x4 + (2 : Int32)) nS then
      (f_L_line (xs (cl (x4 + (1 : Int32)))) (xs (cl (x4 + (2 : Int32)))) M).bind fun q61 =>
        if inb (x4 + (1 : Int32)) nS then
          if inb (x4 + (2 : Int32)) nS then
            (f_X9_line (xs (cl (x4 + (1 : Int32)))) (xs (cl (x4 + (2 : Int32)))) q61.2).bind fun q64 =>
              if (f_X9_thrown q64.2) = q61.1 then
                if q61.1 = 0 then
                  if (lcv (q64.2.2 8) (q64.1).toInt64) = 0 then
                    B_L_law_594 xs nS k23 x4 q64.2
                  else
                    some 0
                else
                  B_L_law_594 xs nS k23 x4 q64.2
              else
                some 0
          else none
        else none
    else none
  else none
def B_L_law_674 (xs : Nat → Int32) (nS : Nat) (k23 : Int32 → Mem → Option Int32) (x4 : Int32) (M : Mem) : Option Int32 :=
  B_L_law_2323 xs nS k23 x4 M
def B_L_law_597 (xs : Nat → Int32) (nS : Nat) (k23 : Int32 → Mem → Option Int32) (x4 : Int32) (M : Mem) : Option Int32 :=
  if inb (x4 + (1 : Int32)) nS then
    if inb (x4 + (2 : Int32)) nS then
      if inb (x4 + (3 : Int32)) nS then
        (f_L_write (xs (cl (x4 + (1 : Int32)))) (xs (cl (x4 + (2 : Int32)))) (xs (cl (x4 + (3 : Int32)))) M).bind fun q73 =>
          if inb (x4 + (1 : Int32)) nS then
            if inb (x4 + (2 : Int32)) nS then
              if inb (x4 + (3 : Int32)) nS then
                (f_X9_write (xs (cl (x4 + (1 : Int32)))) (xs (cl (x4 + (2 : Int32)))) (xs (cl (x4 + (3 : Int32)))) q73.2).bind fun q77 =>
                  if (f_X9_thrown q77.2) = q73.1 then
                    if q73.1 = 0 then
                      if (lcv (q77.2.2 8) (q77.1).toInt64) = 0 then
                        B_L_law_674 xs nS k23 x4 q77.2
                      else
                        some 0
                    else
                      B_L_law_674 xs nS k23 x4 q77.2
                  else
                    some 0
              else none
            else none
          else none
      else none
    else none
  else none
def B_L_law_782 (xs : Nat → Int32) (nS : Nat) (k23 : Int32 → Mem → Option Int32) (x4 : Int32) (M : Mem) : Option Int32 :=
  B_L_law_2323 xs nS k23 x4 M
def B_L_law_749 (xs : Nat → Int32) (nS : Nat) (k23 : Int32 → Mem → Option Int32) (x4 : Int32) (x5 : Int32) (z0 : Int32) (z1 : Int32) (z2 : Int32) (z3 : Int32) (M : Mem) : Option Int32 :=
  (f_X9_request z3 z2 z1 z0 M).bind fun q94 =>
    if (f_X9_thrown q94.2) = x5 then
      if x5 = 0 then
        if (lcv (q94.2.2 8) (q94.1).toInt64) = 0 then
          B_L_law_782 xs nS k23 x4 q94.2
        else
          some 0
      else
        B_L_law_782 xs nS k23 x4 q94.2
    else
      some 0
def B_L_law_710 (xs : Nat → Int32) (nS : Nat) (k23 : Int32 → Mem → Option Int32) (x4 : Int32) (z0 : Int32) (z1 : Int32) (z2 : Int32) (z3 : Int32) (M : Mem) : Option Int32 :=
  (f_L_request z3 z2 z1 z0 M).bind fun q88 =>
    if inb (x4 + (1 : Int32)) nS then
      if inb (x4 + (2 : Int32)) nS then
        if inb (x4 + (3 : Int32)) nS then
          if inb (x4 + (4 : Int32)) nS then
            if (xs (cl (x4 + (4 : Int32)))) = 0 then
              B_L_law_749 xs nS k23 x4 q88.1 (0 : Int32) (xs (cl (x4 + (3 : Int32)))) (xs (cl (x4 + (2 : Int32)))) (xs (cl (x4 + (1 : Int32)))) q88.2
            else
              B_L_law_749 xs nS k23 x4 q88.1 (1 : Int32) (xs (cl (x4 + (3 : Int32)))) (xs (cl (x4 + (2 : Int32)))) (xs (cl (x4 + (1 : Int32)))) q88.2
          else none
        else none
      else none
    else none
def B_L_law_677 (xs : Nat → Int32) (nS : Nat) (k23 : Int32 → Mem → Option Int32) (x4 : Int32) (M : Mem) : Option Int32 :=
  if inb (x4 + (1 : Int32)) nS then
    if inb (x4 + (2 : Int32)) nS then
      if inb (x4 + (3 : Int32)) nS then
        if inb (x4 + (4 : Int32)) nS then
          if (xs (cl (x4 + (4 : Int32)))) = 0 then
            B_L_law_710 xs nS k23 x4 (0 : Int32) (xs (cl (x4 + (3 : Int32)))) (xs (cl (x4 + (2 : Int32)))) (xs (cl (x4 + (1 : Int32)))) M
          else
            B_L_law_710 xs nS k23 x4 (1 : Int32) (xs (cl (x4 + (3 : Int32)))) (xs (cl (x4 + (2 : Int32)))) (xs (cl (x4 + (1 : Int32)))) M
        else none
      else none
    else none
  else none
def B_L_law_838 (xs : Nat → Int32) (nS : Nat) (k23 : Int32 → Mem → Option Int32) (x4 : Int32) (M : Mem) : Option Int32 :=
  B_L_law_2323 xs nS k23 x4 M
def B_L_law_785 (xs : Nat → Int32) (nS : Nat) (k23 : Int32 → Mem → Option Int32) (x4 : Int32) (M : Mem) : Option Int32 :=
  if inb (x4 + (1 : Int32)) nS then
    (f_L_cancel (xs (cl (x4 + (1 : Int32)))) M).bind fun q101 =>
      if inb (x4 + (1 : Int32)) nS then
        (f_X9_cancel (xs (cl (x4 + (1 : Int32)))) q101.2).bind fun q103 =>
          if (f_X9_thrown q103.2) = q101.1 then
            if q101.1 = 0 then
              if (lcv (q103.2.2 8) (q103.1).toInt64) = 0 then
                B_L_law_838 xs nS k23 x4 q103.2
              else
                some 0
            else
              B_L_law_838 xs nS k23 x4 q103.2
          else
            some 0
      else none
  else none
def B_L_law_906 (xs : Nat → Int32) (nS : Nat) (k23 : Int32 → Mem → Option Int32) (x4 : Int32) (M : Mem) : Option Int32 :=
  B_L_law_2323 xs nS k23 x4 M
def B_L_law_841 (xs : Nat → Int32) (nS : Nat) (k23 : Int32 → Mem → Option Int32) (x4 : Int32) (M : Mem) : Option Int32 :=
  if inb (x4 + (1 : Int32)) nS then
    if inb (x4 + (2 : Int32)) nS then
      (f_L_renew (xs (cl (x4 + (1 : Int32)))) (xs (cl (x4 + (2 : Int32)))) M).bind fun q111 =>
        if inb (x4 + (1 : Int32)) nS then
          if inb (x4 + (2 : Int32)) nS then
            (f_X9_renew (xs (cl (x4 + (1 : Int32)))) (xs (cl (x4 + (2 : Int32)))) q111.2).bind fun q114 =>
              if (f_X9_thrown q114.2) = q111.1 then
                if q111.1 = 0 then
                  if (lcv (q114.2.2 8) (q114.1).toInt64) = 0 then
                    B_L_law_906 xs nS k23 x4 q114.2
                  else
                    some 0
                else
                  B_L_law_906 xs nS k23 x4 q114.2
              else
                some 0
          else none
        else none
    else none
  else none
def B_L_law_962 (xs : Nat → Int32) (nS : Nat) (k23 : Int32 → Mem → Option Int32) (x4 : Int32) (M : Mem) : Option Int32 :=
  B_L_law_2323 xs nS k23 x4 M
def B_L_law_909 (xs : Nat → Int32) (nS : Nat) (k23 : Int32 → Mem → Option Int32) (x4 : Int32) (M : Mem) : Option Int32 :=
  if inb (x4 + (1 : Int32)) nS then
    (f_L_breakUp (xs (cl (x4 + (1 : Int32)))) M).bind fun q121 =>
      if inb (x4 + (1 : Int32)) nS then
        (f_X9_breakUp (xs (cl (x4 + (1 : Int32)))) q121.2).bind fun q123 =>
          if (f_X9_thrown q123.2) = q121.1 then
            if q121.1 = 0 then
              if (lcv (q123.2.2 8) (q123.1).toInt64) = 0 then
                B_L_law_962 xs nS k23 x4 q123.2
              else
                some 0
            else
              B_L_law_962 xs nS k23 x4 q123.2
          else
            some 0
      else none
  else none
def B_L_law_1018 (xs : Nat → Int32) (nS : Nat) (k23 : Int32 → Mem → Option Int32) (x4 : Int32) (M : Mem) : Option Int32 :=
  B_L_law_2323 xs nS k23 x4 M
def B_L_law_965 (xs : Nat → Int32) (nS : Nat) (k23 : Int32 → Mem → Option Int32) (x4 : Int32) (M : Mem) : Option Int32 :=
  if inb (x4 + (1 : Int32)) nS then
    (f_L_discard (xs (cl (x4 + (1 : Int32)))) M).bind fun q130 =>
      if inb (x4 + (1 : Int32)) nS then
        (f_X9_discard (xs (cl (x4 + (1 : Int32)))) q130.2).bind fun q132 =>
          if (f_X9_thrown q132.2) = q130.1 then
            if q130.1 = 0 then
              if (lcv (q132.2.2 8) (q132.1).toInt64) = 0 then
                B_L_law_1018 xs nS k23 x4 q132.2
              else
                some 0
            else
              B_L_law_1018 xs nS k23 x4 q132.2
          else
            some 0
      else none
  else none
def B_L_law_1110 (xs : Nat → Int32) (nS : Nat) (k23 : Int32 → Mem → Option Int32) (x4 : Int32) (M : Mem) : Option Int32 :=
  B_L_law_2323 xs nS k23 x4 M
def B_L_law_1021 (xs : Nat → Int32) (nS : Nat) (k23 : Int32 → Mem → Option Int32) (x4 : Int32) (M : Mem) : Option Int32 :=
  if inb (x4 + (1 : Int32)) nS then
    if inb (x4 + (2 : Int32)) nS then
      if inb (x4 + (3 : Int32)) nS then
        if inb (x4 + (4 : Int32)) nS then
          (f_L_edit (xs (cl (x4 + (1 : Int32)))) (xs (cl (x4 + (2 : Int32)))) (xs (cl (x4 + (3 : Int32)))) (xs (cl (x4 + (4 : Int32)))) M).bind fun q142 =>
            if inb (x4 + (1 : Int32)) nS then
              if inb (x4 + (2 : Int32)) nS then
                if inb (x4 + (3 : Int32)) nS then
                  if inb (x4 + (4 : Int32)) nS then
                    (f_X9_edit (xs (cl (x4 + (1 : Int32)))) (xs (cl (x4 + (2 : Int32)))) (xs (cl (x4 + (3 : Int32)))) (xs (cl (x4 + (4 : Int32)))) q142.2).bind fun q147 =>
                      if (f_X9_thrown q147.2) = q142.1 then
                        if q142.1 = 0 then
                          if (lcv (q147.2.2 8) (q147.1).toInt64) = 0 then
                            B_L_law_1110 xs nS k23 x4 q147.2
                          else
                            some 0
                        else
                          B_L_law_1110 xs nS k23 x4 q147.2
                      else
                        some 0
                  else none
                else none
              else none
            else none
        else none
      else none
    else none
  else none
def B_L_law_1218 (xs : Nat → Int32) (nS : Nat) (k23 : Int32 → Mem → Option Int32) (x4 : Int32) (M : Mem) : Option Int32 :=
  B_L_law_2323 xs nS k23 x4 M
def B_L_law_1185 (xs : Nat → Int32) (nS : Nat) (k23 : Int32 → Mem → Option Int32) (x4 : Int32) (x5 : Int32) (z0 : Int32) (z1 : Int32) (z2 : Int32) (z3 : Int32) (M : Mem) : Option Int32 :=
  (f_X9_copied z3 z2 z1 z0 M).bind fun q164 =>
    if (f_X9_thrown q164.2) = x5 then
      if x5 = 0 then
        if (lcv (q164.2.2 8) (q164.1).toInt64) = 0 then
          B_L_law_1218 xs nS k23 x4 q164.2
        else
          some 0
      else
        B_L_law_1218 xs nS k23 x4 q164.2
    else
      some 0
def B_L_law_1146 (xs : Nat → Int32) (nS : Nat) (k23 : Int32 → Mem → Option Int32) (x4 : Int32) (z0 : Int32) (z1 : Int32) (z2 : Int32) (z3 : Int32) (M : Mem) : Option Int32 :=
  (f_L_copied z3 z2 z1 z0 M).bind fun q158 =>
    if inb (x4 + (1 : Int32)) nS then
      if inb (x4 + (2 : Int32)) nS then
        if inb (x4 + (3 : Int32)) nS then
          if inb (x4 + (4 : Int32)) nS then
            if (xs (cl (x4 + (4 : Int32)))) = 0 then
              B_L_law_1185 xs nS k23 x4 q158.1 (0 : Int32) (xs (cl (x4 + (3 : Int32)))) (xs (cl (x4 + (2 : Int32)))) (xs (cl (x4 + (1 : Int32)))) q158.2
            else
              B_L_law_1185 xs nS k23 x4 q158.1 (1 : Int32) (xs (cl (x4 + (3 : Int32)))) (xs (cl (x4 + (2 : Int32)))) (xs (cl (x4 + (1 : Int32)))) q158.2
          else none
        else none
      else none
    else none
def B_L_law_1113 (xs : Nat → Int32) (nS : Nat) (k23 : Int32 → Mem → Option Int32) (x4 : Int32) (M : Mem) : Option Int32 :=
  if inb (x4 + (1 : Int32)) nS then
    if inb (x4 + (2 : Int32)) nS then
      if inb (x4 + (3 : Int32)) nS then
        if inb (x4 + (4 : Int32)) nS then
          if (xs (cl (x4 + (4 : Int32)))) = 0 then
            B_L_law_1146 xs nS k23 x4 (0 : Int32) (xs (cl (x4 + (3 : Int32)))) (xs (cl (x4 + (2 : Int32)))) (xs (cl (x4 + (1 : Int32)))) M
          else
            B_L_law_1146 xs nS k23 x4 (1 : Int32) (xs (cl (x4 + (3 : Int32)))) (xs (cl (x4 + (2 : Int32)))) (xs (cl (x4 + (1 : Int32)))) M
        else none
      else none
    else none
  else none
def B_L_law_1274 (xs : Nat → Int32) (nS : Nat) (k23 : Int32 → Mem → Option Int32) (x4 : Int32) (M : Mem) : Option Int32 :=
  B_L_law_2323 xs nS k23 x4 M
def B_L_law_1221 (xs : Nat → Int32) (nS : Nat) (k23 : Int32 → Mem → Option Int32) (x4 : Int32) (M : Mem) : Option Int32 :=
  if inb (x4 + (1 : Int32)) nS then
    (f_L_conflicts (xs (cl (x4 + (1 : Int32)))) M).bind fun q171 =>
      if inb (x4 + (1 : Int32)) nS then
        (f_X9_conflicts (xs (cl (x4 + (1 : Int32)))) q171.2).bind fun q173 =>
          if (f_X9_thrown q173.2) = q171.1 then
            if q171.1 = 0 then
              if (lcv (q173.2.2 8) (q173.1).toInt64) = 0 then
                B_L_law_1274 xs nS k23 x4 q173.2
              else
                some 0
            else
              B_L_law_1274 xs nS k23 x4 q173.2
          else
            some 0
      else none
  else none
def B_L_law_1342 (xs : Nat → Int32) (nS : Nat) (k23 : Int32 → Mem → Option Int32) (x4 : Int32) (M : Mem) : Option Int32 :=
  B_L_law_2323 xs nS k23 x4 M
def B_L_law_1277 (xs : Nat → Int32) (nS : Nat) (k23 : Int32 → Mem → Option Int32) (x4 : Int32) (M : Mem) : Option Int32 :=
  if inb (x4 + (1 : Int32)) nS then
    if inb (x4 + (2 : Int32)) nS then
      (f_L_giveBack (xs (cl (x4 + (1 : Int32)))) (xs (cl (x4 + (2 : Int32)))) M).bind fun q181 =>
        if inb (x4 + (1 : Int32)) nS then
          if inb (x4 + (2 : Int32)) nS then
            (f_X9_giveBack (xs (cl (x4 + (1 : Int32)))) (xs (cl (x4 + (2 : Int32)))) q181.2).bind fun q184 =>
              if (f_X9_thrown q184.2) = q181.1 then
                if q181.1 = 0 then
                  if (lcv (q184.2.2 8) (q184.1).toInt64) = 0 then
                    B_L_law_1342 xs nS k23 x4 q184.2
                  else
                    some 0
                else
                  B_L_law_1342 xs nS k23 x4 q184.2
              else
                some 0
          else none
        else none
    else none
  else none
def B_L_law_1410 (xs : Nat → Int32) (nS : Nat) (k23 : Int32 → Mem → Option Int32) (x4 : Int32) (M : Mem) : Option Int32 :=
  B_L_law_2323 xs nS k23 x4 M
def B_L_law_1345 (xs : Nat → Int32) (nS : Nat) (k23 : Int32 → Mem → Option Int32) (x4 : Int32) (M : Mem) : Option Int32 :=
  if inb (x4 + (1 : Int32)) nS then
    if inb (x4 + (2 : Int32)) nS then
      (f_L_checkOut (xs (cl (x4 + (1 : Int32)))) (xs (cl (x4 + (2 : Int32)))) M).bind fun q192 =>
        if inb (x4 + (1 : Int32)) nS then
          if inb (x4 + (2 : Int32)) nS then
            (f_X9_checkOut (xs (cl (x4 + (1 : Int32)))) (xs (cl (x4 + (2 : Int32)))) q192.2).bind fun q195 =>
              if (f_X9_thrown q195.2) = q192.1 then
                if q192.1 = 0 then
                  if (lcv (q195.2.2 8) (q195.1).toInt64) = 0 then
                    B_L_law_1410 xs nS k23 x4 q195.2
                  else
                    some 0
                else
                  B_L_law_1410 xs nS k23 x4 q195.2
              else
                some 0
          else none
        else none
    else none
  else none
def B_L_law_1466 (xs : Nat → Int32) (nS : Nat) (k23 : Int32 → Mem → Option Int32) (x4 : Int32) (M : Mem) : Option Int32 :=
  B_L_law_2323 xs nS k23 x4 M
def B_L_law_1413 (xs : Nat → Int32) (nS : Nat) (k23 : Int32 → Mem → Option Int32) (x4 : Int32) (M : Mem) : Option Int32 :=
  if inb (x4 + (1 : Int32)) nS then
    (f_L_holders (xs (cl (x4 + (1 : Int32)))) M).bind fun q202 =>
      if inb (x4 + (1 : Int32)) nS then
        (f_X9_holders (xs (cl (x4 + (1 : Int32)))) q202.2).bind fun q204 =>
          if (f_X9_thrown q204.2) = q202.1 then
            if q202.1 = 0 then
              if (lcv (q204.2.2 8) (q204.1).toInt64) = 0 then
                B_L_law_1466 xs nS k23 x4 q204.2
              else
                some 0
            else
              B_L_law_1466 xs nS k23 x4 q204.2
          else
            some 0
      else none
  else none
def B_L_law_1522 (xs : Nat → Int32) (nS : Nat) (k23 : Int32 → Mem → Option Int32) (x4 : Int32) (M : Mem) : Option Int32 :=
  B_L_law_2323 xs nS k23 x4 M
def B_L_law_1469 (xs : Nat → Int32) (nS : Nat) (k23 : Int32 → Mem → Option Int32) (x4 : Int32) (M : Mem) : Option Int32 :=
  if inb (x4 + (1 : Int32)) nS then
    (f_L_ifBroken (xs (cl (x4 + (1 : Int32)))) M).bind fun q211 =>
      if inb (x4 + (1 : Int32)) nS then
        (f_X9_ifBroken (xs (cl (x4 + (1 : Int32)))) q211.2).bind fun q213 =>
          if (f_X9_thrown q213.2) = q211.1 then
            if q211.1 = 0 then
              if (lcv (q213.2.2 8) (q213.1).toInt64) = 0 then
                B_L_law_1522 xs nS k23 x4 q213.2
              else
                some 0
            else
              B_L_law_1522 xs nS k23 x4 q213.2
          else
            some 0
      else none
  else none
def B_L_law_1578 (xs : Nat → Int32) (nS : Nat) (k23 : Int32 → Mem → Option Int32) (x4 : Int32) (M : Mem) : Option Int32 :=
  B_L_law_2323 xs nS k23 x4 M
def B_L_law_1525 (xs : Nat → Int32) (nS : Nat) (k23 : Int32 → Mem → Option Int32) (x4 : Int32) (M : Mem) : Option Int32 :=
  if inb (x4 + (1 : Int32)) nS then
    (f_L_grantedAt (xs (cl (x4 + (1 : Int32)))) M).bind fun q220 =>
      if inb (x4 + (1 : Int32)) nS then
        (f_X9_grantedAt (xs (cl (x4 + (1 : Int32)))) q220.2).bind fun q222 =>
          if (f_X9_thrown q222.2) = q220.1 then
            if q220.1 = 0 then
              if (lcv (q222.2.2 8) (q222.1).toInt64) = 0 then
                B_L_law_1578 xs nS k23 x4 q222.2
              else
                some 0
            else
              B_L_law_1578 xs nS k23 x4 q222.2
          else
            some 0
      else none
  else none
def B_L_law_1634 (xs : Nat → Int32) (nS : Nat) (k23 : Int32 → Mem → Option Int32) (x4 : Int32) (M : Mem) : Option Int32 :=
  B_L_law_2323 xs nS k23 x4 M
def B_L_law_1581 (xs : Nat → Int32) (nS : Nat) (k23 : Int32 → Mem → Option Int32) (x4 : Int32) (M : Mem) : Option Int32 :=
  if inb (x4 + (1 : Int32)) nS then
    (f_L_waitsFor (xs (cl (x4 + (1 : Int32)))) M).bind fun q229 =>
      if inb (x4 + (1 : Int32)) nS then
        (f_X9_waitsFor (xs (cl (x4 + (1 : Int32)))) q229.2).bind fun q231 =>
          if (f_X9_thrown q231.2) = q229.1 then
            if q229.1 = 0 then
              if (lcv (q231.2.2 8) (q231.1).toInt64) = 0 then
                B_L_law_1634 xs nS k23 x4 q231.2
              else
                some 0
            else
              B_L_law_1634 xs nS k23 x4 q231.2
          else
            some 0
      else none
  else none
def B_L_law_1637 (xs : Nat → Int32) (nS : Nat) (k23 : Int32 → Mem → Option Int32) (x4 : Int32) (M : Mem) : Option Int32 :=
  (f_X9_entries M).bind fun q238 =>
    if (f_X8_entries M) = q238.1 then
      B_L_law_2323 xs nS k23 x4 q238.2
    else
      some 0
def B_L_law_1715 (xs : Nat → Int32) (nS : Nat) (k23 : Int32 → Mem → Option Int32) (x4 : Int32) (M : Mem) : Option Int32 :=
  B_L_law_2323 xs nS k23 x4 M
def B_L_law_1650 (xs : Nat → Int32) (nS : Nat) (k23 : Int32 → Mem → Option Int32) (x4 : Int32) (M : Mem) : Option Int32 :=
  if inb (x4 + (1 : Int32)) nS then
    if inb (x4 + (2 : Int32)) nS then
      (f_L_entry (xs (cl (x4 + (1 : Int32)))) (xs (cl (x4 + (2 : Int32)))) M).bind fun q243 =>
        if inb (x4 + (1 : Int32)) nS then
          if inb (x4 + (2 : Int32)) nS then
            (f_X9_entry (xs (cl (x4 + (1 : Int32)))) (xs (cl (x4 + (2 : Int32)))) q243.2).bind fun q246 =>
              if (f_X9_thrown q246.2) = q243.1 then
                if q243.1 = 0 then
                  if (lcv (q246.2.2 8) (q246.1).toInt64) = 0 then
                    B_L_law_1715 xs nS k23 x4 q246.2
                  else
                    some 0
                else
                  B_L_law_1715 xs nS k23 x4 q246.2
              else
                some 0
          else none
        else none
    else none
  else none
def B_L_law_1783 (xs : Nat → Int32) (nS : Nat) (k23 : Int32 → Mem → Option Int32) (x4 : Int32) (M : Mem) : Option Int32 :=
  B_L_law_2323 xs nS k23 x4 M
def B_L_law_1718 (xs : Nat → Int32) (nS : Nat) (k23 : Int32 → Mem → Option Int32) (x4 : Int32) (M : Mem) : Option Int32 :=
  if inb (x4 + (1 : Int32)) nS then
    if inb (x4 + (2 : Int32)) nS then
      (f_L_blame (xs (cl (x4 + (1 : Int32)))) (xs (cl (x4 + (2 : Int32)))) M).bind fun q254 =>
        if inb (x4 + (1 : Int32)) nS then
          if inb (x4 + (2 : Int32)) nS then
            (f_X9_blame (xs (cl (x4 + (1 : Int32)))) (xs (cl (x4 + (2 : Int32)))) q254.2).bind fun q257 =>
              if (f_X9_thrown q257.2) = q254.1 then
                if q254.1 = 0 then
                  if (lcv (q257.2.2 8) (q257.1).toInt64) = 0 then
                    B_L_law_1783 xs nS k23 x4 q257.2
                  else
                    some 0
                else
                  B_L_law_1783 xs nS k23 x4 q257.2
              else
                some 0
          else none
        else none
    else none
  else none
def B_L_law_1863 (xs : Nat → Int32) (nS : Nat) (k23 : Int32 → Mem → Option Int32) (x4 : Int32) (M : Mem) : Option Int32 :=
  B_L_law_2323 xs nS k23 x4 M
def B_L_law_1786 (xs : Nat → Int32) (nS : Nat) (k23 : Int32 → Mem → Option Int32) (x4 : Int32) (M : Mem) : Option Int32 :=
  if inb (x4 + (1 : Int32)) nS then
    if inb (x4 + (2 : Int32)) nS then
      if inb (x4 + (3 : Int32)) nS then
        (f_L_lineAt (xs (cl (x4 + (1 : Int32)))) (xs (cl (x4 + (2 : Int32)))) (xs (cl (x4 + (3 : Int32)))) M).bind fun q266 =>
          if inb (x4 + (1 : Int32)) nS then
            if inb (x4 + (2 : Int32)) nS then
              if inb (x4 + (3 : Int32)) nS then
                (f_X9_lineAt (xs (cl (x4 + (1 : Int32)))) (xs (cl (x4 + (2 : Int32)))) (xs (cl (x4 + (3 : Int32)))) q266.2).bind fun q270 =>
                  if (f_X9_thrown q270.2) = q266.1 then
                    if q266.1 = 0 then
                      if (lcv (q270.2.2 8) (q270.1).toInt64) = 0 then
                        B_L_law_1863 xs nS k23 x4 q270.2
                      else
                        some 0
                    else
                      B_L_law_1863 xs nS k23 x4 q270.2
                  else
                    some 0
              else none
            else none
          else none
      else none
    else none
  else none
def B_L_law_1931 (xs : Nat → Int32) (nS : Nat) (k23 : Int32 → Mem → Option Int32) (x4 : Int32) (M : Mem) : Option Int32 :=
  B_L_law_2323 xs nS k23 x4 M
def B_L_law_1866 (xs : Nat → Int32) (nS : Nat) (k23 : Int32 → Mem → Option Int32) (x4 : Int32) (M : Mem) : Option Int32 :=
  if inb (x4 + (1 : Int32)) nS then
    if inb (x4 + (2 : Int32)) nS then
      (f_L_revert (xs (cl (x4 + (1 : Int32)))) (xs (cl (x4 + (2 : Int32)))) M).bind fun q278 =>
        if inb (x4 + (1 : Int32)) nS then
          if inb (x4 + (2 : Int32)) nS then
            (f_X9_revert (xs (cl (x4 + (1 : Int32)))) (xs (cl (x4 + (2 : Int32)))) q278.2).bind fun q281 =>
              if (f_X9_thrown q281.2) = q278.1 then
                if q278.1 = 0 then
                  if (lcv (q281.2.2 8) (q281.1).toInt64) = 0 then
                    B_L_law_1931 xs nS k23 x4 q281.2
                  else
                    some 0
                else
                  B_L_law_1931 xs nS k23 x4 q281.2
              else
                some 0
          else none
        else none
    else none
  else none
def B_L_law_1934 (xs : Nat → Int32) (nS : Nat) (k23 : Int32 → Mem → Option Int32) (x4 : Int32) (M : Mem) : Option Int32 :=
  (f_X9_waiting M).bind fun q288 =>
    if (f_X8_waiting M) = q288.1 then
      B_L_law_2323 xs nS k23 x4 q288.2
    else
      some 0
def B_L_law_2012 (xs : Nat → Int32) (nS : Nat) (k23 : Int32 → Mem → Option Int32) (x4 : Int32) (M : Mem) : Option Int32 :=
  B_L_law_2323 xs nS k23 x4 M
def B_L_law_1947 (xs : Nat → Int32) (nS : Nat) (k23 : Int32 → Mem → Option Int32) (x4 : Int32) (M : Mem) : Option Int32 :=
  if inb (x4 + (1 : Int32)) nS then
    if inb (x4 + (2 : Int32)) nS then
      (f_L_waitingAt (xs (cl (x4 + (1 : Int32)))) (xs (cl (x4 + (2 : Int32)))) M).bind fun q293 =>
        if inb (x4 + (1 : Int32)) nS then
          if inb (x4 + (2 : Int32)) nS then
            (f_X9_waitingAt (xs (cl (x4 + (1 : Int32)))) (xs (cl (x4 + (2 : Int32)))) q293.2).bind fun q296 =>
              if (f_X9_thrown q296.2) = q293.1 then
                if q293.1 = 0 then
                  if (lcv (q296.2.2 8) (q296.1).toInt64) = 0 then
                    B_L_law_2012 xs nS k23 x4 q296.2
                  else
                    some 0
                else
                  B_L_law_2012 xs nS k23 x4 q296.2
              else
                some 0
          else none
        else none
    else none
  else none
def B_L_law_2068 (xs : Nat → Int32) (nS : Nat) (k23 : Int32 → Mem → Option Int32) (x4 : Int32) (M : Mem) : Option Int32 :=
  B_L_law_2323 xs nS k23 x4 M
def B_L_law_2015 (xs : Nat → Int32) (nS : Nat) (k23 : Int32 → Mem → Option Int32) (x4 : Int32) (M : Mem) : Option Int32 :=
  if inb (x4 + (1 : Int32)) nS then
    (f_L_pass (xs (cl (x4 + (1 : Int32)))) M).bind fun q303 =>
      if inb (x4 + (1 : Int32)) nS then
        (f_X9_pass (xs (cl (x4 + (1 : Int32)))) q303.2).bind fun q305 =>
          if (f_X9_thrown q305.2) = q303.1 then
            if q303.1 = 0 then
              if (lcv (q305.2.2 8) (q305.1).toInt64) = 0 then
                B_L_law_2068 xs nS k23 x4 q305.2
              else
                some 0
            else
              B_L_law_2068 xs nS k23 x4 q305.2
          else
            some 0
      else none
  else none
def B_L_law_2124 (xs : Nat → Int32) (nS : Nat) (k23 : Int32 → Mem → Option Int32) (x4 : Int32) (M : Mem) : Option Int32 :=
  B_L_law_2323 xs nS k23 x4 M
def B_L_law_2071 (xs : Nat → Int32) (nS : Nat) (k23 : Int32 → Mem → Option Int32) (x4 : Int32) (M : Mem) : Option Int32 :=
  if inb (x4 + (1 : Int32)) nS then
    (f_L_useBits (xs (cl (x4 + (1 : Int32)))) M).bind fun q312 =>
      if inb (x4 + (1 : Int32)) nS then
        (f_X9_useBits (xs (cl (x4 + (1 : Int32)))) q312.2).bind fun q314 =>
          if (f_X9_thrown q314.2) = q312.1 then
            if q312.1 = 0 then
              if (lcv (q314.2.2 8) (q314.1).toInt64) = 0 then
                B_L_law_2124 xs nS k23 x4 q314.2
              else
                some 0
            else
              B_L_law_2124 xs nS k23 x4 q314.2
          else
            some 0
      else none
  else none
def B_L_law_2180 (xs : Nat → Int32) (nS : Nat) (k23 : Int32 → Mem → Option Int32) (x4 : Int32) (M : Mem) : Option Int32 :=
  B_L_law_2323 xs nS k23 x4 M
def B_L_law_2127 (xs : Nat → Int32) (nS : Nat) (k23 : Int32 → Mem → Option Int32) (x4 : Int32) (M : Mem) : Option Int32 :=
  if inb (x4 + (1 : Int32)) nS then
    (f_L_append (xs (cl (x4 + (1 : Int32)))) M).bind fun q321 =>
      if inb (x4 + (1 : Int32)) nS then
        (f_X9_append (xs (cl (x4 + (1 : Int32)))) q321.2).bind fun q323 =>
          if (f_X9_thrown q323.2) = q321.1 then
            if q321.1 = 0 then
              if (lcv (q323.2.2 8) (q323.1).toInt64) = 0 then
                B_L_law_2180 xs nS k23 x4 q323.2
              else
                some 0
            else
              B_L_law_2180 xs nS k23 x4 q323.2
          else
            some 0
      else none
  else none
def B_L_law_2183 (xs : Nat → Int32) (nS : Nat) (k23 : Int32 → Mem → Option Int32) (x4 : Int32) (M : Mem) : Option Int32 :=
  (f_X8_clearText M).bind fun q329 =>
    (f_X9_clearText q329.2).bind fun q330 =>
      if q329.1 = q330.1 then
        B_L_law_2323 xs nS k23 x4 q330.2
      else
        some 0
def B_L_law_2196 (xs : Nat → Int32) (nS : Nat) (k23 : Int32 → Mem → Option Int32) (x4 : Int32) (M : Mem) : Option Int32 :=
  (f_X8_carryOut M).bind fun q333 =>
    (f_X9_carryOut q333.2).bind fun q334 =>
      if q333.1 = q334.1 then
        B_L_law_2323 xs nS k23 x4 q334.2
      else
        some 0
def B_L_law_2262 (xs : Nat → Int32) (nS : Nat) (k23 : Int32 → Mem → Option Int32) (x4 : Int32) (M : Mem) : Option Int32 :=
  B_L_law_2323 xs nS k23 x4 M
def B_L_law_2209 (xs : Nat → Int32) (nS : Nat) (k23 : Int32 → Mem → Option Int32) (x4 : Int32) (M : Mem) : Option Int32 :=
  if inb (x4 + (1 : Int32)) nS then
    (f_L_outline (xs (cl (x4 + (1 : Int32)))) M).bind fun q338 =>
      if inb (x4 + (1 : Int32)) nS then
        (f_X9_outline (xs (cl (x4 + (1 : Int32)))) q338.2).bind fun q340 =>
          if (f_X9_thrown q340.2) = q338.1 then
            if q338.1 = 0 then
              if (lcv (q340.2.2 8) (q340.1).toInt64) = 0 then
                B_L_law_2262 xs nS k23 x4 q340.2
              else
                some 0
            else
              B_L_law_2262 xs nS k23 x4 q340.2
          else
            some 0
      else none
  else none
def B_L_law_2306 (xs : Nat → Int32) (nS : Nat) (k23 : Int32 → Mem → Option Int32) (x4 : Int32) (M : Mem) : Option Int32 :=
  B_L_law_2323 xs nS k23 x4 M
def B_L_law_2265 (xs : Nat → Int32) (nS : Nat) (k23 : Int32 → Mem → Option Int32) (x4 : Int32) (M : Mem) : Option Int32 :=
  (f_L_undo M).bind fun q346 =>
    (f_X9_undo q346.2).bind fun q347 =>
      if (f_X9_thrown q347.2) = q346.1 then
        if q346.1 = 0 then
          if (lcv (q347.2.2 8) (q347.1).toInt64) = 0 then
            B_L_law_2306 xs nS k23 x4 q347.2
          else
            some 0
        else
          B_L_law_2306 xs nS k23 x4 q347.2
      else
        some 0
def B_L_law_2309 (xs : Nat → Int32) (nS : Nat) (k23 : Int32 → Mem → Option Int32) (x4 : Int32) (M : Mem) : Option Int32 :=
  (f_X8_digest M).bind fun q353 =>
    (f_X9_digest M).bind fun q354 =>
      if (lcv q353 q354.1) = 0 then
        B_L_law_2323 xs nS k23 x4 q354.2
      else
        some 0
def L_L_law_23 (xs : Nat → Int32) (nS : Nat) : Nat → Int32 → Mem → Option Int32
  | 0, _, _ => none
  | n + 1, x4, M =>
    if ((Int32.ofNat nS) - (5 : Int32)) < x4 then
      some 1
    else
      if inb x4 nS then
        if ((xs (cl x4)) &&& (63 : Int32)) = (0 : Int32) then
          B_L_law_200 xs nS (L_L_law_23 xs nS n) x4 M
        else
        if ((xs (cl x4)) &&& (63 : Int32)) = (1 : Int32) then
          B_L_law_256 xs nS (L_L_law_23 xs nS n) x4 M
        else
        if ((xs (cl x4)) &&& (63 : Int32)) = (2 : Int32) then
          B_L_law_312 xs nS (L_L_law_23 xs nS n) x4 M
        else
        if ((xs (cl x4)) &&& (63 : Int32)) = (3 : Int32) then
          B_L_law_380 xs nS (L_L_law_23 xs nS n) x4 M
        else
        if ((xs (cl x4)) &&& (63 : Int32)) = (4 : Int32) then
          B_L_law_393 xs nS (L_L_law_23 xs nS n) x4 M
        else
        if ((xs (cl x4)) &&& (63 : Int32)) = (5 : Int32) then
          B_L_law_461 xs nS (L_L_law_23 xs nS n) x4 M
        else
        if ((xs (cl x4)) &&& (63 : Int32)) = (6 : Int32) then
          B_L_law_529 xs nS (L_L_law_23 xs nS n) x4 M
        else
        if ((xs (cl x4)) &&& (63 : Int32)) = (7 : Int32) then
          B_L_law_597 xs nS (L_L_law_23 xs nS n) x4 M
        else
        if ((xs (cl x4)) &&& (63 : Int32)) = (8 : Int32) then
          B_L_law_677 xs nS (L_L_law_23 xs nS n) x4 M
        else
        if ((xs (cl x4)) &&& (63 : Int32)) = (9 : Int32) then
          B_L_law_785 xs nS (L_L_law_23 xs nS n) x4 M
        else
        if ((xs (cl x4)) &&& (63 : Int32)) = (10 : Int32) then
          B_L_law_841 xs nS (L_L_law_23 xs nS n) x4 M
        else
        if ((xs (cl x4)) &&& (63 : Int32)) = (11 : Int32) then
          B_L_law_909 xs nS (L_L_law_23 xs nS n) x4 M
        else
        if ((xs (cl x4)) &&& (63 : Int32)) = (12 : Int32) then
          B_L_law_965 xs nS (L_L_law_23 xs nS n) x4 M
        else
        if ((xs (cl x4)) &&& (63 : Int32)) = (13 : Int32) then
          B_L_law_1021 xs nS (L_L_law_23 xs nS n) x4 M
        else
        if ((xs (cl x4)) &&& (63 : Int32)) = (14 : Int32) then
          B_L_law_1113 xs nS (L_L_law_23 xs nS n) x4 M
        else
        if ((xs (cl x4)) &&& (63 : Int32)) = (15 : Int32) then
          B_L_law_1221 xs nS (L_L_law_23 xs nS n) x4 M
        else
        if ((xs (cl x4)) &&& (63 : Int32)) = (16 : Int32) then
          B_L_law_1277 xs nS (L_L_law_23 xs nS n) x4 M
        else
        if ((xs (cl x4)) &&& (63 : Int32)) = (17 : Int32) then
          B_L_law_1345 xs nS (L_L_law_23 xs nS n) x4 M
        else
        if ((xs (cl x4)) &&& (63 : Int32)) = (18 : Int32) then
          B_L_law_1413 xs nS (L_L_law_23 xs nS n) x4 M
        else
        if ((xs (cl x4)) &&& (63 : Int32)) = (19 : Int32) then
          B_L_law_1469 xs nS (L_L_law_23 xs nS n) x4 M
        else
        if ((xs (cl x4)) &&& (63 : Int32)) = (20 : Int32) then
          B_L_law_1525 xs nS (L_L_law_23 xs nS n) x4 M
        else
        if ((xs (cl x4)) &&& (63 : Int32)) = (21 : Int32) then
          B_L_law_1581 xs nS (L_L_law_23 xs nS n) x4 M
        else
        if ((xs (cl x4)) &&& (63 : Int32)) = (22 : Int32) then
          B_L_law_1637 xs nS (L_L_law_23 xs nS n) x4 M
        else
        if ((xs (cl x4)) &&& (63 : Int32)) = (23 : Int32) then
          B_L_law_1650 xs nS (L_L_law_23 xs nS n) x4 M
        else
        if ((xs (cl x4)) &&& (63 : Int32)) = (24 : Int32) then
          B_L_law_1718 xs nS (L_L_law_23 xs nS n) x4 M
        else
        if ((xs (cl x4)) &&& (63 : Int32)) = (25 : Int32) then
          B_L_law_1786 xs nS (L_L_law_23 xs nS n) x4 M
        else
        if ((xs (cl x4)) &&& (63 : Int32)) = (26 : Int32) then
          B_L_law_1866 xs nS (L_L_law_23 xs nS n) x4 M
        else
        if ((xs (cl x4)) &&& (63 : Int32)) = (27 : Int32) then
          B_L_law_1934 xs nS (L_L_law_23 xs nS n) x4 M
        else
        if ((xs (cl x4)) &&& (63 : Int32)) = (28 : Int32) then
          B_L_law_1947 xs nS (L_L_law_23 xs nS n) x4 M
        else
        if ((xs (cl x4)) &&& (63 : Int32)) = (29 : Int32) then
          B_L_law_2015 xs nS (L_L_law_23 xs nS n) x4 M
        else
        if ((xs (cl x4)) &&& (63 : Int32)) = (30 : Int32) then
          B_L_law_2071 xs nS (L_L_law_23 xs nS n) x4 M
        else
        if ((xs (cl x4)) &&& (63 : Int32)) = (31 : Int32) then
          B_L_law_2127 xs nS (L_L_law_23 xs nS n) x4 M
        else
        if ((xs (cl x4)) &&& (63 : Int32)) = (32 : Int32) then
          B_L_law_2183 xs nS (L_L_law_23 xs nS n) x4 M
        else
        if ((xs (cl x4)) &&& (63 : Int32)) = (33 : Int32) then
          B_L_law_2196 xs nS (L_L_law_23 xs nS n) x4 M
        else
        if ((xs (cl x4)) &&& (63 : Int32)) = (34 : Int32) then
          B_L_law_2209 xs nS (L_L_law_23 xs nS n) x4 M
        else
        if ((xs (cl x4)) &&& (63 : Int32)) = (35 : Int32) then
          B_L_law_2265 xs nS (L_L_law_23 xs nS n) x4 M
        else
        if ((xs (cl x4)) &&& (63 : Int32)) = (36 : Int32) then
          B_L_law_2309 xs nS (L_L_law_23 xs nS n) x4 M
        else
        B_L_law_2323 xs nS (L_L_law_23 xs nS n) x4 M
      else none
theorem gw_0 : (Cond.initialized "SectionDeskLaw") ∈ GL := gl_of 109 (by decide +kernel) (by decide +kernel)
theorem gw_230 : (Cond.methodLink "SectionDeskLaw" (134 : Nat) ({ cls := "SectionDesk", name := "sections", desc := "()I" } : MethodName)) ∈ GL := gl_of 339 (by decide +kernel) (by decide +kernel)
theorem gw_231 : (Cond.instanceMethod ({ cls := "SectionDesk", name := "sections", desc := "()I" } : MethodName)) ∈ GL := gl_of 340 (by decide +kernel) (by decide +kernel)
theorem gw_232 : (Cond.selects "SectionDesk" ({ cls := "SectionDesk", name := "sections", desc := "()I" } : MethodName) ({ cls := "SectionDesk", name := "sections", desc := "()I" } : MethodName)) ∈ GL := gl_of 341 (by decide +kernel) (by decide +kernel)
theorem gw_233 : (Cond.code ({ cls := "SectionDesk", name := "sections", desc := "()I" } : MethodName) prog_1_method_5_code (1 : Nat) (Option.some FieldType.int)) ∈ GL := gl_of 342 (by decide +kernel) (by decide +kernel)
theorem gw_234 : (Cond.methodLink "SectionDeskLaw" (195 : Nat) ({ cls := "SectionDesk", name := "entries", desc := "()I" } : MethodName)) ∈ GL := gl_of 343 (by decide +kernel) (by decide +kernel)
theorem gw_235 : (Cond.instanceMethod ({ cls := "SectionDesk", name := "entries", desc := "()I" } : MethodName)) ∈ GL := gl_of 344 (by decide +kernel) (by decide +kernel)
theorem gw_236 : (Cond.selects "SectionDesk" ({ cls := "SectionDesk", name := "entries", desc := "()I" } : MethodName) ({ cls := "SectionDesk", name := "entries", desc := "()I" } : MethodName)) ∈ GL := gl_of 345 (by decide +kernel) (by decide +kernel)
theorem gw_237 : (Cond.code ({ cls := "SectionDesk", name := "entries", desc := "()I" } : MethodName) prog_1_method_24_code (1 : Nat) (Option.some FieldType.int)) ∈ GL := gl_of 346 (by decide +kernel) (by decide +kernel)
theorem gw_238 : (Cond.methodLink "SectionDeskLaw" (211 : Nat) ({ cls := "SectionDesk", name := "waiting", desc := "()I" } : MethodName)) ∈ GL := gl_of 347 (by decide +kernel) (by decide +kernel)
theorem gw_239 : (Cond.instanceMethod ({ cls := "SectionDesk", name := "waiting", desc := "()I" } : MethodName)) ∈ GL := gl_of 348 (by decide +kernel) (by decide +kernel)
theorem gw_240 : (Cond.selects "SectionDesk" ({ cls := "SectionDesk", name := "waiting", desc := "()I" } : MethodName) ({ cls := "SectionDesk", name := "waiting", desc := "()I" } : MethodName)) ∈ GL := gl_of 349 (by decide +kernel) (by decide +kernel)
theorem gw_241 : (Cond.code ({ cls := "SectionDesk", name := "waiting", desc := "()I" } : MethodName) prog_1_method_29_code (1 : Nat) (Option.some FieldType.int)) ∈ GL := gl_of 350 (by decide +kernel) (by decide +kernel)
theorem gw_242 : (Cond.methodLink "SectionDeskLaw" (227 : Nat) ({ cls := "SectionDesk", name := "clearText", desc := "()I" } : MethodName)) ∈ GL := gl_of 351 (by decide +kernel) (by decide +kernel)
theorem gw_243 : (Cond.instanceMethod ({ cls := "SectionDesk", name := "clearText", desc := "()I" } : MethodName)) ∈ GL := gl_of 352 (by decide +kernel) (by decide +kernel)
theorem gw_244 : (Cond.selects "SectionDesk" ({ cls := "SectionDesk", name := "clearText", desc := "()I" } : MethodName) ({ cls := "SectionDesk", name := "clearText", desc := "()I" } : MethodName)) ∈ GL := gl_of 353 (by decide +kernel) (by decide +kernel)
theorem gw_245 : (Cond.code ({ cls := "SectionDesk", name := "clearText", desc := "()I" } : MethodName) prog_1_method_34_code (2 : Nat) (Option.some FieldType.int)) ∈ GL := gl_of 354 (by decide +kernel) (by decide +kernel)
theorem gw_246 : (Cond.methodLink "SectionDeskLaw" (231 : Nat) ({ cls := "SectionDesk", name := "carryOut", desc := "()I" } : MethodName)) ∈ GL := gl_of 355 (by decide +kernel) (by decide +kernel)
theorem gw_247 : (Cond.instanceMethod ({ cls := "SectionDesk", name := "carryOut", desc := "()I" } : MethodName)) ∈ GL := gl_of 356 (by decide +kernel) (by decide +kernel)
theorem gw_248 : (Cond.selects "SectionDesk" ({ cls := "SectionDesk", name := "carryOut", desc := "()I" } : MethodName) ({ cls := "SectionDesk", name := "carryOut", desc := "()I" } : MethodName)) ∈ GL := gl_of 357 (by decide +kernel) (by decide +kernel)
theorem gw_249 : (Cond.code ({ cls := "SectionDesk", name := "carryOut", desc := "()I" } : MethodName) prog_1_method_35_code (3 : Nat) (Option.some FieldType.int)) ∈ GL := gl_of 358 (by decide +kernel) (by decide +kernel)
theorem gw_668 : (Cond.methodLink "SectionDeskLaw" (242 : Nat) ({ cls := "SectionDesk", name := "digest", desc := "()J" } : MethodName)) ∈ GL := gl_of 777 (by decide +kernel) (by decide +kernel)
theorem gw_669 : (Cond.instanceMethod ({ cls := "SectionDesk", name := "digest", desc := "()J" } : MethodName)) ∈ GL := gl_of 778 (by decide +kernel) (by decide +kernel)
theorem gw_670 : (Cond.selects "SectionDesk" ({ cls := "SectionDesk", name := "digest", desc := "()J" } : MethodName) ({ cls := "SectionDesk", name := "digest", desc := "()J" } : MethodName)) ∈ GL := gl_of 779 (by decide +kernel) (by decide +kernel)
theorem gw_671 : (Cond.code ({ cls := "SectionDesk", name := "digest", desc := "()J" } : MethodName) prog_1_method_38_code (3 : Nat) (Option.some FieldType.long)) ∈ GL := gl_of 780 (by decide +kernel) (by decide +kernel)
theorem gw_733 : (Cond.methodLink "SectionDeskLaw" (118 : Nat) ({ cls := "SectionDeskLaw", name := "addSection", desc := "(LSectionDesk;I[J)I" } : MethodName)) ∈ GL := gl_of 842 (by decide +kernel) (by decide +kernel)
theorem gw_734 : (Cond.static ({ cls := "SectionDeskLaw", name := "addSection", desc := "(LSectionDesk;I[J)I" } : MethodName)) ∈ GL := gl_of 843 (by decide +kernel) (by decide +kernel)
theorem gw_735 : (Cond.codeWith ({ cls := "SectionDeskLaw", name := "addSection", desc := "(LSectionDesk;I[J)I" } : MethodName) method_3_code (4 : Nat) (Option.some FieldType.int) [((0 : Nat), (9 : Nat), (12 : Nat), (13 : Nat)), ((0 : Nat), (9 : Nat), (15 : Nat), (15 : Nat))]) ∈ GL := gl_of 844 (by decide +kernel) (by decide +kernel)
theorem gw_875 : (Cond.methodLink "SectionDeskLaw" (127 : Nat) ({ cls := "SectionDeskLaw", name := "removeSection", desc := "(LSectionDesk;I[J)I" } : MethodName)) ∈ GL := gl_of 984 (by decide +kernel) (by decide +kernel)
theorem gw_876 : (Cond.static ({ cls := "SectionDeskLaw", name := "removeSection", desc := "(LSectionDesk;I[J)I" } : MethodName)) ∈ GL := gl_of 985 (by decide +kernel) (by decide +kernel)
theorem gw_877 : (Cond.codeWith ({ cls := "SectionDeskLaw", name := "removeSection", desc := "(LSectionDesk;I[J)I" } : MethodName) method_4_code (4 : Nat) (Option.some FieldType.int) [((0 : Nat), (9 : Nat), (12 : Nat), (13 : Nat)), ((0 : Nat), (9 : Nat), (15 : Nat), (20 : Nat)), ((0 : Nat), (9 : Nat), (18 : Nat), (15 : Nat))]) ∈ GL := gl_of 986 (by decide +kernel) (by decide +kernel)
theorem gw_906 : (Cond.methodLink "SectionDeskLaw" (130 : Nat) ({ cls := "SectionDeskLaw", name := "moveSection", desc := "(LSectionDesk;II[J)I" } : MethodName)) ∈ GL := gl_of 1015 (by decide +kernel) (by decide +kernel)
theorem gw_907 : (Cond.static ({ cls := "SectionDeskLaw", name := "moveSection", desc := "(LSectionDesk;II[J)I" } : MethodName)) ∈ GL := gl_of 1016 (by decide +kernel) (by decide +kernel)
theorem gw_908 : (Cond.codeWith ({ cls := "SectionDeskLaw", name := "moveSection", desc := "(LSectionDesk;II[J)I" } : MethodName) method_5_code (5 : Nat) (Option.some FieldType.int) [((0 : Nat), (10 : Nat), (13 : Nat), (13 : Nat)), ((0 : Nat), (10 : Nat), (17 : Nat), (20 : Nat)), ((0 : Nat), (10 : Nat), (21 : Nat), (15 : Nat))]) ∈ GL := gl_of 1017 (by decide +kernel) (by decide +kernel)
theorem gw_930 : (Cond.methodLink "SectionDeskLaw" (138 : Nat) ({ cls := "SectionDeskLaw", name := "section", desc := "(LSectionDesk;II[J)I" } : MethodName)) ∈ GL := gl_of 1039 (by decide +kernel) (by decide +kernel)
theorem gw_931 : (Cond.static ({ cls := "SectionDeskLaw", name := "section", desc := "(LSectionDesk;II[J)I" } : MethodName)) ∈ GL := gl_of 1040 (by decide +kernel) (by decide +kernel)
theorem gw_932 : (Cond.codeWith ({ cls := "SectionDeskLaw", name := "section", desc := "(LSectionDesk;II[J)I" } : MethodName) method_6_code (5 : Nat) (Option.some FieldType.int) [((0 : Nat), (10 : Nat), (13 : Nat), (13 : Nat)), ((0 : Nat), (10 : Nat), (17 : Nat), (20 : Nat))]) ∈ GL := gl_of 1041 (by decide +kernel) (by decide +kernel)
theorem gw_944 : (Cond.methodLink "SectionDeskLaw" (141 : Nat) ({ cls := "SectionDeskLaw", name := "child", desc := "(LSectionDesk;II[J)I" } : MethodName)) ∈ GL := gl_of 1053 (by decide +kernel) (by decide +kernel)
theorem gw_945 : (Cond.static ({ cls := "SectionDeskLaw", name := "child", desc := "(LSectionDesk;II[J)I" } : MethodName)) ∈ GL := gl_of 1054 (by decide +kernel) (by decide +kernel)
theorem gw_946 : (Cond.codeWith ({ cls := "SectionDeskLaw", name := "child", desc := "(LSectionDesk;II[J)I" } : MethodName) method_7_code (5 : Nat) (Option.some FieldType.int) [((0 : Nat), (10 : Nat), (13 : Nat), (13 : Nat))]) ∈ GL := gl_of 1055 (by decide +kernel) (by decide +kernel)
theorem gw_952 : (Cond.methodLink "SectionDeskLaw" (144 : Nat) ({ cls := "SectionDeskLaw", name := "line", desc := "(LSectionDesk;II[J)I" } : MethodName)) ∈ GL := gl_of 1061 (by decide +kernel) (by decide +kernel)
theorem gw_953 : (Cond.static ({ cls := "SectionDeskLaw", name := "line", desc := "(LSectionDesk;II[J)I" } : MethodName)) ∈ GL := gl_of 1062 (by decide +kernel) (by decide +kernel)
theorem gw_954 : (Cond.codeWith ({ cls := "SectionDeskLaw", name := "line", desc := "(LSectionDesk;II[J)I" } : MethodName) method_8_code (5 : Nat) (Option.some FieldType.int) [((0 : Nat), (10 : Nat), (13 : Nat), (13 : Nat))]) ∈ GL := gl_of 1063 (by decide +kernel) (by decide +kernel)
theorem gw_962 : (Cond.methodLink "SectionDeskLaw" (147 : Nat) ({ cls := "SectionDeskLaw", name := "write", desc := "(LSectionDesk;III[J)I" } : MethodName)) ∈ GL := gl_of 1071 (by decide +kernel) (by decide +kernel)
theorem gw_963 : (Cond.static ({ cls := "SectionDeskLaw", name := "write", desc := "(LSectionDesk;III[J)I" } : MethodName)) ∈ GL := gl_of 1072 (by decide +kernel) (by decide +kernel)
theorem gw_964 : (Cond.codeWith ({ cls := "SectionDeskLaw", name := "write", desc := "(LSectionDesk;III[J)I" } : MethodName) method_9_code (6 : Nat) (Option.some FieldType.int) [((0 : Nat), (12 : Nat), (15 : Nat), (13 : Nat)), ((0 : Nat), (12 : Nat), (19 : Nat), (20 : Nat)), ((0 : Nat), (12 : Nat), (23 : Nat), (15 : Nat))]) ∈ GL := gl_of 1073 (by decide +kernel) (by decide +kernel)
theorem gw_977 : (Cond.methodLink "SectionDeskLaw" (151 : Nat) ({ cls := "SectionDeskLaw", name := "request", desc := "(LSectionDesk;IIIZ[J)I" } : MethodName)) ∈ GL := gl_of 1086 (by decide +kernel) (by decide +kernel)
theorem gw_978 : (Cond.static ({ cls := "SectionDeskLaw", name := "request", desc := "(LSectionDesk;IIIZ[J)I" } : MethodName)) ∈ GL := gl_of 1087 (by decide +kernel) (by decide +kernel)
theorem gw_979 : (Cond.codeWith ({ cls := "SectionDeskLaw", name := "request", desc := "(LSectionDesk;IIIZ[J)I" } : MethodName) method_10_code (7 : Nat) (Option.some FieldType.int) [((0 : Nat), (14 : Nat), (17 : Nat), (13 : Nat)), ((0 : Nat), (14 : Nat), (21 : Nat), (20 : Nat)), ((0 : Nat), (14 : Nat), (25 : Nat), (15 : Nat))]) ∈ GL := gl_of 1088 (by decide +kernel) (by decide +kernel)
theorem gw_984 : (Cond.methodLink "SectionDeskLaw" (155 : Nat) ({ cls := "SectionDeskLaw", name := "cancel", desc := "(LSectionDesk;I[J)I" } : MethodName)) ∈ GL := gl_of 1093 (by decide +kernel) (by decide +kernel)
theorem gw_985 : (Cond.static ({ cls := "SectionDeskLaw", name := "cancel", desc := "(LSectionDesk;I[J)I" } : MethodName)) ∈ GL := gl_of 1094 (by decide +kernel) (by decide +kernel)
theorem gw_986 : (Cond.codeWith ({ cls := "SectionDeskLaw", name := "cancel", desc := "(LSectionDesk;I[J)I" } : MethodName) method_11_code (4 : Nat) (Option.some FieldType.int) [((0 : Nat), (9 : Nat), (12 : Nat), (13 : Nat)), ((0 : Nat), (9 : Nat), (15 : Nat), (15 : Nat))]) ∈ GL := gl_of 1095 (by decide +kernel) (by decide +kernel)
theorem gw_999 : (Cond.methodLink "SectionDeskLaw" (158 : Nat) ({ cls := "SectionDeskLaw", name := "renew", desc := "(LSectionDesk;II[J)I" } : MethodName)) ∈ GL := gl_of 1108 (by decide +kernel) (by decide +kernel)
theorem gw_1000 : (Cond.static ({ cls := "SectionDeskLaw", name := "renew", desc := "(LSectionDesk;II[J)I" } : MethodName)) ∈ GL := gl_of 1109 (by decide +kernel) (by decide +kernel)
theorem gw_1001 : (Cond.codeWith ({ cls := "SectionDeskLaw", name := "renew", desc := "(LSectionDesk;II[J)I" } : MethodName) method_12_code (5 : Nat) (Option.some FieldType.int) [((0 : Nat), (10 : Nat), (13 : Nat), (13 : Nat)), ((0 : Nat), (10 : Nat), (17 : Nat), (20 : Nat)), ((0 : Nat), (10 : Nat), (21 : Nat), (15 : Nat))]) ∈ GL := gl_of 1110 (by decide +kernel) (by decide +kernel)
theorem gw_1018 : (Cond.methodLink "SectionDeskLaw" (161 : Nat) ({ cls := "SectionDeskLaw", name := "breakUp", desc := "(LSectionDesk;I[J)I" } : MethodName)) ∈ GL := gl_of 1127 (by decide +kernel) (by decide +kernel)
theorem gw_1019 : (Cond.static ({ cls := "SectionDeskLaw", name := "breakUp", desc := "(LSectionDesk;I[J)I" } : MethodName)) ∈ GL := gl_of 1128 (by decide +kernel) (by decide +kernel)
theorem gw_1020 : (Cond.codeWith ({ cls := "SectionDeskLaw", name := "breakUp", desc := "(LSectionDesk;I[J)I" } : MethodName) method_13_code (4 : Nat) (Option.some FieldType.int) [((0 : Nat), (9 : Nat), (12 : Nat), (13 : Nat)), ((0 : Nat), (9 : Nat), (15 : Nat), (15 : Nat))]) ∈ GL := gl_of 1129 (by decide +kernel) (by decide +kernel)
theorem gw_1025 : (Cond.methodLink "SectionDeskLaw" (164 : Nat) ({ cls := "SectionDeskLaw", name := "discard", desc := "(LSectionDesk;I[J)I" } : MethodName)) ∈ GL := gl_of 1134 (by decide +kernel) (by decide +kernel)
theorem gw_1026 : (Cond.static ({ cls := "SectionDeskLaw", name := "discard", desc := "(LSectionDesk;I[J)I" } : MethodName)) ∈ GL := gl_of 1135 (by decide +kernel) (by decide +kernel)
theorem gw_1027 : (Cond.codeWith ({ cls := "SectionDeskLaw", name := "discard", desc := "(LSectionDesk;I[J)I" } : MethodName) method_14_code (4 : Nat) (Option.some FieldType.int) [((0 : Nat), (9 : Nat), (12 : Nat), (13 : Nat))]) ∈ GL := gl_of 1136 (by decide +kernel) (by decide +kernel)
theorem gw_1032 : (Cond.methodLink "SectionDeskLaw" (167 : Nat) ({ cls := "SectionDeskLaw", name := "edit", desc := "(LSectionDesk;IIII[J)I" } : MethodName)) ∈ GL := gl_of 1141 (by decide +kernel) (by decide +kernel)
theorem gw_1033 : (Cond.static ({ cls := "SectionDeskLaw", name := "edit", desc := "(LSectionDesk;IIII[J)I" } : MethodName)) ∈ GL := gl_of 1142 (by decide +kernel) (by decide +kernel)
theorem gw_1034 : (Cond.codeWith ({ cls := "SectionDeskLaw", name := "edit", desc := "(LSectionDesk;IIII[J)I" } : MethodName) method_15_code (7 : Nat) (Option.some FieldType.int) [((0 : Nat), (14 : Nat), (17 : Nat), (13 : Nat)), ((0 : Nat), (14 : Nat), (21 : Nat), (20 : Nat)), ((0 : Nat), (14 : Nat), (25 : Nat), (15 : Nat))]) ∈ GL := gl_of 1143 (by decide +kernel) (by decide +kernel)
theorem gw_1039 : (Cond.methodLink "SectionDeskLaw" (171 : Nat) ({ cls := "SectionDeskLaw", name := "copied", desc := "(LSectionDesk;IIIZ[J)I" } : MethodName)) ∈ GL := gl_of 1148 (by decide +kernel) (by decide +kernel)
theorem gw_1040 : (Cond.static ({ cls := "SectionDeskLaw", name := "copied", desc := "(LSectionDesk;IIIZ[J)I" } : MethodName)) ∈ GL := gl_of 1149 (by decide +kernel) (by decide +kernel)
theorem gw_1041 : (Cond.codeWith ({ cls := "SectionDeskLaw", name := "copied", desc := "(LSectionDesk;IIIZ[J)I" } : MethodName) method_16_code (7 : Nat) (Option.some FieldType.int) [((0 : Nat), (14 : Nat), (17 : Nat), (13 : Nat))]) ∈ GL := gl_of 1150 (by decide +kernel) (by decide +kernel)
theorem gw_1049 : (Cond.methodLink "SectionDeskLaw" (174 : Nat) ({ cls := "SectionDeskLaw", name := "conflicts", desc := "(LSectionDesk;I[J)I" } : MethodName)) ∈ GL := gl_of 1158 (by decide +kernel) (by decide +kernel)
theorem gw_1050 : (Cond.static ({ cls := "SectionDeskLaw", name := "conflicts", desc := "(LSectionDesk;I[J)I" } : MethodName)) ∈ GL := gl_of 1159 (by decide +kernel) (by decide +kernel)
theorem gw_1051 : (Cond.codeWith ({ cls := "SectionDeskLaw", name := "conflicts", desc := "(LSectionDesk;I[J)I" } : MethodName) method_17_code (4 : Nat) (Option.some FieldType.int) [((0 : Nat), (9 : Nat), (12 : Nat), (13 : Nat))]) ∈ GL := gl_of 1160 (by decide +kernel) (by decide +kernel)
theorem gw_1057 : (Cond.methodLink "SectionDeskLaw" (177 : Nat) ({ cls := "SectionDeskLaw", name := "giveBack", desc := "(LSectionDesk;II[J)I" } : MethodName)) ∈ GL := gl_of 1166 (by decide +kernel) (by decide +kernel)
theorem gw_1058 : (Cond.static ({ cls := "SectionDeskLaw", name := "giveBack", desc := "(LSectionDesk;II[J)I" } : MethodName)) ∈ GL := gl_of 1167 (by decide +kernel) (by decide +kernel)
theorem gw_1059 : (Cond.codeWith ({ cls := "SectionDeskLaw", name := "giveBack", desc := "(LSectionDesk;II[J)I" } : MethodName) method_18_code (5 : Nat) (Option.some FieldType.int) [((0 : Nat), (10 : Nat), (13 : Nat), (13 : Nat)), ((0 : Nat), (10 : Nat), (17 : Nat), (20 : Nat)), ((0 : Nat), (10 : Nat), (21 : Nat), (15 : Nat))]) ∈ GL := gl_of 1168 (by decide +kernel) (by decide +kernel)
theorem gw_1064 : (Cond.methodLink "SectionDeskLaw" (180 : Nat) ({ cls := "SectionDeskLaw", name := "checkOut", desc := "(LSectionDesk;II[J)I" } : MethodName)) ∈ GL := gl_of 1173 (by decide +kernel) (by decide +kernel)
theorem gw_1065 : (Cond.static ({ cls := "SectionDeskLaw", name := "checkOut", desc := "(LSectionDesk;II[J)I" } : MethodName)) ∈ GL := gl_of 1174 (by decide +kernel) (by decide +kernel)
theorem gw_1066 : (Cond.codeWith ({ cls := "SectionDeskLaw", name := "checkOut", desc := "(LSectionDesk;II[J)I" } : MethodName) method_19_code (5 : Nat) (Option.some FieldType.int) [((0 : Nat), (10 : Nat), (13 : Nat), (13 : Nat)), ((0 : Nat), (10 : Nat), (17 : Nat), (20 : Nat))]) ∈ GL := gl_of 1175 (by decide +kernel) (by decide +kernel)
theorem gw_1074 : (Cond.methodLink "SectionDeskLaw" (183 : Nat) ({ cls := "SectionDeskLaw", name := "holders", desc := "(LSectionDesk;I[J)I" } : MethodName)) ∈ GL := gl_of 1183 (by decide +kernel) (by decide +kernel)
theorem gw_1075 : (Cond.static ({ cls := "SectionDeskLaw", name := "holders", desc := "(LSectionDesk;I[J)I" } : MethodName)) ∈ GL := gl_of 1184 (by decide +kernel) (by decide +kernel)
theorem gw_1076 : (Cond.codeWith ({ cls := "SectionDeskLaw", name := "holders", desc := "(LSectionDesk;I[J)I" } : MethodName) method_20_code (4 : Nat) (Option.some FieldType.int) [((0 : Nat), (9 : Nat), (12 : Nat), (13 : Nat))]) ∈ GL := gl_of 1185 (by decide +kernel) (by decide +kernel)
theorem gw_1085 : (Cond.methodLink "SectionDeskLaw" (186 : Nat) ({ cls := "SectionDeskLaw", name := "ifBroken", desc := "(LSectionDesk;I[J)I" } : MethodName)) ∈ GL := gl_of 1194 (by decide +kernel) (by decide +kernel)
theorem gw_1086 : (Cond.static ({ cls := "SectionDeskLaw", name := "ifBroken", desc := "(LSectionDesk;I[J)I" } : MethodName)) ∈ GL := gl_of 1195 (by decide +kernel) (by decide +kernel)
theorem gw_1087 : (Cond.codeWith ({ cls := "SectionDeskLaw", name := "ifBroken", desc := "(LSectionDesk;I[J)I" } : MethodName) method_21_code (4 : Nat) (Option.some FieldType.int) [((0 : Nat), (9 : Nat), (12 : Nat), (13 : Nat))]) ∈ GL := gl_of 1196 (by decide +kernel) (by decide +kernel)
theorem gw_1095 : (Cond.methodLink "SectionDeskLaw" (189 : Nat) ({ cls := "SectionDeskLaw", name := "grantedAt", desc := "(LSectionDesk;I[J)I" } : MethodName)) ∈ GL := gl_of 1204 (by decide +kernel) (by decide +kernel)
theorem gw_1096 : (Cond.static ({ cls := "SectionDeskLaw", name := "grantedAt", desc := "(LSectionDesk;I[J)I" } : MethodName)) ∈ GL := gl_of 1205 (by decide +kernel) (by decide +kernel)
theorem gw_1097 : (Cond.codeWith ({ cls := "SectionDeskLaw", name := "grantedAt", desc := "(LSectionDesk;I[J)I" } : MethodName) method_22_code (4 : Nat) (Option.some FieldType.int) [((0 : Nat), (9 : Nat), (12 : Nat), (13 : Nat)), ((0 : Nat), (9 : Nat), (15 : Nat), (15 : Nat))]) ∈ GL := gl_of 1206 (by decide +kernel) (by decide +kernel)
theorem gw_1103 : (Cond.methodLink "SectionDeskLaw" (192 : Nat) ({ cls := "SectionDeskLaw", name := "waitsFor", desc := "(LSectionDesk;I[J)I" } : MethodName)) ∈ GL := gl_of 1212 (by decide +kernel) (by decide +kernel)
theorem gw_1104 : (Cond.static ({ cls := "SectionDeskLaw", name := "waitsFor", desc := "(LSectionDesk;I[J)I" } : MethodName)) ∈ GL := gl_of 1213 (by decide +kernel) (by decide +kernel)
theorem gw_1105 : (Cond.codeWith ({ cls := "SectionDeskLaw", name := "waitsFor", desc := "(LSectionDesk;I[J)I" } : MethodName) method_23_code (4 : Nat) (Option.some FieldType.int) [((0 : Nat), (9 : Nat), (12 : Nat), (13 : Nat)), ((0 : Nat), (9 : Nat), (15 : Nat), (15 : Nat))]) ∈ GL := gl_of 1214 (by decide +kernel) (by decide +kernel)
theorem gw_1114 : (Cond.methodLink "SectionDeskLaw" (199 : Nat) ({ cls := "SectionDeskLaw", name := "entry", desc := "(LSectionDesk;II[J)I" } : MethodName)) ∈ GL := gl_of 1223 (by decide +kernel) (by decide +kernel)
theorem gw_1115 : (Cond.static ({ cls := "SectionDeskLaw", name := "entry", desc := "(LSectionDesk;II[J)I" } : MethodName)) ∈ GL := gl_of 1224 (by decide +kernel) (by decide +kernel)
theorem gw_1116 : (Cond.codeWith ({ cls := "SectionDeskLaw", name := "entry", desc := "(LSectionDesk;II[J)I" } : MethodName) method_24_code (5 : Nat) (Option.some FieldType.int) [((0 : Nat), (10 : Nat), (13 : Nat), (13 : Nat)), ((0 : Nat), (10 : Nat), (17 : Nat), (20 : Nat))]) ∈ GL := gl_of 1225 (by decide +kernel) (by decide +kernel)
theorem gw_1122 : (Cond.methodLink "SectionDeskLaw" (202 : Nat) ({ cls := "SectionDeskLaw", name := "blame", desc := "(LSectionDesk;II[J)I" } : MethodName)) ∈ GL := gl_of 1231 (by decide +kernel) (by decide +kernel)
theorem gw_1123 : (Cond.static ({ cls := "SectionDeskLaw", name := "blame", desc := "(LSectionDesk;II[J)I" } : MethodName)) ∈ GL := gl_of 1232 (by decide +kernel) (by decide +kernel)
theorem gw_1124 : (Cond.codeWith ({ cls := "SectionDeskLaw", name := "blame", desc := "(LSectionDesk;II[J)I" } : MethodName) method_25_code (5 : Nat) (Option.some FieldType.int) [((0 : Nat), (10 : Nat), (13 : Nat), (13 : Nat))]) ∈ GL := gl_of 1233 (by decide +kernel) (by decide +kernel)
theorem gw_1133 : (Cond.methodLink "SectionDeskLaw" (205 : Nat) ({ cls := "SectionDeskLaw", name := "lineAt", desc := "(LSectionDesk;III[J)I" } : MethodName)) ∈ GL := gl_of 1242 (by decide +kernel) (by decide +kernel)
theorem gw_1134 : (Cond.static ({ cls := "SectionDeskLaw", name := "lineAt", desc := "(LSectionDesk;III[J)I" } : MethodName)) ∈ GL := gl_of 1243 (by decide +kernel) (by decide +kernel)
theorem gw_1135 : (Cond.codeWith ({ cls := "SectionDeskLaw", name := "lineAt", desc := "(LSectionDesk;III[J)I" } : MethodName) method_26_code (6 : Nat) (Option.some FieldType.int) [((0 : Nat), (12 : Nat), (15 : Nat), (13 : Nat)), ((0 : Nat), (12 : Nat), (19 : Nat), (20 : Nat))]) ∈ GL := gl_of 1244 (by decide +kernel) (by decide +kernel)
theorem gw_1150 : (Cond.methodLink "SectionDeskLaw" (208 : Nat) ({ cls := "SectionDeskLaw", name := "revert", desc := "(LSectionDesk;II[J)I" } : MethodName)) ∈ GL := gl_of 1259 (by decide +kernel) (by decide +kernel)
theorem gw_1151 : (Cond.static ({ cls := "SectionDeskLaw", name := "revert", desc := "(LSectionDesk;II[J)I" } : MethodName)) ∈ GL := gl_of 1260 (by decide +kernel) (by decide +kernel)
theorem gw_1152 : (Cond.codeWith ({ cls := "SectionDeskLaw", name := "revert", desc := "(LSectionDesk;II[J)I" } : MethodName) method_27_code (5 : Nat) (Option.some FieldType.int) [((0 : Nat), (10 : Nat), (13 : Nat), (13 : Nat)), ((0 : Nat), (10 : Nat), (17 : Nat), (20 : Nat)), ((0 : Nat), (10 : Nat), (21 : Nat), (15 : Nat))]) ∈ GL := gl_of 1261 (by decide +kernel) (by decide +kernel)
theorem gw_1165 : (Cond.methodLink "SectionDeskLaw" (215 : Nat) ({ cls := "SectionDeskLaw", name := "waitingAt", desc := "(LSectionDesk;II[J)I" } : MethodName)) ∈ GL := gl_of 1274 (by decide +kernel) (by decide +kernel)
theorem gw_1166 : (Cond.static ({ cls := "SectionDeskLaw", name := "waitingAt", desc := "(LSectionDesk;II[J)I" } : MethodName)) ∈ GL := gl_of 1275 (by decide +kernel) (by decide +kernel)
theorem gw_1167 : (Cond.codeWith ({ cls := "SectionDeskLaw", name := "waitingAt", desc := "(LSectionDesk;II[J)I" } : MethodName) method_28_code (5 : Nat) (Option.some FieldType.int) [((0 : Nat), (10 : Nat), (13 : Nat), (13 : Nat)), ((0 : Nat), (10 : Nat), (17 : Nat), (20 : Nat))]) ∈ GL := gl_of 1276 (by decide +kernel) (by decide +kernel)
theorem gw_1173 : (Cond.methodLink "SectionDeskLaw" (218 : Nat) ({ cls := "SectionDeskLaw", name := "pass", desc := "(LSectionDesk;I[J)I" } : MethodName)) ∈ GL := gl_of 1282 (by decide +kernel) (by decide +kernel)
theorem gw_1174 : (Cond.static ({ cls := "SectionDeskLaw", name := "pass", desc := "(LSectionDesk;I[J)I" } : MethodName)) ∈ GL := gl_of 1283 (by decide +kernel) (by decide +kernel)
theorem gw_1175 : (Cond.codeWith ({ cls := "SectionDeskLaw", name := "pass", desc := "(LSectionDesk;I[J)I" } : MethodName) method_29_code (4 : Nat) (Option.some FieldType.int) [((0 : Nat), (9 : Nat), (12 : Nat), (20 : Nat))]) ∈ GL := gl_of 1284 (by decide +kernel) (by decide +kernel)
theorem gw_1180 : (Cond.methodLink "SectionDeskLaw" (221 : Nat) ({ cls := "SectionDeskLaw", name := "useBits", desc := "(LSectionDesk;I[J)I" } : MethodName)) ∈ GL := gl_of 1289 (by decide +kernel) (by decide +kernel)
theorem gw_1181 : (Cond.static ({ cls := "SectionDeskLaw", name := "useBits", desc := "(LSectionDesk;I[J)I" } : MethodName)) ∈ GL := gl_of 1290 (by decide +kernel) (by decide +kernel)
theorem gw_1182 : (Cond.codeWith ({ cls := "SectionDeskLaw", name := "useBits", desc := "(LSectionDesk;I[J)I" } : MethodName) method_30_code (4 : Nat) (Option.some FieldType.int) [((0 : Nat), (9 : Nat), (12 : Nat), (13 : Nat))]) ∈ GL := gl_of 1291 (by decide +kernel) (by decide +kernel)
theorem gw_1197 : (Cond.methodLink "SectionDeskLaw" (224 : Nat) ({ cls := "SectionDeskLaw", name := "append", desc := "(LSectionDesk;I[J)I" } : MethodName)) ∈ GL := gl_of 1306 (by decide +kernel) (by decide +kernel)
theorem gw_1198 : (Cond.static ({ cls := "SectionDeskLaw", name := "append", desc := "(LSectionDesk;I[J)I" } : MethodName)) ∈ GL := gl_of 1307 (by decide +kernel) (by decide +kernel)
theorem gw_1199 : (Cond.codeWith ({ cls := "SectionDeskLaw", name := "append", desc := "(LSectionDesk;I[J)I" } : MethodName) method_31_code (4 : Nat) (Option.some FieldType.int) [((0 : Nat), (9 : Nat), (12 : Nat), (20 : Nat)), ((0 : Nat), (9 : Nat), (15 : Nat), (15 : Nat))]) ∈ GL := gl_of 1308 (by decide +kernel) (by decide +kernel)
theorem gw_1208 : (Cond.methodLink "SectionDeskLaw" (235 : Nat) ({ cls := "SectionDeskLaw", name := "outline", desc := "(LSectionDesk;I[J)I" } : MethodName)) ∈ GL := gl_of 1317 (by decide +kernel) (by decide +kernel)
theorem gw_1209 : (Cond.static ({ cls := "SectionDeskLaw", name := "outline", desc := "(LSectionDesk;I[J)I" } : MethodName)) ∈ GL := gl_of 1318 (by decide +kernel) (by decide +kernel)
theorem gw_1210 : (Cond.codeWith ({ cls := "SectionDeskLaw", name := "outline", desc := "(LSectionDesk;I[J)I" } : MethodName) method_32_code (4 : Nat) (Option.some FieldType.int) [((0 : Nat), (9 : Nat), (12 : Nat), (20 : Nat))]) ∈ GL := gl_of 1319 (by decide +kernel) (by decide +kernel)
theorem gw_1234 : (Cond.methodLink "SectionDeskLaw" (238 : Nat) ({ cls := "SectionDeskLaw", name := "undo", desc := "(LSectionDesk;[J)I" } : MethodName)) ∈ GL := gl_of 1343 (by decide +kernel) (by decide +kernel)
theorem gw_1235 : (Cond.static ({ cls := "SectionDeskLaw", name := "undo", desc := "(LSectionDesk;[J)I" } : MethodName)) ∈ GL := gl_of 1344 (by decide +kernel) (by decide +kernel)
theorem gw_1236 : (Cond.codeWith ({ cls := "SectionDeskLaw", name := "undo", desc := "(LSectionDesk;[J)I" } : MethodName) method_33_code (3 : Nat) (Option.some FieldType.int) [((0 : Nat), (8 : Nat), (11 : Nat), (15 : Nat))]) ∈ GL := gl_of 1345 (by decide +kernel) (by decide +kernel)
theorem gw_1310 : (Cond.methodLink "SectionDeskLaw" (124 : Nat) ({ cls := "SectionDeskModel", name := "thrown", desc := "()I" } : MethodName)) ∈ GL := gl_of 1419 (by decide +kernel) (by decide +kernel)
theorem gw_1311 : (Cond.instanceMethod ({ cls := "SectionDeskModel", name := "thrown", desc := "()I" } : MethodName)) ∈ GL := gl_of 1420 (by decide +kernel) (by decide +kernel)
theorem gw_1312 : (Cond.selects "SectionDeskModel" ({ cls := "SectionDeskModel", name := "thrown", desc := "()I" } : MethodName) ({ cls := "SectionDeskModel", name := "thrown", desc := "()I" } : MethodName)) ∈ GL := gl_of 1421 (by decide +kernel) (by decide +kernel)
theorem gw_1313 : (Cond.code ({ cls := "SectionDeskModel", name := "thrown", desc := "()I" } : MethodName) prog_11_method_2_code (1 : Nat) (Option.some FieldType.int)) ∈ GL := gl_of 1422 (by decide +kernel) (by decide +kernel)
theorem gw_1314 : (Cond.methodLink "SectionDeskLaw" (241 : Nat) ({ cls := "SectionDeskModel", name := "undo", desc := "()I" } : MethodName)) ∈ GL := gl_of 1423 (by decide +kernel) (by decide +kernel)
theorem gw_1315 : (Cond.instanceMethod ({ cls := "SectionDeskModel", name := "undo", desc := "()I" } : MethodName)) ∈ GL := gl_of 1424 (by decide +kernel) (by decide +kernel)
theorem gw_1316 : (Cond.selects "SectionDeskModel" ({ cls := "SectionDeskModel", name := "undo", desc := "()I" } : MethodName) ({ cls := "SectionDeskModel", name := "undo", desc := "()I" } : MethodName)) ∈ GL := gl_of 1425 (by decide +kernel) (by decide +kernel)
theorem gw_1317 : (Cond.code ({ cls := "SectionDeskModel", name := "undo", desc := "()I" } : MethodName) prog_11_method_6_code (2 : Nat) (Option.some FieldType.int)) ∈ GL := gl_of 1426 (by decide +kernel) (by decide +kernel)
theorem gw_1322 : (Cond.methodLink "SectionDeskLaw" (123 : Nat) ({ cls := "SectionDeskModel", name := "addSection", desc := "(I)I" } : MethodName)) ∈ GL := gl_of 1431 (by decide +kernel) (by decide +kernel)
theorem gw_1323 : (Cond.instanceMethod ({ cls := "SectionDeskModel", name := "addSection", desc := "(I)I" } : MethodName)) ∈ GL := gl_of 1432 (by decide +kernel) (by decide +kernel)
theorem gw_1324 : (Cond.selects "SectionDeskModel" ({ cls := "SectionDeskModel", name := "addSection", desc := "(I)I" } : MethodName) ({ cls := "SectionDeskModel", name := "addSection", desc := "(I)I" } : MethodName)) ∈ GL := gl_of 1433 (by decide +kernel) (by decide +kernel)
theorem gw_1325 : (Cond.code ({ cls := "SectionDeskModel", name := "addSection", desc := "(I)I" } : MethodName) prog_11_method_45_code (4 : Nat) (Option.some FieldType.int)) ∈ GL := gl_of 1434 (by decide +kernel) (by decide +kernel)
theorem gw_1367 : (Cond.methodLink "SectionDeskLaw" (129 : Nat) ({ cls := "SectionDeskModel", name := "removeSection", desc := "(I)I" } : MethodName)) ∈ GL := gl_of 1476 (by decide +kernel) (by decide +kernel)
theorem gw_1368 : (Cond.instanceMethod ({ cls := "SectionDeskModel", name := "removeSection", desc := "(I)I" } : MethodName)) ∈ GL := gl_of 1477 (by decide +kernel) (by decide +kernel)
theorem gw_1369 : (Cond.selects "SectionDeskModel" ({ cls := "SectionDeskModel", name := "removeSection", desc := "(I)I" } : MethodName) ({ cls := "SectionDeskModel", name := "removeSection", desc := "(I)I" } : MethodName)) ∈ GL := gl_of 1478 (by decide +kernel) (by decide +kernel)
theorem gw_1370 : (Cond.code ({ cls := "SectionDeskModel", name := "removeSection", desc := "(I)I" } : MethodName) prog_11_method_46_code (6 : Nat) (Option.some FieldType.int)) ∈ GL := gl_of 1479 (by decide +kernel) (by decide +kernel)
theorem gw_1387 : (Cond.methodLink "SectionDeskLaw" (133 : Nat) ({ cls := "SectionDeskModel", name := "moveSection", desc := "(II)I" } : MethodName)) ∈ GL := gl_of 1496 (by decide +kernel) (by decide +kernel)
theorem gw_1388 : (Cond.instanceMethod ({ cls := "SectionDeskModel", name := "moveSection", desc := "(II)I" } : MethodName)) ∈ GL := gl_of 1497 (by decide +kernel) (by decide +kernel)
theorem gw_1389 : (Cond.selects "SectionDeskModel" ({ cls := "SectionDeskModel", name := "moveSection", desc := "(II)I" } : MethodName) ({ cls := "SectionDeskModel", name := "moveSection", desc := "(II)I" } : MethodName)) ∈ GL := gl_of 1498 (by decide +kernel) (by decide +kernel)
theorem gw_1390 : (Cond.code ({ cls := "SectionDeskModel", name := "moveSection", desc := "(II)I" } : MethodName) prog_11_method_47_code (3 : Nat) (Option.some FieldType.int)) ∈ GL := gl_of 1499 (by decide +kernel) (by decide +kernel)
theorem gw_1395 : (Cond.methodLink "SectionDeskLaw" (137 : Nat) ({ cls := "SectionDeskModel", name := "sections", desc := "()I" } : MethodName)) ∈ GL := gl_of 1504 (by decide +kernel) (by decide +kernel)
theorem gw_1396 : (Cond.instanceMethod ({ cls := "SectionDeskModel", name := "sections", desc := "()I" } : MethodName)) ∈ GL := gl_of 1505 (by decide +kernel) (by decide +kernel)
theorem gw_1397 : (Cond.selects "SectionDeskModel" ({ cls := "SectionDeskModel", name := "sections", desc := "()I" } : MethodName) ({ cls := "SectionDeskModel", name := "sections", desc := "()I" } : MethodName)) ∈ GL := gl_of 1506 (by decide +kernel) (by decide +kernel)
theorem gw_1398 : (Cond.code ({ cls := "SectionDeskModel", name := "sections", desc := "()I" } : MethodName) prog_11_method_48_code (1 : Nat) (Option.some FieldType.int)) ∈ GL := gl_of 1507 (by decide +kernel) (by decide +kernel)
theorem gw_1399 : (Cond.methodLink "SectionDeskLaw" (140 : Nat) ({ cls := "SectionDeskModel", name := "section", desc := "(II)I" } : MethodName)) ∈ GL := gl_of 1508 (by decide +kernel) (by decide +kernel)
theorem gw_1400 : (Cond.instanceMethod ({ cls := "SectionDeskModel", name := "section", desc := "(II)I" } : MethodName)) ∈ GL := gl_of 1509 (by decide +kernel) (by decide +kernel)
theorem gw_1401 : (Cond.selects "SectionDeskModel" ({ cls := "SectionDeskModel", name := "section", desc := "(II)I" } : MethodName) ({ cls := "SectionDeskModel", name := "section", desc := "(II)I" } : MethodName)) ∈ GL := gl_of 1510 (by decide +kernel) (by decide +kernel)
theorem gw_1402 : (Cond.code ({ cls := "SectionDeskModel", name := "section", desc := "(II)I" } : MethodName) prog_11_method_50_code (3 : Nat) (Option.some FieldType.int)) ∈ GL := gl_of 1511 (by decide +kernel) (by decide +kernel)
theorem gw_1415 : (Cond.methodLink "SectionDeskLaw" (143 : Nat) ({ cls := "SectionDeskModel", name := "child", desc := "(II)I" } : MethodName)) ∈ GL := gl_of 1524 (by decide +kernel) (by decide +kernel)
theorem gw_1416 : (Cond.instanceMethod ({ cls := "SectionDeskModel", name := "child", desc := "(II)I" } : MethodName)) ∈ GL := gl_of 1525 (by decide +kernel) (by decide +kernel)
theorem gw_1417 : (Cond.selects "SectionDeskModel" ({ cls := "SectionDeskModel", name := "child", desc := "(II)I" } : MethodName) ({ cls := "SectionDeskModel", name := "child", desc := "(II)I" } : MethodName)) ∈ GL := gl_of 1526 (by decide +kernel) (by decide +kernel)
theorem gw_1418 : (Cond.code ({ cls := "SectionDeskModel", name := "child", desc := "(II)I" } : MethodName) prog_11_method_51_code (3 : Nat) (Option.some FieldType.int)) ∈ GL := gl_of 1527 (by decide +kernel) (by decide +kernel)
theorem gw_1423 : (Cond.methodLink "SectionDeskLaw" (146 : Nat) ({ cls := "SectionDeskModel", name := "line", desc := "(II)I" } : MethodName)) ∈ GL := gl_of 1532 (by decide +kernel) (by decide +kernel)
theorem gw_1424 : (Cond.instanceMethod ({ cls := "SectionDeskModel", name := "line", desc := "(II)I" } : MethodName)) ∈ GL := gl_of 1533 (by decide +kernel) (by decide +kernel)
theorem gw_1425 : (Cond.selects "SectionDeskModel" ({ cls := "SectionDeskModel", name := "line", desc := "(II)I" } : MethodName) ({ cls := "SectionDeskModel", name := "line", desc := "(II)I" } : MethodName)) ∈ GL := gl_of 1534 (by decide +kernel) (by decide +kernel)
theorem gw_1426 : (Cond.code ({ cls := "SectionDeskModel", name := "line", desc := "(II)I" } : MethodName) prog_11_method_53_code (3 : Nat) (Option.some FieldType.int)) ∈ GL := gl_of 1535 (by decide +kernel) (by decide +kernel)
theorem gw_1431 : (Cond.methodLink "SectionDeskLaw" (150 : Nat) ({ cls := "SectionDeskModel", name := "write", desc := "(III)I" } : MethodName)) ∈ GL := gl_of 1540 (by decide +kernel) (by decide +kernel)
theorem gw_1432 : (Cond.instanceMethod ({ cls := "SectionDeskModel", name := "write", desc := "(III)I" } : MethodName)) ∈ GL := gl_of 1541 (by decide +kernel) (by decide +kernel)
theorem gw_1433 : (Cond.selects "SectionDeskModel" ({ cls := "SectionDeskModel", name := "write", desc := "(III)I" } : MethodName) ({ cls := "SectionDeskModel", name := "write", desc := "(III)I" } : MethodName)) ∈ GL := gl_of 1542 (by decide +kernel) (by decide +kernel)
theorem gw_1434 : (Cond.code ({ cls := "SectionDeskModel", name := "write", desc := "(III)I" } : MethodName) prog_11_method_54_code (5 : Nat) (Option.some FieldType.int)) ∈ GL := gl_of 1543 (by decide +kernel) (by decide +kernel)
theorem gw_1455 : (Cond.methodLink "SectionDeskLaw" (154 : Nat) ({ cls := "SectionDeskModel", name := "request", desc := "(IIIZ)I" } : MethodName)) ∈ GL := gl_of 1564 (by decide +kernel) (by decide +kernel)
theorem gw_1456 : (Cond.instanceMethod ({ cls := "SectionDeskModel", name := "request", desc := "(IIIZ)I" } : MethodName)) ∈ GL := gl_of 1565 (by decide +kernel) (by decide +kernel)
theorem gw_1457 : (Cond.selects "SectionDeskModel" ({ cls := "SectionDeskModel", name := "request", desc := "(IIIZ)I" } : MethodName) ({ cls := "SectionDeskModel", name := "request", desc := "(IIIZ)I" } : MethodName)) ∈ GL := gl_of 1566 (by decide +kernel) (by decide +kernel)
theorem gw_1458 : (Cond.code ({ cls := "SectionDeskModel", name := "request", desc := "(IIIZ)I" } : MethodName) prog_11_method_59_code (6 : Nat) (Option.some FieldType.int)) ∈ GL := gl_of 1567 (by decide +kernel) (by decide +kernel)
theorem gw_1505 : (Cond.methodLink "SectionDeskLaw" (157 : Nat) ({ cls := "SectionDeskModel", name := "cancel", desc := "(I)I" } : MethodName)) ∈ GL := gl_of 1614 (by decide +kernel) (by decide +kernel)
theorem gw_1506 : (Cond.instanceMethod ({ cls := "SectionDeskModel", name := "cancel", desc := "(I)I" } : MethodName)) ∈ GL := gl_of 1615 (by decide +kernel) (by decide +kernel)
theorem gw_1507 : (Cond.selects "SectionDeskModel" ({ cls := "SectionDeskModel", name := "cancel", desc := "(I)I" } : MethodName) ({ cls := "SectionDeskModel", name := "cancel", desc := "(I)I" } : MethodName)) ∈ GL := gl_of 1616 (by decide +kernel) (by decide +kernel)
theorem gw_1508 : (Cond.code ({ cls := "SectionDeskModel", name := "cancel", desc := "(I)I" } : MethodName) prog_11_method_60_code (2 : Nat) (Option.some FieldType.int)) ∈ GL := gl_of 1617 (by decide +kernel) (by decide +kernel)
theorem gw_1517 : (Cond.methodLink "SectionDeskLaw" (160 : Nat) ({ cls := "SectionDeskModel", name := "renew", desc := "(II)I" } : MethodName)) ∈ GL := gl_of 1626 (by decide +kernel) (by decide +kernel)
theorem gw_1518 : (Cond.instanceMethod ({ cls := "SectionDeskModel", name := "renew", desc := "(II)I" } : MethodName)) ∈ GL := gl_of 1627 (by decide +kernel) (by decide +kernel)
theorem gw_1519 : (Cond.selects "SectionDeskModel" ({ cls := "SectionDeskModel", name := "renew", desc := "(II)I" } : MethodName) ({ cls := "SectionDeskModel", name := "renew", desc := "(II)I" } : MethodName)) ∈ GL := gl_of 1628 (by decide +kernel) (by decide +kernel)
theorem gw_1520 : (Cond.code ({ cls := "SectionDeskModel", name := "renew", desc := "(II)I" } : MethodName) prog_11_method_61_code (3 : Nat) (Option.some FieldType.int)) ∈ GL := gl_of 1629 (by decide +kernel) (by decide +kernel)
theorem gw_1521 : (Cond.methodLink "SectionDeskLaw" (163 : Nat) ({ cls := "SectionDeskModel", name := "breakUp", desc := "(I)I" } : MethodName)) ∈ GL := gl_of 1630 (by decide +kernel) (by decide +kernel)
theorem gw_1522 : (Cond.instanceMethod ({ cls := "SectionDeskModel", name := "breakUp", desc := "(I)I" } : MethodName)) ∈ GL := gl_of 1631 (by decide +kernel) (by decide +kernel)
theorem gw_1523 : (Cond.selects "SectionDeskModel" ({ cls := "SectionDeskModel", name := "breakUp", desc := "(I)I" } : MethodName) ({ cls := "SectionDeskModel", name := "breakUp", desc := "(I)I" } : MethodName)) ∈ GL := gl_of 1632 (by decide +kernel) (by decide +kernel)
theorem gw_1524 : (Cond.code ({ cls := "SectionDeskModel", name := "breakUp", desc := "(I)I" } : MethodName) prog_11_method_64_code (3 : Nat) (Option.some FieldType.int)) ∈ GL := gl_of 1633 (by decide +kernel) (by decide +kernel)
theorem gw_1537 : (Cond.methodLink "SectionDeskLaw" (166 : Nat) ({ cls := "SectionDeskModel", name := "discard", desc := "(I)I" } : MethodName)) ∈ GL := gl_of 1646 (by decide +kernel) (by decide +kernel)
theorem gw_1538 : (Cond.instanceMethod ({ cls := "SectionDeskModel", name := "discard", desc := "(I)I" } : MethodName)) ∈ GL := gl_of 1647 (by decide +kernel) (by decide +kernel)
theorem gw_1539 : (Cond.selects "SectionDeskModel" ({ cls := "SectionDeskModel", name := "discard", desc := "(I)I" } : MethodName) ({ cls := "SectionDeskModel", name := "discard", desc := "(I)I" } : MethodName)) ∈ GL := gl_of 1648 (by decide +kernel) (by decide +kernel)
theorem gw_1540 : (Cond.code ({ cls := "SectionDeskModel", name := "discard", desc := "(I)I" } : MethodName) prog_11_method_67_code (2 : Nat) (Option.some FieldType.int)) ∈ GL := gl_of 1649 (by decide +kernel) (by decide +kernel)
theorem gw_1549 : (Cond.methodLink "SectionDeskLaw" (170 : Nat) ({ cls := "SectionDeskModel", name := "edit", desc := "(IIII)I" } : MethodName)) ∈ GL := gl_of 1658 (by decide +kernel) (by decide +kernel)
theorem gw_1550 : (Cond.instanceMethod ({ cls := "SectionDeskModel", name := "edit", desc := "(IIII)I" } : MethodName)) ∈ GL := gl_of 1659 (by decide +kernel) (by decide +kernel)
theorem gw_1551 : (Cond.selects "SectionDeskModel" ({ cls := "SectionDeskModel", name := "edit", desc := "(IIII)I" } : MethodName) ({ cls := "SectionDeskModel", name := "edit", desc := "(IIII)I" } : MethodName)) ∈ GL := gl_of 1660 (by decide +kernel) (by decide +kernel)
theorem gw_1552 : (Cond.code ({ cls := "SectionDeskModel", name := "edit", desc := "(IIII)I" } : MethodName) prog_11_method_71_code (5 : Nat) (Option.some FieldType.int)) ∈ GL := gl_of 1661 (by decide +kernel) (by decide +kernel)
theorem gw_1565 : (Cond.methodLink "SectionDeskLaw" (173 : Nat) ({ cls := "SectionDeskModel", name := "copied", desc := "(IIIZ)I" } : MethodName)) ∈ GL := gl_of 1674 (by decide +kernel) (by decide +kernel)
theorem gw_1566 : (Cond.instanceMethod ({ cls := "SectionDeskModel", name := "copied", desc := "(IIIZ)I" } : MethodName)) ∈ GL := gl_of 1675 (by decide +kernel) (by decide +kernel)
theorem gw_1567 : (Cond.selects "SectionDeskModel" ({ cls := "SectionDeskModel", name := "copied", desc := "(IIIZ)I" } : MethodName) ({ cls := "SectionDeskModel", name := "copied", desc := "(IIIZ)I" } : MethodName)) ∈ GL := gl_of 1676 (by decide +kernel) (by decide +kernel)
theorem gw_1568 : (Cond.code ({ cls := "SectionDeskModel", name := "copied", desc := "(IIIZ)I" } : MethodName) prog_11_method_72_code (5 : Nat) (Option.some FieldType.int)) ∈ GL := gl_of 1677 (by decide +kernel) (by decide +kernel)
theorem gw_1569 : (Cond.methodLink "SectionDeskLaw" (176 : Nat) ({ cls := "SectionDeskModel", name := "conflicts", desc := "(I)I" } : MethodName)) ∈ GL := gl_of 1678 (by decide +kernel) (by decide +kernel)
theorem gw_1570 : (Cond.instanceMethod ({ cls := "SectionDeskModel", name := "conflicts", desc := "(I)I" } : MethodName)) ∈ GL := gl_of 1679 (by decide +kernel) (by decide +kernel)
theorem gw_1571 : (Cond.selects "SectionDeskModel" ({ cls := "SectionDeskModel", name := "conflicts", desc := "(I)I" } : MethodName) ({ cls := "SectionDeskModel", name := "conflicts", desc := "(I)I" } : MethodName)) ∈ GL := gl_of 1680 (by decide +kernel) (by decide +kernel)
theorem gw_1572 : (Cond.code ({ cls := "SectionDeskModel", name := "conflicts", desc := "(I)I" } : MethodName) prog_11_method_74_code (2 : Nat) (Option.some FieldType.int)) ∈ GL := gl_of 1681 (by decide +kernel) (by decide +kernel)
theorem gw_1577 : (Cond.methodLink "SectionDeskLaw" (179 : Nat) ({ cls := "SectionDeskModel", name := "giveBack", desc := "(II)I" } : MethodName)) ∈ GL := gl_of 1686 (by decide +kernel) (by decide +kernel)
theorem gw_1578 : (Cond.instanceMethod ({ cls := "SectionDeskModel", name := "giveBack", desc := "(II)I" } : MethodName)) ∈ GL := gl_of 1687 (by decide +kernel) (by decide +kernel)
theorem gw_1579 : (Cond.selects "SectionDeskModel" ({ cls := "SectionDeskModel", name := "giveBack", desc := "(II)I" } : MethodName) ({ cls := "SectionDeskModel", name := "giveBack", desc := "(II)I" } : MethodName)) ∈ GL := gl_of 1688 (by decide +kernel) (by decide +kernel)
theorem gw_1580 : (Cond.code ({ cls := "SectionDeskModel", name := "giveBack", desc := "(II)I" } : MethodName) prog_11_method_77_code (3 : Nat) (Option.some FieldType.int)) ∈ GL := gl_of 1689 (by decide +kernel) (by decide +kernel)
theorem gw_1593 : (Cond.methodLink "SectionDeskLaw" (182 : Nat) ({ cls := "SectionDeskModel", name := "checkOut", desc := "(II)I" } : MethodName)) ∈ GL := gl_of 1702 (by decide +kernel) (by decide +kernel)
theorem gw_1594 : (Cond.instanceMethod ({ cls := "SectionDeskModel", name := "checkOut", desc := "(II)I" } : MethodName)) ∈ GL := gl_of 1703 (by decide +kernel) (by decide +kernel)
theorem gw_1595 : (Cond.selects "SectionDeskModel" ({ cls := "SectionDeskModel", name := "checkOut", desc := "(II)I" } : MethodName) ({ cls := "SectionDeskModel", name := "checkOut", desc := "(II)I" } : MethodName)) ∈ GL := gl_of 1704 (by decide +kernel) (by decide +kernel)
theorem gw_1596 : (Cond.code ({ cls := "SectionDeskModel", name := "checkOut", desc := "(II)I" } : MethodName) prog_11_method_79_code (3 : Nat) (Option.some FieldType.int)) ∈ GL := gl_of 1705 (by decide +kernel) (by decide +kernel)
theorem gw_1601 : (Cond.methodLink "SectionDeskLaw" (185 : Nat) ({ cls := "SectionDeskModel", name := "holders", desc := "(I)I" } : MethodName)) ∈ GL := gl_of 1710 (by decide +kernel) (by decide +kernel)
theorem gw_1602 : (Cond.instanceMethod ({ cls := "SectionDeskModel", name := "holders", desc := "(I)I" } : MethodName)) ∈ GL := gl_of 1711 (by decide +kernel) (by decide +kernel)
theorem gw_1603 : (Cond.selects "SectionDeskModel" ({ cls := "SectionDeskModel", name := "holders", desc := "(I)I" } : MethodName) ({ cls := "SectionDeskModel", name := "holders", desc := "(I)I" } : MethodName)) ∈ GL := gl_of 1712 (by decide +kernel) (by decide +kernel)
theorem gw_1604 : (Cond.code ({ cls := "SectionDeskModel", name := "holders", desc := "(I)I" } : MethodName) prog_11_method_80_code (2 : Nat) (Option.some FieldType.int)) ∈ GL := gl_of 1713 (by decide +kernel) (by decide +kernel)
theorem gw_1605 : (Cond.methodLink "SectionDeskLaw" (188 : Nat) ({ cls := "SectionDeskModel", name := "ifBroken", desc := "(I)I" } : MethodName)) ∈ GL := gl_of 1714 (by decide +kernel) (by decide +kernel)
theorem gw_1606 : (Cond.instanceMethod ({ cls := "SectionDeskModel", name := "ifBroken", desc := "(I)I" } : MethodName)) ∈ GL := gl_of 1715 (by decide +kernel) (by decide +kernel)
theorem gw_1607 : (Cond.selects "SectionDeskModel" ({ cls := "SectionDeskModel", name := "ifBroken", desc := "(I)I" } : MethodName) ({ cls := "SectionDeskModel", name := "ifBroken", desc := "(I)I" } : MethodName)) ∈ GL := gl_of 1716 (by decide +kernel) (by decide +kernel)
theorem gw_1608 : (Cond.code ({ cls := "SectionDeskModel", name := "ifBroken", desc := "(I)I" } : MethodName) prog_11_method_81_code (4 : Nat) (Option.some FieldType.int)) ∈ GL := gl_of 1717 (by decide +kernel) (by decide +kernel)
theorem gw_1617 : (Cond.methodLink "SectionDeskLaw" (191 : Nat) ({ cls := "SectionDeskModel", name := "grantedAt", desc := "(I)I" } : MethodName)) ∈ GL := gl_of 1726 (by decide +kernel) (by decide +kernel)
theorem gw_1618 : (Cond.instanceMethod ({ cls := "SectionDeskModel", name := "grantedAt", desc := "(I)I" } : MethodName)) ∈ GL := gl_of 1727 (by decide +kernel) (by decide +kernel)
theorem gw_1619 : (Cond.selects "SectionDeskModel" ({ cls := "SectionDeskModel", name := "grantedAt", desc := "(I)I" } : MethodName) ({ cls := "SectionDeskModel", name := "grantedAt", desc := "(I)I" } : MethodName)) ∈ GL := gl_of 1728 (by decide +kernel) (by decide +kernel)
theorem gw_1620 : (Cond.code ({ cls := "SectionDeskModel", name := "grantedAt", desc := "(I)I" } : MethodName) prog_11_method_82_code (4 : Nat) (Option.some FieldType.int)) ∈ GL := gl_of 1729 (by decide +kernel) (by decide +kernel)
theorem gw_1625 : (Cond.methodLink "SectionDeskLaw" (194 : Nat) ({ cls := "SectionDeskModel", name := "waitsFor", desc := "(I)I" } : MethodName)) ∈ GL := gl_of 1734 (by decide +kernel) (by decide +kernel)
theorem gw_1626 : (Cond.instanceMethod ({ cls := "SectionDeskModel", name := "waitsFor", desc := "(I)I" } : MethodName)) ∈ GL := gl_of 1735 (by decide +kernel) (by decide +kernel)
theorem gw_1627 : (Cond.selects "SectionDeskModel" ({ cls := "SectionDeskModel", name := "waitsFor", desc := "(I)I" } : MethodName) ({ cls := "SectionDeskModel", name := "waitsFor", desc := "(I)I" } : MethodName)) ∈ GL := gl_of 1736 (by decide +kernel) (by decide +kernel)
theorem gw_1628 : (Cond.code ({ cls := "SectionDeskModel", name := "waitsFor", desc := "(I)I" } : MethodName) prog_11_method_83_code (7 : Nat) (Option.some FieldType.int)) ∈ GL := gl_of 1737 (by decide +kernel) (by decide +kernel)
theorem gw_1629 : (Cond.methodLink "SectionDeskLaw" (198 : Nat) ({ cls := "SectionDeskModel", name := "entries", desc := "()I" } : MethodName)) ∈ GL := gl_of 1738 (by decide +kernel) (by decide +kernel)
theorem gw_1630 : (Cond.instanceMethod ({ cls := "SectionDeskModel", name := "entries", desc := "()I" } : MethodName)) ∈ GL := gl_of 1739 (by decide +kernel) (by decide +kernel)
theorem gw_1631 : (Cond.selects "SectionDeskModel" ({ cls := "SectionDeskModel", name := "entries", desc := "()I" } : MethodName) ({ cls := "SectionDeskModel", name := "entries", desc := "()I" } : MethodName)) ∈ GL := gl_of 1740 (by decide +kernel) (by decide +kernel)
theorem gw_1632 : (Cond.code ({ cls := "SectionDeskModel", name := "entries", desc := "()I" } : MethodName) prog_11_method_84_code (1 : Nat) (Option.some FieldType.int)) ∈ GL := gl_of 1741 (by decide +kernel) (by decide +kernel)
theorem gw_1633 : (Cond.methodLink "SectionDeskLaw" (201 : Nat) ({ cls := "SectionDeskModel", name := "entry", desc := "(II)I" } : MethodName)) ∈ GL := gl_of 1742 (by decide +kernel) (by decide +kernel)
theorem gw_1634 : (Cond.instanceMethod ({ cls := "SectionDeskModel", name := "entry", desc := "(II)I" } : MethodName)) ∈ GL := gl_of 1743 (by decide +kernel) (by decide +kernel)
theorem gw_1635 : (Cond.selects "SectionDeskModel" ({ cls := "SectionDeskModel", name := "entry", desc := "(II)I" } : MethodName) ({ cls := "SectionDeskModel", name := "entry", desc := "(II)I" } : MethodName)) ∈ GL := gl_of 1744 (by decide +kernel) (by decide +kernel)
theorem gw_1636 : (Cond.code ({ cls := "SectionDeskModel", name := "entry", desc := "(II)I" } : MethodName) prog_11_method_85_code (3 : Nat) (Option.some FieldType.int)) ∈ GL := gl_of 1745 (by decide +kernel) (by decide +kernel)
theorem gw_1637 : (Cond.methodLink "SectionDeskLaw" (204 : Nat) ({ cls := "SectionDeskModel", name := "blame", desc := "(II)I" } : MethodName)) ∈ GL := gl_of 1746 (by decide +kernel) (by decide +kernel)
theorem gw_1638 : (Cond.instanceMethod ({ cls := "SectionDeskModel", name := "blame", desc := "(II)I" } : MethodName)) ∈ GL := gl_of 1747 (by decide +kernel) (by decide +kernel)
theorem gw_1639 : (Cond.selects "SectionDeskModel" ({ cls := "SectionDeskModel", name := "blame", desc := "(II)I" } : MethodName) ({ cls := "SectionDeskModel", name := "blame", desc := "(II)I" } : MethodName)) ∈ GL := gl_of 1748 (by decide +kernel) (by decide +kernel)
theorem gw_1640 : (Cond.code ({ cls := "SectionDeskModel", name := "blame", desc := "(II)I" } : MethodName) prog_11_method_86_code (6 : Nat) (Option.some FieldType.int)) ∈ GL := gl_of 1749 (by decide +kernel) (by decide +kernel)
theorem gw_1641 : (Cond.methodLink "SectionDeskLaw" (207 : Nat) ({ cls := "SectionDeskModel", name := "lineAt", desc := "(III)I" } : MethodName)) ∈ GL := gl_of 1750 (by decide +kernel) (by decide +kernel)
theorem gw_1642 : (Cond.instanceMethod ({ cls := "SectionDeskModel", name := "lineAt", desc := "(III)I" } : MethodName)) ∈ GL := gl_of 1751 (by decide +kernel) (by decide +kernel)
theorem gw_1643 : (Cond.selects "SectionDeskModel" ({ cls := "SectionDeskModel", name := "lineAt", desc := "(III)I" } : MethodName) ({ cls := "SectionDeskModel", name := "lineAt", desc := "(III)I" } : MethodName)) ∈ GL := gl_of 1752 (by decide +kernel) (by decide +kernel)
theorem gw_1644 : (Cond.code ({ cls := "SectionDeskModel", name := "lineAt", desc := "(III)I" } : MethodName) prog_11_method_88_code (4 : Nat) (Option.some FieldType.int)) ∈ GL := gl_of 1753 (by decide +kernel) (by decide +kernel)
theorem gw_1653 : (Cond.methodLink "SectionDeskLaw" (210 : Nat) ({ cls := "SectionDeskModel", name := "revert", desc := "(II)I" } : MethodName)) ∈ GL := gl_of 1762 (by decide +kernel) (by decide +kernel)
theorem gw_1654 : (Cond.instanceMethod ({ cls := "SectionDeskModel", name := "revert", desc := "(II)I" } : MethodName)) ∈ GL := gl_of 1763 (by decide +kernel) (by decide +kernel)
theorem gw_1655 : (Cond.selects "SectionDeskModel" ({ cls := "SectionDeskModel", name := "revert", desc := "(II)I" } : MethodName) ({ cls := "SectionDeskModel", name := "revert", desc := "(II)I" } : MethodName)) ∈ GL := gl_of 1764 (by decide +kernel) (by decide +kernel)
theorem gw_1656 : (Cond.code ({ cls := "SectionDeskModel", name := "revert", desc := "(II)I" } : MethodName) prog_11_method_89_code (5 : Nat) (Option.some FieldType.int)) ∈ GL := gl_of 1765 (by decide +kernel) (by decide +kernel)
theorem gw_1657 : (Cond.methodLink "SectionDeskLaw" (214 : Nat) ({ cls := "SectionDeskModel", name := "waiting", desc := "()I" } : MethodName)) ∈ GL := gl_of 1766 (by decide +kernel) (by decide +kernel)
theorem gw_1658 : (Cond.instanceMethod ({ cls := "SectionDeskModel", name := "waiting", desc := "()I" } : MethodName)) ∈ GL := gl_of 1767 (by decide +kernel) (by decide +kernel)
theorem gw_1659 : (Cond.selects "SectionDeskModel" ({ cls := "SectionDeskModel", name := "waiting", desc := "()I" } : MethodName) ({ cls := "SectionDeskModel", name := "waiting", desc := "()I" } : MethodName)) ∈ GL := gl_of 1768 (by decide +kernel) (by decide +kernel)
theorem gw_1660 : (Cond.code ({ cls := "SectionDeskModel", name := "waiting", desc := "()I" } : MethodName) prog_11_method_90_code (1 : Nat) (Option.some FieldType.int)) ∈ GL := gl_of 1769 (by decide +kernel) (by decide +kernel)
theorem gw_1661 : (Cond.methodLink "SectionDeskLaw" (217 : Nat) ({ cls := "SectionDeskModel", name := "waitingAt", desc := "(II)I" } : MethodName)) ∈ GL := gl_of 1770 (by decide +kernel) (by decide +kernel)
theorem gw_1662 : (Cond.instanceMethod ({ cls := "SectionDeskModel", name := "waitingAt", desc := "(II)I" } : MethodName)) ∈ GL := gl_of 1771 (by decide +kernel) (by decide +kernel)
theorem gw_1663 : (Cond.selects "SectionDeskModel" ({ cls := "SectionDeskModel", name := "waitingAt", desc := "(II)I" } : MethodName) ({ cls := "SectionDeskModel", name := "waitingAt", desc := "(II)I" } : MethodName)) ∈ GL := gl_of 1772 (by decide +kernel) (by decide +kernel)
theorem gw_1664 : (Cond.code ({ cls := "SectionDeskModel", name := "waitingAt", desc := "(II)I" } : MethodName) prog_11_method_91_code (3 : Nat) (Option.some FieldType.int)) ∈ GL := gl_of 1773 (by decide +kernel) (by decide +kernel)
theorem gw_1665 : (Cond.methodLink "SectionDeskLaw" (220 : Nat) ({ cls := "SectionDeskModel", name := "pass", desc := "(I)I" } : MethodName)) ∈ GL := gl_of 1774 (by decide +kernel) (by decide +kernel)
theorem gw_1666 : (Cond.instanceMethod ({ cls := "SectionDeskModel", name := "pass", desc := "(I)I" } : MethodName)) ∈ GL := gl_of 1775 (by decide +kernel) (by decide +kernel)
theorem gw_1667 : (Cond.selects "SectionDeskModel" ({ cls := "SectionDeskModel", name := "pass", desc := "(I)I" } : MethodName) ({ cls := "SectionDeskModel", name := "pass", desc := "(I)I" } : MethodName)) ∈ GL := gl_of 1776 (by decide +kernel) (by decide +kernel)
theorem gw_1668 : (Cond.code ({ cls := "SectionDeskModel", name := "pass", desc := "(I)I" } : MethodName) prog_11_method_93_code (2 : Nat) (Option.some FieldType.int)) ∈ GL := gl_of 1777 (by decide +kernel) (by decide +kernel)
theorem gw_1673 : (Cond.methodLink "SectionDeskLaw" (223 : Nat) ({ cls := "SectionDeskModel", name := "useBits", desc := "(I)I" } : MethodName)) ∈ GL := gl_of 1782 (by decide +kernel) (by decide +kernel)
theorem gw_1674 : (Cond.instanceMethod ({ cls := "SectionDeskModel", name := "useBits", desc := "(I)I" } : MethodName)) ∈ GL := gl_of 1783 (by decide +kernel) (by decide +kernel)
theorem gw_1675 : (Cond.selects "SectionDeskModel" ({ cls := "SectionDeskModel", name := "useBits", desc := "(I)I" } : MethodName) ({ cls := "SectionDeskModel", name := "useBits", desc := "(I)I" } : MethodName)) ∈ GL := gl_of 1784 (by decide +kernel) (by decide +kernel)
theorem gw_1676 : (Cond.code ({ cls := "SectionDeskModel", name := "useBits", desc := "(I)I" } : MethodName) prog_11_method_94_code (2 : Nat) (Option.some FieldType.int)) ∈ GL := gl_of 1785 (by decide +kernel) (by decide +kernel)
theorem gw_1687 : (Cond.methodLink "SectionDeskLaw" (226 : Nat) ({ cls := "SectionDeskModel", name := "append", desc := "(I)I" } : MethodName)) ∈ GL := gl_of 1796 (by decide +kernel) (by decide +kernel)
theorem gw_1688 : (Cond.instanceMethod ({ cls := "SectionDeskModel", name := "append", desc := "(I)I" } : MethodName)) ∈ GL := gl_of 1797 (by decide +kernel) (by decide +kernel)
theorem gw_1689 : (Cond.selects "SectionDeskModel" ({ cls := "SectionDeskModel", name := "append", desc := "(I)I" } : MethodName) ({ cls := "SectionDeskModel", name := "append", desc := "(I)I" } : MethodName)) ∈ GL := gl_of 1798 (by decide +kernel) (by decide +kernel)
theorem gw_1690 : (Cond.code ({ cls := "SectionDeskModel", name := "append", desc := "(I)I" } : MethodName) prog_11_method_95_code (2 : Nat) (Option.some FieldType.int)) ∈ GL := gl_of 1799 (by decide +kernel) (by decide +kernel)
theorem gw_1691 : (Cond.methodLink "SectionDeskLaw" (230 : Nat) ({ cls := "SectionDeskModel", name := "clearText", desc := "()I" } : MethodName)) ∈ GL := gl_of 1800 (by decide +kernel) (by decide +kernel)
theorem gw_1692 : (Cond.instanceMethod ({ cls := "SectionDeskModel", name := "clearText", desc := "()I" } : MethodName)) ∈ GL := gl_of 1801 (by decide +kernel) (by decide +kernel)
theorem gw_1693 : (Cond.selects "SectionDeskModel" ({ cls := "SectionDeskModel", name := "clearText", desc := "()I" } : MethodName) ({ cls := "SectionDeskModel", name := "clearText", desc := "()I" } : MethodName)) ∈ GL := gl_of 1802 (by decide +kernel) (by decide +kernel)
theorem gw_1694 : (Cond.code ({ cls := "SectionDeskModel", name := "clearText", desc := "()I" } : MethodName) prog_11_method_96_code (2 : Nat) (Option.some FieldType.int)) ∈ GL := gl_of 1803 (by decide +kernel) (by decide +kernel)
theorem gw_1695 : (Cond.methodLink "SectionDeskLaw" (234 : Nat) ({ cls := "SectionDeskModel", name := "carryOut", desc := "()I" } : MethodName)) ∈ GL := gl_of 1804 (by decide +kernel) (by decide +kernel)
theorem gw_1696 : (Cond.instanceMethod ({ cls := "SectionDeskModel", name := "carryOut", desc := "()I" } : MethodName)) ∈ GL := gl_of 1805 (by decide +kernel) (by decide +kernel)
theorem gw_1697 : (Cond.selects "SectionDeskModel" ({ cls := "SectionDeskModel", name := "carryOut", desc := "()I" } : MethodName) ({ cls := "SectionDeskModel", name := "carryOut", desc := "()I" } : MethodName)) ∈ GL := gl_of 1806 (by decide +kernel) (by decide +kernel)
theorem gw_1698 : (Cond.code ({ cls := "SectionDeskModel", name := "carryOut", desc := "()I" } : MethodName) prog_11_method_103_code (3 : Nat) (Option.some FieldType.int)) ∈ GL := gl_of 1807 (by decide +kernel) (by decide +kernel)
theorem gw_1722 : (Cond.methodLink "SectionDeskLaw" (237 : Nat) ({ cls := "SectionDeskModel", name := "outline", desc := "(I)I" } : MethodName)) ∈ GL := gl_of 1831 (by decide +kernel) (by decide +kernel)
theorem gw_1723 : (Cond.instanceMethod ({ cls := "SectionDeskModel", name := "outline", desc := "(I)I" } : MethodName)) ∈ GL := gl_of 1832 (by decide +kernel) (by decide +kernel)
theorem gw_1724 : (Cond.selects "SectionDeskModel" ({ cls := "SectionDeskModel", name := "outline", desc := "(I)I" } : MethodName) ({ cls := "SectionDeskModel", name := "outline", desc := "(I)I" } : MethodName)) ∈ GL := gl_of 1833 (by decide +kernel) (by decide +kernel)
theorem gw_1725 : (Cond.code ({ cls := "SectionDeskModel", name := "outline", desc := "(I)I" } : MethodName) prog_11_method_107_code (2 : Nat) (Option.some FieldType.int)) ∈ GL := gl_of 1834 (by decide +kernel) (by decide +kernel)
theorem gw_1738 : (Cond.methodLink "SectionDeskLaw" (246 : Nat) ({ cls := "SectionDeskModel", name := "digest", desc := "()J" } : MethodName)) ∈ GL := gl_of 1847 (by decide +kernel) (by decide +kernel)
theorem gw_1739 : (Cond.instanceMethod ({ cls := "SectionDeskModel", name := "digest", desc := "()J" } : MethodName)) ∈ GL := gl_of 1848 (by decide +kernel) (by decide +kernel)
theorem gw_1740 : (Cond.selects "SectionDeskModel" ({ cls := "SectionDeskModel", name := "digest", desc := "()J" } : MethodName) ({ cls := "SectionDeskModel", name := "digest", desc := "()J" } : MethodName)) ∈ GL := gl_of 1849 (by decide +kernel) (by decide +kernel)
theorem gw_1741 : (Cond.code ({ cls := "SectionDeskModel", name := "digest", desc := "()J" } : MethodName) prog_11_method_112_code (2 : Nat) (Option.some FieldType.long)) ∈ GL := gl_of 1850 (by decide +kernel) (by decide +kernel)
theorem kd_X8_carryOut : cwd yX8_carryOut cX8_carryOut 3 (some .int) 0 := ⟨gw_1, gw_249, by decide +kernel, by decide +kernel, by decide +kernel⟩
theorem kv_X8_carryOut : cwv yX8_carryOut := ⟨gw_247, gw_248⟩
theorem kd_X8_clearText : cwd yX8_clearText cX8_clearText 2 (some .int) 0 := ⟨gw_1, gw_245, by decide +kernel, by decide +kernel, by decide +kernel⟩
theorem kv_X8_clearText : cwv yX8_clearText := ⟨gw_243, gw_244⟩
theorem kd_X8_digest : cwd yX8_digest cX8_digest 3 (some .long) 0 := ⟨gw_1, gw_671, by decide +kernel, by decide +kernel, by decide +kernel⟩
theorem kv_X8_digest : cwv yX8_digest := ⟨gw_669, gw_670⟩
theorem kd_X8_entries : cwd yX8_entries cX8_entries 1 (some .int) 0 := ⟨gw_1, gw_237, by decide +kernel, by decide +kernel, by decide +kernel⟩
theorem kv_X8_entries : cwv yX8_entries := ⟨gw_235, gw_236⟩
theorem kd_X8_sections : cwd yX8_sections cX8_sections 1 (some .int) 0 := ⟨gw_1, gw_233, by decide +kernel, by decide +kernel, by decide +kernel⟩
theorem kv_X8_sections : cwv yX8_sections := ⟨gw_231, gw_232⟩
theorem kd_X8_waiting : cwd yX8_waiting cX8_waiting 1 (some .int) 0 := ⟨gw_1, gw_241, by decide +kernel, by decide +kernel, by decide +kernel⟩
theorem kv_X8_waiting : cwv yX8_waiting := ⟨gw_239, gw_240⟩
theorem kd_X9_addSection : cwd yX9_addSection cX9_addSection 4 (some .int) 1 := ⟨gw_11, gw_1325, by decide +kernel, by decide +kernel, by decide +kernel⟩
theorem kv_X9_addSection : cwv yX9_addSection := ⟨gw_1323, gw_1324⟩
theorem kd_X9_append : cwd yX9_append cX9_append 2 (some .int) 1 := ⟨gw_11, gw_1690, by decide +kernel, by decide +kernel, by decide +kernel⟩
theorem kv_X9_append : cwv yX9_append := ⟨gw_1688, gw_1689⟩
theorem kd_X9_blame : cwd yX9_blame cX9_blame 6 (some .int) 2 := ⟨gw_11, gw_1640, by decide +kernel, by decide +kernel, by decide +kernel⟩
theorem kv_X9_blame : cwv yX9_blame := ⟨gw_1638, gw_1639⟩
theorem kd_X9_breakUp : cwd yX9_breakUp cX9_breakUp 3 (some .int) 1 := ⟨gw_11, gw_1524, by decide +kernel, by decide +kernel, by decide +kernel⟩
theorem kv_X9_breakUp : cwv yX9_breakUp := ⟨gw_1522, gw_1523⟩
theorem kd_X9_cancel : cwd yX9_cancel cX9_cancel 2 (some .int) 1 := ⟨gw_11, gw_1508, by decide +kernel, by decide +kernel, by decide +kernel⟩
theorem kv_X9_cancel : cwv yX9_cancel := ⟨gw_1506, gw_1507⟩
theorem kd_X9_carryOut : cwd yX9_carryOut cX9_carryOut 3 (some .int) 0 := ⟨gw_11, gw_1698, by decide +kernel, by decide +kernel, by decide +kernel⟩
theorem kv_X9_carryOut : cwv yX9_carryOut := ⟨gw_1696, gw_1697⟩
theorem kd_X9_checkOut : cwd yX9_checkOut cX9_checkOut 3 (some .int) 2 := ⟨gw_11, gw_1596, by decide +kernel, by decide +kernel, by decide +kernel⟩
theorem kv_X9_checkOut : cwv yX9_checkOut := ⟨gw_1594, gw_1595⟩
theorem kd_X9_child : cwd yX9_child cX9_child 3 (some .int) 2 := ⟨gw_11, gw_1418, by decide +kernel, by decide +kernel, by decide +kernel⟩
theorem kv_X9_child : cwv yX9_child := ⟨gw_1416, gw_1417⟩
theorem kd_X9_clearText : cwd yX9_clearText cX9_clearText 2 (some .int) 0 := ⟨gw_11, gw_1694, by decide +kernel, by decide +kernel, by decide +kernel⟩
theorem kv_X9_clearText : cwv yX9_clearText := ⟨gw_1692, gw_1693⟩
theorem kd_X9_conflicts : cwd yX9_conflicts cX9_conflicts 2 (some .int) 1 := ⟨gw_11, gw_1572, by decide +kernel, by decide +kernel, by decide +kernel⟩
theorem kv_X9_conflicts : cwv yX9_conflicts := ⟨gw_1570, gw_1571⟩
theorem kd_X9_copied : cwd yX9_copied cX9_copied 5 (some .int) 4 := ⟨gw_11, gw_1568, by decide +kernel, by decide +kernel, by decide +kernel⟩
theorem kv_X9_copied : cwv yX9_copied := ⟨gw_1566, gw_1567⟩
theorem kd_X9_digest : cwd yX9_digest cX9_digest 2 (some .long) 0 := ⟨gw_11, gw_1741, by decide +kernel, by decide +kernel, by decide +kernel⟩
theorem kv_X9_digest : cwv yX9_digest := ⟨gw_1739, gw_1740⟩
theorem kd_X9_discard : cwd yX9_discard cX9_discard 2 (some .int) 1 := ⟨gw_11, gw_1540, by decide +kernel, by decide +kernel, by decide +kernel⟩
theorem kv_X9_discard : cwv yX9_discard := ⟨gw_1538, gw_1539⟩
theorem kd_X9_edit : cwd yX9_edit cX9_edit 5 (some .int) 4 := ⟨gw_11, gw_1552, by decide +kernel, by decide +kernel, by decide +kernel⟩
theorem kv_X9_edit : cwv yX9_edit := ⟨gw_1550, gw_1551⟩
theorem kd_X9_entries : cwd yX9_entries cX9_entries 1 (some .int) 0 := ⟨gw_11, gw_1632, by decide +kernel, by decide +kernel, by decide +kernel⟩
theorem kv_X9_entries : cwv yX9_entries := ⟨gw_1630, gw_1631⟩
theorem kd_X9_entry : cwd yX9_entry cX9_entry 3 (some .int) 2 := ⟨gw_11, gw_1636, by decide +kernel, by decide +kernel, by decide +kernel⟩
theorem kv_X9_entry : cwv yX9_entry := ⟨gw_1634, gw_1635⟩
theorem kd_X9_giveBack : cwd yX9_giveBack cX9_giveBack 3 (some .int) 2 := ⟨gw_11, gw_1580, by decide +kernel, by decide +kernel, by decide +kernel⟩
theorem kv_X9_giveBack : cwv yX9_giveBack := ⟨gw_1578, gw_1579⟩
theorem kd_X9_grantedAt : cwd yX9_grantedAt cX9_grantedAt 4 (some .int) 1 := ⟨gw_11, gw_1620, by decide +kernel, by decide +kernel, by decide +kernel⟩
theorem kv_X9_grantedAt : cwv yX9_grantedAt := ⟨gw_1618, gw_1619⟩
theorem kd_X9_holders : cwd yX9_holders cX9_holders 2 (some .int) 1 := ⟨gw_11, gw_1604, by decide +kernel, by decide +kernel, by decide +kernel⟩
theorem kv_X9_holders : cwv yX9_holders := ⟨gw_1602, gw_1603⟩
theorem kd_X9_ifBroken : cwd yX9_ifBroken cX9_ifBroken 4 (some .int) 1 := ⟨gw_11, gw_1608, by decide +kernel, by decide +kernel, by decide +kernel⟩
theorem kv_X9_ifBroken : cwv yX9_ifBroken := ⟨gw_1606, gw_1607⟩
theorem kd_X9_line : cwd yX9_line cX9_line 3 (some .int) 2 := ⟨gw_11, gw_1426, by decide +kernel, by decide +kernel, by decide +kernel⟩
theorem kv_X9_line : cwv yX9_line := ⟨gw_1424, gw_1425⟩
theorem kd_X9_lineAt : cwd yX9_lineAt cX9_lineAt 4 (some .int) 3 := ⟨gw_11, gw_1644, by decide +kernel, by decide +kernel, by decide +kernel⟩
theorem kv_X9_lineAt : cwv yX9_lineAt := ⟨gw_1642, gw_1643⟩
theorem kd_X9_moveSection : cwd yX9_moveSection cX9_moveSection 3 (some .int) 2 := ⟨gw_11, gw_1390, by decide +kernel, by decide +kernel, by decide +kernel⟩
theorem kv_X9_moveSection : cwv yX9_moveSection := ⟨gw_1388, gw_1389⟩
theorem kd_X9_outline : cwd yX9_outline cX9_outline 2 (some .int) 1 := ⟨gw_11, gw_1725, by decide +kernel, by decide +kernel, by decide +kernel⟩
theorem kv_X9_outline : cwv yX9_outline := ⟨gw_1723, gw_1724⟩
theorem kd_X9_pass : cwd yX9_pass cX9_pass 2 (some .int) 1 := ⟨gw_11, gw_1668, by decide +kernel, by decide +kernel, by decide +kernel⟩
theorem kv_X9_pass : cwv yX9_pass := ⟨gw_1666, gw_1667⟩
theorem kd_X9_removeSection : cwd yX9_removeSection cX9_removeSection 6 (some .int) 1 := ⟨gw_11, gw_1370, by decide +kernel, by decide +kernel, by decide +kernel⟩
theorem kv_X9_removeSection : cwv yX9_removeSection := ⟨gw_1368, gw_1369⟩
theorem kd_X9_renew : cwd yX9_renew cX9_renew 3 (some .int) 2 := ⟨gw_11, gw_1520, by decide +kernel, by decide +kernel, by decide +kernel⟩
theorem kv_X9_renew : cwv yX9_renew := ⟨gw_1518, gw_1519⟩
theorem kd_X9_request : cwd yX9_request cX9_request 6 (some .int) 4 := ⟨gw_11, gw_1458, by decide +kernel, by decide +kernel, by decide +kernel⟩
theorem kv_X9_request : cwv yX9_request := ⟨gw_1456, gw_1457⟩
theorem kd_X9_revert : cwd yX9_revert cX9_revert 5 (some .int) 2 := ⟨gw_11, gw_1656, by decide +kernel, by decide +kernel, by decide +kernel⟩
theorem kv_X9_revert : cwv yX9_revert := ⟨gw_1654, gw_1655⟩
theorem kd_X9_section : cwd yX9_section cX9_section 3 (some .int) 2 := ⟨gw_11, gw_1402, by decide +kernel, by decide +kernel, by decide +kernel⟩
theorem kv_X9_section : cwv yX9_section := ⟨gw_1400, gw_1401⟩
theorem kd_X9_sections : cwd yX9_sections cX9_sections 1 (some .int) 0 := ⟨gw_11, gw_1398, by decide +kernel, by decide +kernel, by decide +kernel⟩
theorem kv_X9_sections : cwv yX9_sections := ⟨gw_1396, gw_1397⟩
theorem kd_X9_thrown : cwd yX9_thrown cX9_thrown 1 (some .int) 0 := ⟨gw_11, gw_1313, by decide +kernel, by decide +kernel, by decide +kernel⟩
theorem kv_X9_thrown : cwv yX9_thrown := ⟨gw_1311, gw_1312⟩
theorem kd_X9_undo : cwd yX9_undo cX9_undo 2 (some .int) 0 := ⟨gw_11, gw_1317, by decide +kernel, by decide +kernel, by decide +kernel⟩
theorem kv_X9_undo : cwv yX9_undo := ⟨gw_1315, gw_1316⟩
theorem kd_X9_useBits : cwd yX9_useBits cX9_useBits 2 (some .int) 1 := ⟨gw_11, gw_1676, by decide +kernel, by decide +kernel, by decide +kernel⟩
theorem kv_X9_useBits : cwv yX9_useBits := ⟨gw_1674, gw_1675⟩
theorem kd_X9_waiting : cwd yX9_waiting cX9_waiting 1 (some .int) 0 := ⟨gw_11, gw_1660, by decide +kernel, by decide +kernel, by decide +kernel⟩
theorem kv_X9_waiting : cwv yX9_waiting := ⟨gw_1658, gw_1659⟩
theorem kd_X9_waitingAt : cwd yX9_waitingAt cX9_waitingAt 3 (some .int) 2 := ⟨gw_11, gw_1664, by decide +kernel, by decide +kernel, by decide +kernel⟩
theorem kv_X9_waitingAt : cwv yX9_waitingAt := ⟨gw_1662, gw_1663⟩
theorem kd_X9_waitsFor : cwd yX9_waitsFor cX9_waitsFor 7 (some .int) 1 := ⟨gw_11, gw_1628, by decide +kernel, by decide +kernel, by decide +kernel⟩
theorem kv_X9_waitsFor : cwv yX9_waitsFor := ⟨gw_1626, gw_1627⟩
theorem kd_X9_write : cwd yX9_write cX9_write 5 (some .int) 3 := ⟨gw_11, gw_1434, by decide +kernel, by decide +kernel, by decide +kernel⟩
theorem kv_X9_write : cwv yX9_write := ⟨gw_1432, gw_1433⟩
theorem kx_L_addSection : cwx yL_addSection cL_addSection 4 (some .int) [(0, 9, 12, 13), (0, 9, 15, 15)] 3 := ⟨gw_0, gw_735, by decide +kernel, by decide +kernel, by decide +kernel⟩
theorem kx_L_append : cwx yL_append cL_append 4 (some .int) [(0, 9, 12, 20), (0, 9, 15, 15)] 3 := ⟨gw_0, gw_1199, by decide +kernel, by decide +kernel, by decide +kernel⟩
theorem kx_L_blame : cwx yL_blame cL_blame 5 (some .int) [(0, 10, 13, 13)] 4 := ⟨gw_0, gw_1124, by decide +kernel, by decide +kernel, by decide +kernel⟩
theorem kx_L_breakUp : cwx yL_breakUp cL_breakUp 4 (some .int) [(0, 9, 12, 13), (0, 9, 15, 15)] 3 := ⟨gw_0, gw_1020, by decide +kernel, by decide +kernel, by decide +kernel⟩
theorem kx_L_cancel : cwx yL_cancel cL_cancel 4 (some .int) [(0, 9, 12, 13), (0, 9, 15, 15)] 3 := ⟨gw_0, gw_986, by decide +kernel, by decide +kernel, by decide +kernel⟩
theorem kx_L_checkOut : cwx yL_checkOut cL_checkOut 5 (some .int) [(0, 10, 13, 13), (0, 10, 17, 20)] 4 := ⟨gw_0, gw_1066, by decide +kernel, by decide +kernel, by decide +kernel⟩
theorem kx_L_child : cwx yL_child cL_child 5 (some .int) [(0, 10, 13, 13)] 4 := ⟨gw_0, gw_946, by decide +kernel, by decide +kernel, by decide +kernel⟩
theorem kx_L_conflicts : cwx yL_conflicts cL_conflicts 4 (some .int) [(0, 9, 12, 13)] 3 := ⟨gw_0, gw_1051, by decide +kernel, by decide +kernel, by decide +kernel⟩
theorem kx_L_copied : cwx yL_copied cL_copied 7 (some .int) [(0, 14, 17, 13)] 6 := ⟨gw_0, gw_1041, by decide +kernel, by decide +kernel, by decide +kernel⟩
theorem kx_L_discard : cwx yL_discard cL_discard 4 (some .int) [(0, 9, 12, 13)] 3 := ⟨gw_0, gw_1027, by decide +kernel, by decide +kernel, by decide +kernel⟩
theorem kx_L_edit : cwx yL_edit cL_edit 7 (some .int) [(0, 14, 17, 13), (0, 14, 21, 20), (0, 14, 25, 15)] 6 := ⟨gw_0, gw_1034, by decide +kernel, by decide +kernel, by decide +kernel⟩
theorem kx_L_entry : cwx yL_entry cL_entry 5 (some .int) [(0, 10, 13, 13), (0, 10, 17, 20)] 4 := ⟨gw_0, gw_1116, by decide +kernel, by decide +kernel, by decide +kernel⟩
theorem kx_L_giveBack : cwx yL_giveBack cL_giveBack 5 (some .int) [(0, 10, 13, 13), (0, 10, 17, 20), (0, 10, 21, 15)] 4 := ⟨gw_0, gw_1059, by decide +kernel, by decide +kernel, by decide +kernel⟩
theorem kx_L_grantedAt : cwx yL_grantedAt cL_grantedAt 4 (some .int) [(0, 9, 12, 13), (0, 9, 15, 15)] 3 := ⟨gw_0, gw_1097, by decide +kernel, by decide +kernel, by decide +kernel⟩
theorem kx_L_holders : cwx yL_holders cL_holders 4 (some .int) [(0, 9, 12, 13)] 3 := ⟨gw_0, gw_1076, by decide +kernel, by decide +kernel, by decide +kernel⟩
theorem kx_L_ifBroken : cwx yL_ifBroken cL_ifBroken 4 (some .int) [(0, 9, 12, 13)] 3 := ⟨gw_0, gw_1087, by decide +kernel, by decide +kernel, by decide +kernel⟩
theorem kx_L_line : cwx yL_line cL_line 5 (some .int) [(0, 10, 13, 13)] 4 := ⟨gw_0, gw_954, by decide +kernel, by decide +kernel, by decide +kernel⟩
theorem kx_L_lineAt : cwx yL_lineAt cL_lineAt 6 (some .int) [(0, 12, 15, 13), (0, 12, 19, 20)] 5 := ⟨gw_0, gw_1135, by decide +kernel, by decide +kernel, by decide +kernel⟩
theorem kx_L_moveSection : cwx yL_moveSection cL_moveSection 5 (some .int) [(0, 10, 13, 13), (0, 10, 17, 20), (0, 10, 21, 15)] 4 := ⟨gw_0, gw_908, by decide +kernel, by decide +kernel, by decide +kernel⟩
theorem kx_L_outline : cwx yL_outline cL_outline 4 (some .int) [(0, 9, 12, 20)] 3 := ⟨gw_0, gw_1210, by decide +kernel, by decide +kernel, by decide +kernel⟩
theorem kx_L_pass : cwx yL_pass cL_pass 4 (some .int) [(0, 9, 12, 20)] 3 := ⟨gw_0, gw_1175, by decide +kernel, by decide +kernel, by decide +kernel⟩
theorem kx_L_removeSection : cwx yL_removeSection cL_removeSection 4 (some .int) [(0, 9, 12, 13), (0, 9, 15, 20), (0, 9, 18, 15)] 3 := ⟨gw_0, gw_877, by decide +kernel, by decide +kernel, by decide +kernel⟩
theorem kx_L_renew : cwx yL_renew cL_renew 5 (some .int) [(0, 10, 13, 13), (0, 10, 17, 20), (0, 10, 21, 15)] 4 := ⟨gw_0, gw_1001, by decide +kernel, by decide +kernel, by decide +kernel⟩
theorem kx_L_request : cwx yL_request cL_request 7 (some .int) [(0, 14, 17, 13), (0, 14, 21, 20), (0, 14, 25, 15)] 6 := ⟨gw_0, gw_979, by decide +kernel, by decide +kernel, by decide +kernel⟩
theorem kx_L_revert : cwx yL_revert cL_revert 5 (some .int) [(0, 10, 13, 13), (0, 10, 17, 20), (0, 10, 21, 15)] 4 := ⟨gw_0, gw_1152, by decide +kernel, by decide +kernel, by decide +kernel⟩
theorem kx_L_section : cwx yL_section cL_section 5 (some .int) [(0, 10, 13, 13), (0, 10, 17, 20)] 4 := ⟨gw_0, gw_932, by decide +kernel, by decide +kernel, by decide +kernel⟩
theorem kx_L_undo : cwx yL_undo cL_undo 3 (some .int) [(0, 8, 11, 15)] 2 := ⟨gw_0, gw_1236, by decide +kernel, by decide +kernel, by decide +kernel⟩
theorem kx_L_useBits : cwx yL_useBits cL_useBits 4 (some .int) [(0, 9, 12, 13)] 3 := ⟨gw_0, gw_1182, by decide +kernel, by decide +kernel, by decide +kernel⟩
theorem kx_L_waitingAt : cwx yL_waitingAt cL_waitingAt 5 (some .int) [(0, 10, 13, 13), (0, 10, 17, 20)] 4 := ⟨gw_0, gw_1167, by decide +kernel, by decide +kernel, by decide +kernel⟩
theorem kx_L_waitsFor : cwx yL_waitsFor cL_waitsFor 4 (some .int) [(0, 9, 12, 13), (0, 9, 15, 15)] 3 := ⟨gw_0, gw_1105, by decide +kernel, by decide +kernel, by decide +kernel⟩
theorem kx_L_write : cwx yL_write cL_write 6 (some .int) [(0, 12, 15, 13), (0, 12, 19, 20), (0, 12, 23, 15)] 5 := ⟨gw_0, gw_964, by decide +kernel, by decide +kernel, by decide +kernel⟩
