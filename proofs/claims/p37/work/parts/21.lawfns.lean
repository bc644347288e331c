/-! THE LAW: its methods as functions on the memory -/
def f_L_cell (L : Nat) (xs : Nat → Int32) (I : zM) (x1 : Int32) : Option (Int32) :=
  if (Int32.ofNat L) = 0 then
    some (367 * x1)
  else
    zck (zne (Int32.ofNat L)) (
    zck (zin ((x1 &&& 65535) - (x1 &&& 65535) / (Int32.ofNat L) * (Int32.ofNat L)) L) (
    some (xs ((x1 &&& 65535) - (x1 &&& 65535) / (Int32.ofNat L) * (Int32.ofNat L)).toNatClampNeg)))
def f_L_act (L : Nat) (xs : Nat → Int32) (I : zM) (x2 : Int32) : Option (Int32 × zM) :=
  zb (f_L_cell L xs I x2) (fun q1 =>
  zlet ((q1 >>> ((4 : Int32) &&& 31)) &&& 65535) (fun w2 =>
  zlet (w2 &&& 7) (fun w3 =>
  zlet ((w2 >>> ((3 : Int32) &&& 31)) &&& 7) (fun w4 =>
  if (q1 &&& 15) = 0 then
    zlet ((w2 >>> ((6 : Int32) &&& 31)) &&& 255) (fun w5 =>
    zb (f_X8_person I (1 + (w2 &&& 15)) w5) (fun q6 =>
    if q6.1 < 0 then
      some (0, q6.2)
    else
      some (w5, q6.2)))
  else if (q1 &&& 15) = 1 then
    zb (f_X8_tool I (1 + (w2 &&& 63))) (fun q8 =>
    some (0, q8.2))
  else if (q1 &&& 15) = 2 then
    zb (f_X8_lease I w3 w4 (1 + ((w2 >>> ((6 : Int32) &&& 31)) &&& 15))) (fun q9 =>
    some (0, q9.2))
  else if (q1 &&& 15) = 3 then
    zb (f_X8_lease I w3 w4 (1 + ((w2 >>> ((6 : Int32) &&& 31)) &&& 15))) (fun q10 =>
    some (0, q10.2))
  else if (q1 &&& 15) = 4 then
    zb (f_X8_lease I w3 w4 (1 + ((w2 >>> ((6 : Int32) &&& 31)) &&& 15))) (fun q11 =>
    some (0, q11.2))
  else if (q1 &&& 15) = 5 then
    zb (f_X8_claim I w3 w4 (((100 * ((w2 >>> ((6 : Int32) &&& 31)) &&& 3)) + 1) + ((w2 >>> ((8 : Int32) &&& 31)) &&& 7))) (fun q12 =>
    some (0, q12.2))
  else if (q1 &&& 15) = 6 then
    zb (f_X8_returned I w4) (fun q13 =>
    some (0, q13.2))
  else if (q1 &&& 15) = 7 then
    zb (f_X8_returned I w4) (fun q14 =>
    some (0, q14.2))
  else if (q1 &&& 15) = 8 then
    zb (f_X8_pass I w4 w3) (fun q15 =>
    some (0, q15.2))
  else if (q1 &&& 15) = 9 then
    zb (f_X8_swap I w4 ((w2 >>> ((6 : Int32) &&& 31)) &&& 7)) (fun q16 =>
    some (0, q16.2))
  else if (q1 &&& 15) = 10 then
    zb (f_X8_use I w4 (1 + ((w2 >>> ((6 : Int32) &&& 31)) &&& 3))) (fun q17 =>
    some (0, q17.2))
  else if (q1 &&& 15) = 11 then
    zb (f_X8_look I w4) (fun q18 =>
    some (0, q18.2))
  else if (q1 &&& 15) = 12 then
    zb (f_X8_days I (1 + (w2 &&& 7))) (fun q19 =>
    some (0, q19.2))
  else if (q1 &&& 15) = 13 then
    zb (f_X8_wish I w3 w4 (((w2 >>> ((6 : Int32) &&& 31)) &&& 15) - ((w2 >>> ((6 : Int32) &&& 31)) &&& 15) / 10 * 10)) (fun q20 =>
    some (0, q20.2))
  else if (q1 &&& 15) = 14 then
    zlet (1 + ((w2 >>> ((3 : Int32) &&& 31)) &&& 63)) (fun w21 =>
    zb (f_X8_fund I w3 w21) (fun q22 =>
    if q22.1 < 0 then
      some (0, q22.2)
    else
      some (w21, q22.2)))
  else zb (f_X8_waive I w3 w4) (fun q24 =>
  some (0, q24.2))))))
def f_L_isFair_l14 (I : zM) (x1 : Int32) (K : Int32 → Int32 → Int32 → Option (Int32)) : Nat → Int32 → Int32 → Int32 → Int32 → Option (Int32)
  | 0, _, _, _, _ => none
  | n + 1, y2, y3, y4, y5 =>
    zb (f_X8_count I 0) (fun q2 =>
    if q2 ≤ y5 then
      K y2 y3 y4
    else
      zb (f_X8_personOf I y5 1) (fun q4 =>
      zlet (y3 + q4) (fun w5 =>
      zb (f_X8_personOf I y5 4) (fun q6 =>
      zlet (y4 + q6) (fun w7 =>
      zb (f_X8_personOf I y5 5) (fun q8 =>
      zlet (y2 + q8) (fun w9 =>
      zb (f_X8_personOf I y5 1) (fun q10 =>
      if q10 < 0 then
        some 0
      else
        zb (f_X8_personOf I y5 2) (fun q12 =>
        if q12 < 0 then
          some 0
        else
          zb (f_X8_personOf I y5 2) (fun q14 =>
          if 99 < q14 then
            some 0
          else
            zb (f_X8_personOf I y5 4) (fun q16 =>
            if q16 < 0 then
              some 0
            else
              zb (f_X8_personOf I y5 6) (fun q18 =>
              zb (f_X8_ranked I q18) (fun q19 =>
              if q19 = y5 then
                f_L_isFair_l14 I x1 K n w9 w5 w7 (y5 + 1)
              else
                some 0)))))))))))))
def f_L_isFair_l326 (I : zM) (x1 : Int32) (y2 : Int32) (y3 : Int32) (y4 : Int32) (y5 : Int32) (y7 : Int32) (K : Option (Int32)) : Nat → Int32 → Option (Int32)
  | 0, _ => none
  | n + 1, y8 =>
    if y7 ≤ y8 then
      K
    else
      zb (f_X8_link I y5 (y8 - 1) 2) (fun q48 =>
      if q48 < 0 then
        some 0
      else
        zb (f_X8_link I y5 (y8 - 1) 2) (fun q50 =>
        zb (f_X8_link I y5 y8 1) (fun q51 =>
        if q50 ≤ q51 then
          f_L_isFair_l326 I x1 y2 y3 y4 y5 y7 K n (y8 + 1)
        else
          some 0)))
def f_L_isFair_l126 (I : zM) (x1 : Int32) (y2 : Int32) (y4 : Int32) (K : Int32 → Option (Int32)) : Nat → Int32 → Int32 → Option (Int32)
  | 0, _, _ => none
  | n + 1, y3, y5 =>
    zb (f_X8_count I 1) (fun q24 =>
    if q24 ≤ y5 then
      K y3
    else
      zb (f_X8_toolOf I y5 2) (fun q26 =>
      zb (f_X8_toolOf I y5 7) (fun q27 =>
      zb (f_X8_toolOf I y5 5) (fun q28 =>
      zlet (y3 + q28) (fun w29 =>
      zb (f_X8_toolOf I y5 1) (fun q30 =>
      if q30 < 0 then
        some 0
      else
        zb (f_X8_toolOf I y5 1) (fun q32 =>
        if 9 < q32 then
          some 0
        else
          if 8 < q27 then
            some 0
          else
            zb (f_X8_toolOf I y5 8) (fun q35 =>
            if q35 < 1 then
              some 0
            else
              zb (f_X8_toolOf I y5 8) (fun q37 =>
              if 6 < q37 then
                some 0
              else
                zb (f_X8_toolOf I y5 6) (fun q39 =>
                if 8 < q39 then
                  some 0
                else
                  if q26 < 0 then
                    zb (f_X8_toolOf I y5 5) (fun q42 =>
                    if q42 ≤ 0 then
                      if q26 < 0 then
                        if 0 ≤ q26 then
                          f_L_isFair_l326 I x1 y2 w29 y4 y5 q27 (
                              f_L_isFair_l126 I x1 y2 y4 K n w29 (y5 + 1)) zFu 1
                        else
                          if q27 ≤ 0 then
                            f_L_isFair_l326 I x1 y2 w29 y4 y5 q27 (
                                f_L_isFair_l126 I x1 y2 y4 K n w29 (y5 + 1)) zFu 1
                          else
                            zb (f_X8_link I y5 (q27 - 1) 2) (fun q54 =>
                            if 0 ≤ q54 then
                              f_L_isFair_l326 I x1 y2 w29 y4 y5 q27 (
                                  f_L_isFair_l126 I x1 y2 y4 K n w29 (y5 + 1)) zFu 1
                            else
                              some 0)
                      else
                        zb (f_X8_link I y5 (q27 - 1) 0) (fun q56 =>
                        if q56 = q26 then
                          zb (f_X8_link I y5 (q27 - 1) 2) (fun q58 =>
                          if q58 = (-2) then
                            if 0 ≤ q26 then
                              f_L_isFair_l326 I x1 y2 w29 y4 y5 q27 (
                                  f_L_isFair_l126 I x1 y2 y4 K n w29 (y5 + 1)) zFu 1
                            else
                              if q27 ≤ 0 then
                                f_L_isFair_l326 I x1 y2 w29 y4 y5 q27 (
                                    f_L_isFair_l126 I x1 y2 y4 K n w29 (y5 + 1)) zFu 1
                              else
                                zb (f_X8_link I y5 (q27 - 1) 2) (fun q62 =>
                                if 0 ≤ q62 then
                                  f_L_isFair_l326 I x1 y2 w29 y4 y5 q27 (
                                      f_L_isFair_l126 I x1 y2 y4 K n w29 (y5 + 1)) zFu 1
                                else
                                  some 0)
                          else
                            some 0)
                        else
                          some 0)
                    else
                      some 0)
                  else
                    zb (f_X8_toolOf I y5 5) (fun q65 =>
                    if q65 ≤ 0 then
                      some 0
                    else
                      if q26 < 0 then
                        if 0 ≤ q26 then
                          f_L_isFair_l326 I x1 y2 w29 y4 y5 q27 (
                              f_L_isFair_l126 I x1 y2 y4 K n w29 (y5 + 1)) zFu 1
                        else
                          if q27 ≤ 0 then
                            f_L_isFair_l326 I x1 y2 w29 y4 y5 q27 (
                                f_L_isFair_l126 I x1 y2 y4 K n w29 (y5 + 1)) zFu 1
                          else
                            zb (f_X8_link I y5 (q27 - 1) 2) (fun q72 =>
                            if 0 ≤ q72 then
                              f_L_isFair_l326 I x1 y2 w29 y4 y5 q27 (
                                  f_L_isFair_l126 I x1 y2 y4 K n w29 (y5 + 1)) zFu 1
                            else
                              some 0)
                      else
                        zb (f_X8_link I y5 (q27 - 1) 0) (fun q74 =>
                        if q74 = q26 then
                          zb (f_X8_link I y5 (q27 - 1) 2) (fun q76 =>
                          if q76 = (-2) then
                            if 0 ≤ q26 then
                              f_L_isFair_l326 I x1 y2 w29 y4 y5 q27 (
                                  f_L_isFair_l126 I x1 y2 y4 K n w29 (y5 + 1)) zFu 1
                            else
                              if q27 ≤ 0 then
                                f_L_isFair_l326 I x1 y2 w29 y4 y5 q27 (
                                    f_L_isFair_l126 I x1 y2 y4 K n w29 (y5 + 1)) zFu 1
                              else
                                zb (f_X8_link I y5 (q27 - 1) 2) (fun q80 =>
                                if 0 ≤ q80 then
                                  f_L_isFair_l326 I x1 y2 w29 y4 y5 q27 (
                                      f_L_isFair_l126 I x1 y2 y4 K n w29 (y5 + 1)) zFu 1
                                else
                                  some 0)
                          else
                            some 0)
                        else
                          some 0))))))))))))
def f_L_isFair (I : zM) (x1 : Int32) : Option (Int32) :=
  zb (f_X8_count I 5) (fun q1 =>
  f_L_isFair_l14 I x1 (fun z21 z22 z23 => 
      f_L_isFair_l126 I x1 z21 z23 (fun z82 => 
          zb (f_X8_count I 2) (fun q83 =>
          if z21 = q83 then
            zb (f_X8_count I 6) (fun q85 =>
            if z23 = q85 then
              if z82 = x1 then
                zb (f_X8_swaps I 3) (fun q88 =>
                if q88 = x1 then
                  some 1
                else
                  some 0)
              else
                some 0
            else
              some 0)
          else
            some 0)) zFu z22 0) zFu 0 q1 0 0)
def f_L_law_l28 (L : Nat) (xs : Nat → Int32) (y3 : Int32) (K : zM → Int32 → Option (Int32 × zM)) : Nat → zM → Int32 → Int32 → Option (Int32 × zM)
  | 0, _, _, _ => none
  | n + 1, M, y2, y4 =>
    if y3 ≤ y4 then
      K M y2
    else
      zb (f_L_act L xs M y4) (fun q3 =>
      zlet (y2 + q3.1) (fun w4 =>
      zb (f_X8_swaps q3.2 3) (fun q5 =>
      if q5 = w4 then
        f_L_law_l28 L xs y3 K n q3.2 w4 (y4 + 1)
      else
        some (0, q3.2))))
def f_L_law_l135 (L : Nat) (xs : Nat → Int32) (y2 : Int32) (y4 : Int32) (y5 : Int32) (y6 : Int32) (K : zM → Int32 → Int32 → Option (Int32 × zM)) : Nat → zM → Int32 → Int32 → Int32 → Option (Int32 × zM)
  | 0, _, _, _, _ => none
  | n + 1, M, y7, y8, y9 =>
    zb (f_X8_count M 1) (fun q20 =>
    if q20 ≤ y9 then
      K M y7 y8
    else
      zb (f_X8_toolOf M y9 2) (fun q22 =>
      if q22 < 0 then
        zlet (y7 + 0) (fun w24 =>
        zb (f_X8_told M y9 2) (fun q25 =>
        zlet (y8 + q25.1) (fun w26 =>
        f_L_law_l135 L xs y2 y4 y5 y6 K n q25.2 w24 w26 (y9 + 1))))
      else
        zb (f_X8_toolOf M y9 4) (fun q27 =>
        zb (f_X8_count M 4) (fun q28 =>
        if q28 ≤ q27 then
          zlet (y7 + 0) (fun w30 =>
          zb (f_X8_told M y9 2) (fun q31 =>
          zlet (y8 + q31.1) (fun w32 =>
          f_L_law_l135 L xs y2 y4 y5 y6 K n q31.2 w30 w32 (y9 + 1))))
        else
          zlet (y7 + 1) (fun w33 =>
          zb (f_X8_told M y9 2) (fun q34 =>
          zlet (y8 + q34.1) (fun w35 =>
          f_L_law_l135 L xs y2 y4 y5 y6 K n q34.2 w33 w35 (y9 + 1))))))))
def f_L_law_l228 (L : Nat) (xs : Nat → Int32) (y2 : Int32) (y4 : Int32) (y5 : Int32) (K : zM → Option (Int32 × zM)) : Nat → zM → Int32 → Option (Int32 × zM)
  | 0, _, _ => none
  | n + 1, M, y9 =>
    zb (f_X8_count M 1) (fun q43 =>
    if q43 ≤ y9 then
      K M
    else
      zb (f_X8_told M y9 2) (fun q45 =>
      zb (f_X8_returned q45.2 y9) (fun q46 =>
      if q46.1 = (-5) then
        zb (f_L_isFair q46.2 y2) (fun q48 =>
        if q48 = 0 then
          some (0, q46.2)
        else
          f_L_law_l228 L xs y2 y4 y5 K n q46.2 (y9 + 1))
      else
        if q46.1 = q45.1 then
          zb (f_L_isFair q46.2 y2) (fun q51 =>
          if q51 = 0 then
            some (0, q46.2)
          else
            f_L_law_l228 L xs y2 y4 y5 K n q46.2 (y9 + 1))
        else
          some (0, q46.2))))
def f_L_law_j24 (L : Nat) (xs : Nat → Int32) (M : zM) (y2 : Int32) (s0 : Int32) : Option (Int32 × zM) :=
  f_L_law_l28 L xs s0 (fun M7 z8 => 
      zb (f_X8_image M7) (fun q9 =>
      zb (f_L_isFair q9.2 z8) (fun q10 =>
      if q10 = 0 then
        some (0, q9.2)
      else
        zb (f_X8_count q9.2 4) (fun q12 =>
        if q9.1 = q12 then
          zb (f_X8_count q9.2 0) (fun q14 =>
          zb (f_X8_personOf q9.2 q14 0) (fun q15 =>
          if q15 = (-1) then
            zb (f_X8_ahead q9.2 9 0) (fun q17 =>
            zb (f_X8_ahead q9.2 9 1) (fun q18 =>
            zb (f_X8_days q9.2 9) (fun q19 =>
            f_L_law_l135 L xs z8 q9.1 q17 q18 (fun M36 z37 z38 => 
                if q17 = z37 then
                  if q18 = z38 then
                    zb (f_X8_ahead M36 0 1) (fun q41 =>
                    if q41 = z38 then
                      f_L_law_l228 L xs z8 q9.1 q17 (fun M53 => 
                          zb (f_X8_back M53) (fun q54 =>
                          if q54.1 = q9.1 then
                            zb (f_X8_count q54.2 4) (fun q56 =>
                            if q56 = q9.1 then
                              zb (f_X8_ahead q54.2 9 0) (fun q58 =>
                              if q58 = q17 then
                                zb (f_L_isFair q54.2 z8) (fun q60 =>
                                if q60 = 0 then
                                  some (0, q54.2)
                                else
                                  some (1, q54.2))
                              else
                                some (0, q54.2))
                            else
                              some (0, q54.2))
                          else
                            some (0, q54.2))) zFu M36 0
                    else
                      some (0, M36))
                  else
                    some (0, M36)
                else
                  some (0, M36)) zFu q19.2 0 0 0)))
          else
            some (0, q9.2)))
        else
          some (0, q9.2))))) zFu M y2 0
def f_L_law (L : Nat) (xs : Nat → Int32) (I : zM) : Option (Int32 × zM) :=
  if 60 ≤ (Int32.ofNat L) then
    f_L_law_j24 L xs I 0 60
  else
    f_L_law_j24 L xs I 0 (Int32.ofNat L)
