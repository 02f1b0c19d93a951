def fX4_layOut (l j : Nat) (a1 : Int32) (G : Gm) : Option (Gm) :=
  if a1 = 0 ∨ a1 = 1 then
    if a1 = 0 then
      some (gm_up (gm_up (gm_up (gm_up G 4 l j 1 a1) 4 l j 2 5) 4 l j 3 0) 4 l j 4 ((gm_up (gm_up (gm_up G 4 l j 1 a1) 4 l j 2 5) 4 l j 3 0) 4 l j 3))
    else
      some (gm_up (gm_up (gm_up (gm_up G 4 l j 1 a1) 4 l j 2 5) 4 l j 3 5) 4 l j 4 ((gm_up (gm_up (gm_up G 4 l j 1 a1) 4 l j 2 5) 4 l j 3 5) 4 l j 3))
  else none
def fX4_moveUp (l j : Nat) (a1 : Int32) (G : Gm) : Option (Int32 × Gm) :=
  if (G 4 l j 1) = 0 then
    some ((-5), G)
  else
    if ((G 4 l j 3) - a1) < 0 then
      some ((-5), G)
    else
      if 0 ≤ ((G 4 l j 4) + a1) then
        some (((gm_up (gm_up G 4 l j 3 ((G 4 l j 3) - a1)) 4 l j 4 (((gm_up G 4 l j 3 ((G 4 l j 3) - a1)) 4 l j 4) + a1)) 4 l j 3), (gm_up (gm_up G 4 l j 3 ((G 4 l j 3) - a1)) 4 l j 4 (((gm_up G 4 l j 3 ((G 4 l j 3) - a1)) 4 l j 4) + a1)))
      else
        some ((-5), G)
def fX4_property (l j : Nat) (a1 : Int32) (G : Gm) : Option (Int32) :=
  if a1 = 0 then
    if (G 4 l j 1) = 0 then
      some 0
    else
      some 1
  else
    if a1 = 1 then
      some (G 4 l j 2)
    else
      if a1 = 2 then
        some (G 4 l j 3)
      else
        if a1 = 3 then
          some (G 4 l j 4)
        else
          if a1 = 4 then
            if (G 4 l j 5) = 0 then
              some 0
            else
              some 1
          else
            some (-2)
def fX4_hasToken (l j : Nat) (a1 : Int32) (G : Gm) : Option (Int32) :=
  if a1 = 0 then
    if (G 4 l j 3) ≤ 0 then
      some 0
    else
      some 1
  else
    if (G 4 l j 4) ≤ 0 then
      some 0
    else
      some 1
def fX4_addTokens (l j : Nat) (a1 a2 : Int32) (G : Gm) : Option (Gm) :=
  if a1 = 0 then
    some (gm_up G 4 l j 3 ((G 4 l j 3) + a2))
  else
    some (gm_up G 4 l j 4 ((G 4 l j 4) + a2))
def fX4_takeToken (l j : Nat) (a1 : Int32) (G : Gm) : Option (Gm) :=
  if (G 4 l j 1) = 0 then
    some G
  else
    (fX4_addTokens l j a1 (-1) G).bind fun q2 =>
      some (gm_up q2 4 l j 5 1)
def fX4_putToken (l j : Nat) (a1 : Int32) (G : Gm) : Option (Gm) :=
  if (G 4 l j 1) = 0 then
    some G
  else
    (fX4_addTokens l j a1 1 G).bind fun q2 =>
      some (gm_up q2 4 l j 5 0)
def fX4_copyFrom (l j m1 p1 : Nat) (G : Gm) : Option (Gm) :=
  if (G 4 m1 p1 1) = 0 ∨ (G 4 m1 p1 1) = 1 then
    if ((gm_up (gm_up (gm_up (gm_up G 4 l j 1 (G 4 m1 p1 1)) 4 l j 2 ((gm_up G 4 l j 1 (G 4 m1 p1 1)) 4 m1 p1 2)) 4 l j 3 ((gm_up (gm_up G 4 l j 1 (G 4 m1 p1 1)) 4 l j 2 ((gm_up G 4 l j 1 (G 4 m1 p1 1)) 4 m1 p1 2)) 4 m1 p1 3)) 4 l j 4 ((gm_up (gm_up (gm_up G 4 l j 1 (G 4 m1 p1 1)) 4 l j 2 ((gm_up G 4 l j 1 (G 4 m1 p1 1)) 4 m1 p1 2)) 4 l j 3 ((gm_up (gm_up G 4 l j 1 (G 4 m1 p1 1)) 4 l j 2 ((gm_up G 4 l j 1 (G 4 m1 p1 1)) 4 m1 p1 2)) 4 m1 p1 3)) 4 m1 p1 4)) 4 m1 p1 5) = 0 ∨ ((gm_up (gm_up (gm_up (gm_up G 4 l j 1 (G 4 m1 p1 1)) 4 l j 2 ((gm_up G 4 l j 1 (G 4 m1 p1 1)) 4 m1 p1 2)) 4 l j 3 ((gm_up (gm_up G 4 l j 1 (G 4 m1 p1 1)) 4 l j 2 ((gm_up G 4 l j 1 (G 4 m1 p1 1)) 4 m1 p1 2)) 4 m1 p1 3)) 4 l j 4 ((gm_up (gm_up (gm_up G 4 l j 1 (G 4 m1 p1 1)) 4 l j 2 ((gm_up G 4 l j 1 (G 4 m1 p1 1)) 4 m1 p1 2)) 4 l j 3 ((gm_up (gm_up G 4 l j 1 (G 4 m1 p1 1)) 4 l j 2 ((gm_up G 4 l j 1 (G 4 m1 p1 1)) 4 m1 p1 2)) 4 m1 p1 3)) 4 m1 p1 4)) 4 m1 p1 5) = 1 then
      some (gm_up (gm_up (gm_up (gm_up (gm_up G 4 l j 1 (G 4 m1 p1 1)) 4 l j 2 ((gm_up G 4 l j 1 (G 4 m1 p1 1)) 4 m1 p1 2)) 4 l j 3 ((gm_up (gm_up G 4 l j 1 (G 4 m1 p1 1)) 4 l j 2 ((gm_up G 4 l j 1 (G 4 m1 p1 1)) 4 m1 p1 2)) 4 m1 p1 3)) 4 l j 4 ((gm_up (gm_up (gm_up G 4 l j 1 (G 4 m1 p1 1)) 4 l j 2 ((gm_up G 4 l j 1 (G 4 m1 p1 1)) 4 m1 p1 2)) 4 l j 3 ((gm_up (gm_up G 4 l j 1 (G 4 m1 p1 1)) 4 l j 2 ((gm_up G 4 l j 1 (G 4 m1 p1 1)) 4 m1 p1 2)) 4 m1 p1 3)) 4 m1 p1 4)) 4 l j 5 ((gm_up (gm_up (gm_up (gm_up G 4 l j 1 (G 4 m1 p1 1)) 4 l j 2 ((gm_up G 4 l j 1 (G 4 m1 p1 1)) 4 m1 p1 2)) 4 l j 3 ((gm_up (gm_up G 4 l j 1 (G 4 m1 p1 1)) 4 l j 2 ((gm_up G 4 l j 1 (G 4 m1 p1 1)) 4 m1 p1 2)) 4 m1 p1 3)) 4 l j 4 ((gm_up (gm_up (gm_up G 4 l j 1 (G 4 m1 p1 1)) 4 l j 2 ((gm_up G 4 l j 1 (G 4 m1 p1 1)) 4 m1 p1 2)) 4 l j 3 ((gm_up (gm_up G 4 l j 1 (G 4 m1 p1 1)) 4 l j 2 ((gm_up G 4 l j 1 (G 4 m1 p1 1)) 4 m1 p1 2)) 4 m1 p1 3)) 4 m1 p1 4)) 4 m1 p1 5))
    else none
  else none
def fX5_stands (l j : Nat) (a1 a2 a3 : Int32) (G : Gm) : Option (Int32) :=
  if (G 5 l j 3) = a1 then
    if (G 5 l j 4) = a2 then
      if (G 5 l j 2) = a3 then
        some 1
      else
        some 0
    else
      some 0
  else
    some 0
def fX5_standAt (l j : Nat) (a1 a2 : Int32) (G : Gm) : Option (Gm) :=
  some (gm_up (gm_up G 5 l j 3 a1) 5 l j 4 a2)
def fX5_start (l j : Nat) (a1 a2 a3 a4 : Int32) (G : Gm) : Option (Gm) :=
  (fX5_standAt l j 0 a3 (gm_up (gm_up G 5 l j 1 a1) 5 l j 2 a2)).bind fun q1 =>
    some (gm_up (gm_up (gm_up (gm_up q1 5 l j 5 0) 5 l j 6 1) 5 l j 7 a4) 5 l j 8 (-6))
def fX5_property (l j : Nat) (a1 : Int32) (G : Gm) : Option (Int32) :=
  if a1 = 0 then
    some (G 5 l j 1)
  else
    if a1 = 1 then
      some (G 5 l j 2)
    else
      if a1 = 2 then
        some (G 5 l j 3)
      else
        if a1 = 3 then
          some (G 5 l j 4)
        else
          if a1 = 4 then
            some (G 5 l j 5)
          else
            if a1 = 5 then
              if (G 5 l j 6) = 0 then
                some 0
              else
                some 1
            else
              if a1 = 6 then
                some (G 5 l j 7)
              else
                if a1 = 7 then
                  some (G 5 l j 8)
                else
                  some (-2)
def fX5_go (l j : Nat) (a1 : Int32) (G : Gm) : Option (Gm) :=
  some (gm_up (gm_up (gm_up G 5 l j 3 3) 5 l j 4 (-6)) 5 l j 8 a1)
def fX5_enter (l j p1 : Nat) (G : Gm) : Option (Gm) :=
  some (gm_up (gm_up (gm_up G 5 l j 3 2) 5 l j 4 (nI p1)) 5 l j 5 ((((gm_up (gm_up G 5 l j 3 2) 5 l j 4 (nI p1)) 4 l p1 2) + ((gm_up (gm_up G 5 l j 3 2) 5 l j 4 (nI p1)) 5 l j 1)) - 1))
def fX5_letPass (l j : Nat) (a1 : Int32) (G : Gm) : Option (Gm) :=
  if (G 5 l j 3) = 2 then
    some (gm_up G 5 l j 5 (if 0 < ((G 5 l j 5) - a1) then ((G 5 l j 5) - a1) else 0))
  else
    some G
def fX5_copyFrom (l j m1 p1 : Nat) (G : Gm) : Option (Gm) :=
  if ((gm_up (gm_up (gm_up (gm_up (gm_up G 5 l j 1 (G 5 m1 p1 1)) 5 l j 2 ((gm_up G 5 l j 1 (G 5 m1 p1 1)) 5 m1 p1 2)) 5 l j 3 ((gm_up (gm_up G 5 l j 1 (G 5 m1 p1 1)) 5 l j 2 ((gm_up G 5 l j 1 (G 5 m1 p1 1)) 5 m1 p1 2)) 5 m1 p1 3)) 5 l j 4 ((gm_up (gm_up (gm_up G 5 l j 1 (G 5 m1 p1 1)) 5 l j 2 ((gm_up G 5 l j 1 (G 5 m1 p1 1)) 5 m1 p1 2)) 5 l j 3 ((gm_up (gm_up G 5 l j 1 (G 5 m1 p1 1)) 5 l j 2 ((gm_up G 5 l j 1 (G 5 m1 p1 1)) 5 m1 p1 2)) 5 m1 p1 3)) 5 m1 p1 4)) 5 l j 5 ((gm_up (gm_up (gm_up (gm_up G 5 l j 1 (G 5 m1 p1 1)) 5 l j 2 ((gm_up G 5 l j 1 (G 5 m1 p1 1)) 5 m1 p1 2)) 5 l j 3 ((gm_up (gm_up G 5 l j 1 (G 5 m1 p1 1)) 5 l j 2 ((gm_up G 5 l j 1 (G 5 m1 p1 1)) 5 m1 p1 2)) 5 m1 p1 3)) 5 l j 4 ((gm_up (gm_up (gm_up G 5 l j 1 (G 5 m1 p1 1)) 5 l j 2 ((gm_up G 5 l j 1 (G 5 m1 p1 1)) 5 m1 p1 2)) 5 l j 3 ((gm_up (gm_up G 5 l j 1 (G 5 m1 p1 1)) 5 l j 2 ((gm_up G 5 l j 1 (G 5 m1 p1 1)) 5 m1 p1 2)) 5 m1 p1 3)) 5 m1 p1 4)) 5 m1 p1 5)) 5 m1 p1 6) = 0 ∨ ((gm_up (gm_up (gm_up (gm_up (gm_up G 5 l j 1 (G 5 m1 p1 1)) 5 l j 2 ((gm_up G 5 l j 1 (G 5 m1 p1 1)) 5 m1 p1 2)) 5 l j 3 ((gm_up (gm_up G 5 l j 1 (G 5 m1 p1 1)) 5 l j 2 ((gm_up G 5 l j 1 (G 5 m1 p1 1)) 5 m1 p1 2)) 5 m1 p1 3)) 5 l j 4 ((gm_up (gm_up (gm_up G 5 l j 1 (G 5 m1 p1 1)) 5 l j 2 ((gm_up G 5 l j 1 (G 5 m1 p1 1)) 5 m1 p1 2)) 5 l j 3 ((gm_up (gm_up G 5 l j 1 (G 5 m1 p1 1)) 5 l j 2 ((gm_up G 5 l j 1 (G 5 m1 p1 1)) 5 m1 p1 2)) 5 m1 p1 3)) 5 m1 p1 4)) 5 l j 5 ((gm_up (gm_up (gm_up (gm_up G 5 l j 1 (G 5 m1 p1 1)) 5 l j 2 ((gm_up G 5 l j 1 (G 5 m1 p1 1)) 5 m1 p1 2)) 5 l j 3 ((gm_up (gm_up G 5 l j 1 (G 5 m1 p1 1)) 5 l j 2 ((gm_up G 5 l j 1 (G 5 m1 p1 1)) 5 m1 p1 2)) 5 m1 p1 3)) 5 l j 4 ((gm_up (gm_up (gm_up G 5 l j 1 (G 5 m1 p1 1)) 5 l j 2 ((gm_up G 5 l j 1 (G 5 m1 p1 1)) 5 m1 p1 2)) 5 l j 3 ((gm_up (gm_up G 5 l j 1 (G 5 m1 p1 1)) 5 l j 2 ((gm_up G 5 l j 1 (G 5 m1 p1 1)) 5 m1 p1 2)) 5 m1 p1 3)) 5 m1 p1 4)) 5 m1 p1 5)) 5 m1 p1 6) = 1 then
    some (gm_up (gm_up (gm_up (gm_up (gm_up (gm_up (gm_up (gm_up G 5 l j 1 (G 5 m1 p1 1)) 5 l j 2 ((gm_up G 5 l j 1 (G 5 m1 p1 1)) 5 m1 p1 2)) 5 l j 3 ((gm_up (gm_up G 5 l j 1 (G 5 m1 p1 1)) 5 l j 2 ((gm_up G 5 l j 1 (G 5 m1 p1 1)) 5 m1 p1 2)) 5 m1 p1 3)) 5 l j 4 ((gm_up (gm_up (gm_up G 5 l j 1 (G 5 m1 p1 1)) 5 l j 2 ((gm_up G 5 l j 1 (G 5 m1 p1 1)) 5 m1 p1 2)) 5 l j 3 ((gm_up (gm_up G 5 l j 1 (G 5 m1 p1 1)) 5 l j 2 ((gm_up G 5 l j 1 (G 5 m1 p1 1)) 5 m1 p1 2)) 5 m1 p1 3)) 5 m1 p1 4)) 5 l j 5 ((gm_up (gm_up (gm_up (gm_up G 5 l j 1 (G 5 m1 p1 1)) 5 l j 2 ((gm_up G 5 l j 1 (G 5 m1 p1 1)) 5 m1 p1 2)) 5 l j 3 ((gm_up (gm_up G 5 l j 1 (G 5 m1 p1 1)) 5 l j 2 ((gm_up G 5 l j 1 (G 5 m1 p1 1)) 5 m1 p1 2)) 5 m1 p1 3)) 5 l j 4 ((gm_up (gm_up (gm_up G 5 l j 1 (G 5 m1 p1 1)) 5 l j 2 ((gm_up G 5 l j 1 (G 5 m1 p1 1)) 5 m1 p1 2)) 5 l j 3 ((gm_up (gm_up G 5 l j 1 (G 5 m1 p1 1)) 5 l j 2 ((gm_up G 5 l j 1 (G 5 m1 p1 1)) 5 m1 p1 2)) 5 m1 p1 3)) 5 m1 p1 4)) 5 m1 p1 5)) 5 l j 6 ((gm_up (gm_up (gm_up (gm_up (gm_up G 5 l j 1 (G 5 m1 p1 1)) 5 l j 2 ((gm_up G 5 l j 1 (G 5 m1 p1 1)) 5 m1 p1 2)) 5 l j 3 ((gm_up (gm_up G 5 l j 1 (G 5 m1 p1 1)) 5 l j 2 ((gm_up G 5 l j 1 (G 5 m1 p1 1)) 5 m1 p1 2)) 5 m1 p1 3)) 5 l j 4 ((gm_up (gm_up (gm_up G 5 l j 1 (G 5 m1 p1 1)) 5 l j 2 ((gm_up G 5 l j 1 (G 5 m1 p1 1)) 5 m1 p1 2)) 5 l j 3 ((gm_up (gm_up G 5 l j 1 (G 5 m1 p1 1)) 5 l j 2 ((gm_up G 5 l j 1 (G 5 m1 p1 1)) 5 m1 p1 2)) 5 m1 p1 3)) 5 m1 p1 4)) 5 l j 5 ((gm_up (gm_up (gm_up (gm_up G 5 l j 1 (G 5 m1 p1 1)) 5 l j 2 ((gm_up G 5 l j 1 (G 5 m1 p1 1)) 5 m1 p1 2)) 5 l j 3 ((gm_up (gm_up G 5 l j 1 (G 5 m1 p1 1)) 5 l j 2 ((gm_up G 5 l j 1 (G 5 m1 p1 1)) 5 m1 p1 2)) 5 m1 p1 3)) 5 l j 4 ((gm_up (gm_up (gm_up G 5 l j 1 (G 5 m1 p1 1)) 5 l j 2 ((gm_up G 5 l j 1 (G 5 m1 p1 1)) 5 m1 p1 2)) 5 l j 3 ((gm_up (gm_up G 5 l j 1 (G 5 m1 p1 1)) 5 l j 2 ((gm_up G 5 l j 1 (G 5 m1 p1 1)) 5 m1 p1 2)) 5 m1 p1 3)) 5 m1 p1 4)) 5 m1 p1 5)) 5 m1 p1 6)) 5 l j 7 ((gm_up (gm_up (gm_up (gm_up (gm_up (gm_up G 5 l j 1 (G 5 m1 p1 1)) 5 l j 2 ((gm_up G 5 l j 1 (G 5 m1 p1 1)) 5 m1 p1 2)) 5 l j 3 ((gm_up (gm_up G 5 l j 1 (G 5 m1 p1 1)) 5 l j 2 ((gm_up G 5 l j 1 (G 5 m1 p1 1)) 5 m1 p1 2)) 5 m1 p1 3)) 5 l j 4 ((gm_up (gm_up (gm_up G 5 l j 1 (G 5 m1 p1 1)) 5 l j 2 ((gm_up G 5 l j 1 (G 5 m1 p1 1)) 5 m1 p1 2)) 5 l j 3 ((gm_up (gm_up G 5 l j 1 (G 5 m1 p1 1)) 5 l j 2 ((gm_up G 5 l j 1 (G 5 m1 p1 1)) 5 m1 p1 2)) 5 m1 p1 3)) 5 m1 p1 4)) 5 l j 5 ((gm_up (gm_up (gm_up (gm_up G 5 l j 1 (G 5 m1 p1 1)) 5 l j 2 ((gm_up G 5 l j 1 (G 5 m1 p1 1)) 5 m1 p1 2)) 5 l j 3 ((gm_up (gm_up G 5 l j 1 (G 5 m1 p1 1)) 5 l j 2 ((gm_up G 5 l j 1 (G 5 m1 p1 1)) 5 m1 p1 2)) 5 m1 p1 3)) 5 l j 4 ((gm_up (gm_up (gm_up G 5 l j 1 (G 5 m1 p1 1)) 5 l j 2 ((gm_up G 5 l j 1 (G 5 m1 p1 1)) 5 m1 p1 2)) 5 l j 3 ((gm_up (gm_up G 5 l j 1 (G 5 m1 p1 1)) 5 l j 2 ((gm_up G 5 l j 1 (G 5 m1 p1 1)) 5 m1 p1 2)) 5 m1 p1 3)) 5 m1 p1 4)) 5 m1 p1 5)) 5 l j 6 ((gm_up (gm_up (gm_up (gm_up (gm_up G 5 l j 1 (G 5 m1 p1 1)) 5 l j 2 ((gm_up G 5 l j 1 (G 5 m1 p1 1)) 5 m1 p1 2)) 5 l j 3 ((gm_up (gm_up G 5 l j 1 (G 5 m1 p1 1)) 5 l j 2 ((gm_up G 5 l j 1 (G 5 m1 p1 1)) 5 m1 p1 2)) 5 m1 p1 3)) 5 l j 4 ((gm_up (gm_up (gm_up G 5 l j 1 (G 5 m1 p1 1)) 5 l j 2 ((gm_up G 5 l j 1 (G 5 m1 p1 1)) 5 m1 p1 2)) 5 l j 3 ((gm_up (gm_up G 5 l j 1 (G 5 m1 p1 1)) 5 l j 2 ((gm_up G 5 l j 1 (G 5 m1 p1 1)) 5 m1 p1 2)) 5 m1 p1 3)) 5 m1 p1 4)) 5 l j 5 ((gm_up (gm_up (gm_up (gm_up G 5 l j 1 (G 5 m1 p1 1)) 5 l j 2 ((gm_up G 5 l j 1 (G 5 m1 p1 1)) 5 m1 p1 2)) 5 l j 3 ((gm_up (gm_up G 5 l j 1 (G 5 m1 p1 1)) 5 l j 2 ((gm_up G 5 l j 1 (G 5 m1 p1 1)) 5 m1 p1 2)) 5 m1 p1 3)) 5 l j 4 ((gm_up (gm_up (gm_up G 5 l j 1 (G 5 m1 p1 1)) 5 l j 2 ((gm_up G 5 l j 1 (G 5 m1 p1 1)) 5 m1 p1 2)) 5 l j 3 ((gm_up (gm_up G 5 l j 1 (G 5 m1 p1 1)) 5 l j 2 ((gm_up G 5 l j 1 (G 5 m1 p1 1)) 5 m1 p1 2)) 5 m1 p1 3)) 5 m1 p1 4)) 5 m1 p1 5)) 5 m1 p1 6)) 5 m1 p1 7)) 5 l j 8 ((gm_up (gm_up (gm_up (gm_up (gm_up (gm_up (gm_up G 5 l j 1 (G 5 m1 p1 1)) 5 l j 2 ((gm_up G 5 l j 1 (G 5 m1 p1 1)) 5 m1 p1 2)) 5 l j 3 ((gm_up (gm_up G 5 l j 1 (G 5 m1 p1 1)) 5 l j 2 ((gm_up G 5 l j 1 (G 5 m1 p1 1)) 5 m1 p1 2)) 5 m1 p1 3)) 5 l j 4 ((gm_up (gm_up (gm_up G 5 l j 1 (G 5 m1 p1 1)) 5 l j 2 ((gm_up G 5 l j 1 (G 5 m1 p1 1)) 5 m1 p1 2)) 5 l j 3 ((gm_up (gm_up G 5 l j 1 (G 5 m1 p1 1)) 5 l j 2 ((gm_up G 5 l j 1 (G 5 m1 p1 1)) 5 m1 p1 2)) 5 m1 p1 3)) 5 m1 p1 4)) 5 l j 5 ((gm_up (gm_up (gm_up (gm_up G 5 l j 1 (G 5 m1 p1 1)) 5 l j 2 ((gm_up G 5 l j 1 (G 5 m1 p1 1)) 5 m1 p1 2)) 5 l j 3 ((gm_up (gm_up G 5 l j 1 (G 5 m1 p1 1)) 5 l j 2 ((gm_up G 5 l j 1 (G 5 m1 p1 1)) 5 m1 p1 2)) 5 m1 p1 3)) 5 l j 4 ((gm_up (gm_up (gm_up G 5 l j 1 (G 5 m1 p1 1)) 5 l j 2 ((gm_up G 5 l j 1 (G 5 m1 p1 1)) 5 m1 p1 2)) 5 l j 3 ((gm_up (gm_up G 5 l j 1 (G 5 m1 p1 1)) 5 l j 2 ((gm_up G 5 l j 1 (G 5 m1 p1 1)) 5 m1 p1 2)) 5 m1 p1 3)) 5 m1 p1 4)) 5 m1 p1 5)) 5 l j 6 ((gm_up (gm_up (gm_up (gm_up (gm_up G 5 l j 1 (G 5 m1 p1 1)) 5 l j 2 ((gm_up G 5 l j 1 (G 5 m1 p1 1)) 5 m1 p1 2)) 5 l j 3 ((gm_up (gm_up G 5 l j 1 (G 5 m1 p1 1)) 5 l j 2 ((gm_up G 5 l j 1 (G 5 m1 p1 1)) 5 m1 p1 2)) 5 m1 p1 3)) 5 l j 4 ((gm_up (gm_up (gm_up G 5 l j 1 (G 5 m1 p1 1)) 5 l j 2 ((gm_up G 5 l j 1 (G 5 m1 p1 1)) 5 m1 p1 2)) 5 l j 3 ((gm_up (gm_up G 5 l j 1 (G 5 m1 p1 1)) 5 l j 2 ((gm_up G 5 l j 1 (G 5 m1 p1 1)) 5 m1 p1 2)) 5 m1 p1 3)) 5 m1 p1 4)) 5 l j 5 ((gm_up (gm_up (gm_up (gm_up G 5 l j 1 (G 5 m1 p1 1)) 5 l j 2 ((gm_up G 5 l j 1 (G 5 m1 p1 1)) 5 m1 p1 2)) 5 l j 3 ((gm_up (gm_up G 5 l j 1 (G 5 m1 p1 1)) 5 l j 2 ((gm_up G 5 l j 1 (G 5 m1 p1 1)) 5 m1 p1 2)) 5 m1 p1 3)) 5 l j 4 ((gm_up (gm_up (gm_up G 5 l j 1 (G 5 m1 p1 1)) 5 l j 2 ((gm_up G 5 l j 1 (G 5 m1 p1 1)) 5 m1 p1 2)) 5 l j 3 ((gm_up (gm_up G 5 l j 1 (G 5 m1 p1 1)) 5 l j 2 ((gm_up G 5 l j 1 (G 5 m1 p1 1)) 5 m1 p1 2)) 5 m1 p1 3)) 5 m1 p1 4)) 5 m1 p1 5)) 5 m1 p1 6)) 5 l j 7 ((gm_up (gm_up (gm_up (gm_up (gm_up (gm_up G 5 l j 1 (G 5 m1 p1 1)) 5 l j 2 ((gm_up G 5 l j 1 (G 5 m1 p1 1)) 5 m1 p1 2)) 5 l j 3 ((gm_up (gm_up G 5 l j 1 (G 5 m1 p1 1)) 5 l j 2 ((gm_up G 5 l j 1 (G 5 m1 p1 1)) 5 m1 p1 2)) 5 m1 p1 3)) 5 l j 4 ((gm_up (gm_up (gm_up G 5 l j 1 (G 5 m1 p1 1)) 5 l j 2 ((gm_up G 5 l j 1 (G 5 m1 p1 1)) 5 m1 p1 2)) 5 l j 3 ((gm_up (gm_up G 5 l j 1 (G 5 m1 p1 1)) 5 l j 2 ((gm_up G 5 l j 1 (G 5 m1 p1 1)) 5 m1 p1 2)) 5 m1 p1 3)) 5 m1 p1 4)) 5 l j 5 ((gm_up (gm_up (gm_up (gm_up G 5 l j 1 (G 5 m1 p1 1)) 5 l j 2 ((gm_up G 5 l j 1 (G 5 m1 p1 1)) 5 m1 p1 2)) 5 l j 3 ((gm_up (gm_up G 5 l j 1 (G 5 m1 p1 1)) 5 l j 2 ((gm_up G 5 l j 1 (G 5 m1 p1 1)) 5 m1 p1 2)) 5 m1 p1 3)) 5 l j 4 ((gm_up (gm_up (gm_up G 5 l j 1 (G 5 m1 p1 1)) 5 l j 2 ((gm_up G 5 l j 1 (G 5 m1 p1 1)) 5 m1 p1 2)) 5 l j 3 ((gm_up (gm_up G 5 l j 1 (G 5 m1 p1 1)) 5 l j 2 ((gm_up G 5 l j 1 (G 5 m1 p1 1)) 5 m1 p1 2)) 5 m1 p1 3)) 5 m1 p1 4)) 5 m1 p1 5)) 5 l j 6 ((gm_up (gm_up (gm_up (gm_up (gm_up G 5 l j 1 (G 5 m1 p1 1)) 5 l j 2 ((gm_up G 5 l j 1 (G 5 m1 p1 1)) 5 m1 p1 2)) 5 l j 3 ((gm_up (gm_up G 5 l j 1 (G 5 m1 p1 1)) 5 l j 2 ((gm_up G 5 l j 1 (G 5 m1 p1 1)) 5 m1 p1 2)) 5 m1 p1 3)) 5 l j 4 ((gm_up (gm_up (gm_up G 5 l j 1 (G 5 m1 p1 1)) 5 l j 2 ((gm_up G 5 l j 1 (G 5 m1 p1 1)) 5 m1 p1 2)) 5 l j 3 ((gm_up (gm_up G 5 l j 1 (G 5 m1 p1 1)) 5 l j 2 ((gm_up G 5 l j 1 (G 5 m1 p1 1)) 5 m1 p1 2)) 5 m1 p1 3)) 5 m1 p1 4)) 5 l j 5 ((gm_up (gm_up (gm_up (gm_up G 5 l j 1 (G 5 m1 p1 1)) 5 l j 2 ((gm_up G 5 l j 1 (G 5 m1 p1 1)) 5 m1 p1 2)) 5 l j 3 ((gm_up (gm_up G 5 l j 1 (G 5 m1 p1 1)) 5 l j 2 ((gm_up G 5 l j 1 (G 5 m1 p1 1)) 5 m1 p1 2)) 5 m1 p1 3)) 5 l j 4 ((gm_up (gm_up (gm_up G 5 l j 1 (G 5 m1 p1 1)) 5 l j 2 ((gm_up G 5 l j 1 (G 5 m1 p1 1)) 5 m1 p1 2)) 5 l j 3 ((gm_up (gm_up G 5 l j 1 (G 5 m1 p1 1)) 5 l j 2 ((gm_up G 5 l j 1 (G 5 m1 p1 1)) 5 m1 p1 2)) 5 m1 p1 3)) 5 m1 p1 4)) 5 m1 p1 5)) 5 m1 p1 6)) 5 m1 p1 7)) 5 m1 p1 8))
  else none
def fX0_reset (l j : Nat) (G : Gm) : Option (Gm) :=
  some (gm_up (gm_up (gm_up (gm_up (gm_up G 0 l j 2 0) 0 l j 3 (-6)) 0 l j 4 (-6)) 0 l j 5 0) 0 l j 6 0)
def fX0_property (l j : Nat) (a1 : Int32) (G : Gm) : Option (Int32) :=
  if a1 = 0 then
    some (G 0 l j 2)
  else
    if a1 = 1 then
      some (G 0 l j 3)
    else
      if a1 = 2 then
        some (G 0 l j 4)
      else
        if a1 = 3 then
          if (G 0 l j 5) = 0 then
            some 0
          else
            some 1
        else
          if a1 = 4 then
            some (G 0 l j 6)
          else
            some (-2)
def fX0_rearBox (l j : Nat) (G : Gm) : Option (Int32) :=
  some ((nI (j / 2)) + (nI (j % 2)))
def fX0_boxAhead (l j : Nat) (G : Gm) : Option (Int32) :=
  some (((nI (j / 2)) + 1) - (nI (j % 2)))
def fX0_rearEnd (l j : Nat) (G : Gm) : Option (Int32) :=
  some (nI (j % 2))
def fX0_makeClear (l j : Nat) (G : Gm) : Option (Gm) :=
  (fX0_rearEnd l j (gm_up (gm_up (gm_up G 0 l j 2 1) 0 l j 4 ((gm_up G 0 l j 2 1) 0 l j 3)) 0 l j 3 (-6))).bind fun q1 =>
    (fX4_takeToken l (j / 2) q1 (gm_up (gm_up (gm_up G 0 l j 2 1) 0 l j 4 ((gm_up G 0 l j 2 1) 0 l j 3)) 0 l j 3 (-6))).bind fun q2 =>
      some q2
def fX0_takeBack (l j : Nat) (a1 : Int32) (G : Gm) : Option (Gm) :=
  if (G 0 l j 2) = 1 then
    (fX0_rearEnd l j G).bind fun q2 =>
      (fX4_putToken l (j / 2) q2 G).bind fun q3 =>
        some (gm_up (gm_up (gm_up q3 0 l j 2 a1) 0 l j 3 (-6)) 0 l j 4 (-6))
  else
    some (gm_up (gm_up (gm_up G 0 l j 2 a1) 0 l j 3 (-6)) 0 l j 4 (-6))
def fX0_endAhead (l j : Nat) (G : Gm) : Option (Int32) :=
  some (1 - (nI (j % 2)))
def fX0_makeFree (l j : Nat) (G : Gm) : Option (Gm) :=
  (fX0_endAhead l j (gm_up (gm_up G 0 l j 2 0) 0 l j 4 (-6))).bind fun q1 =>
    (fX4_putToken l (j / 2) q1 (gm_up (gm_up G 0 l j 2 0) 0 l j 4 (-6))).bind fun q2 =>
      some q2
def fX0_letPass (l j : Nat) (a1 : Int32) (G : Gm) : Option (Gm) :=
  if (G 0 l j 6) = 0 then
    some G
  else
    if ((gm_up G 0 l j 6 (if 0 < ((G 0 l j 6) - a1) then ((G 0 l j 6) - a1) else 0)) 0 l j 6) = 0 then
      some (gm_up (gm_up G 0 l j 6 (if 0 < ((G 0 l j 6) - a1) then ((G 0 l j 6) - a1) else 0)) 0 l j 5 0)
    else
      some (gm_up G 0 l j 6 (if 0 < ((G 0 l j 6) - a1) then ((G 0 l j 6) - a1) else 0))
def fX0_copyFrom (l j m1 p1 : Nat) (G : Gm) : Option (Gm) :=
  if ((gm_up (gm_up (gm_up G 0 l j 2 (G 0 m1 p1 2)) 0 l j 3 ((gm_up G 0 l j 2 (G 0 m1 p1 2)) 0 m1 p1 3)) 0 l j 4 ((gm_up (gm_up G 0 l j 2 (G 0 m1 p1 2)) 0 l j 3 ((gm_up G 0 l j 2 (G 0 m1 p1 2)) 0 m1 p1 3)) 0 m1 p1 4)) 0 m1 p1 5) = 0 ∨ ((gm_up (gm_up (gm_up G 0 l j 2 (G 0 m1 p1 2)) 0 l j 3 ((gm_up G 0 l j 2 (G 0 m1 p1 2)) 0 m1 p1 3)) 0 l j 4 ((gm_up (gm_up G 0 l j 2 (G 0 m1 p1 2)) 0 l j 3 ((gm_up G 0 l j 2 (G 0 m1 p1 2)) 0 m1 p1 3)) 0 m1 p1 4)) 0 m1 p1 5) = 1 then
    some (gm_up (gm_up (gm_up (gm_up (gm_up G 0 l j 2 (G 0 m1 p1 2)) 0 l j 3 ((gm_up G 0 l j 2 (G 0 m1 p1 2)) 0 m1 p1 3)) 0 l j 4 ((gm_up (gm_up G 0 l j 2 (G 0 m1 p1 2)) 0 l j 3 ((gm_up G 0 l j 2 (G 0 m1 p1 2)) 0 m1 p1 3)) 0 m1 p1 4)) 0 l j 5 ((gm_up (gm_up (gm_up G 0 l j 2 (G 0 m1 p1 2)) 0 l j 3 ((gm_up G 0 l j 2 (G 0 m1 p1 2)) 0 m1 p1 3)) 0 l j 4 ((gm_up (gm_up G 0 l j 2 (G 0 m1 p1 2)) 0 l j 3 ((gm_up G 0 l j 2 (G 0 m1 p1 2)) 0 m1 p1 3)) 0 m1 p1 4)) 0 m1 p1 5)) 0 l j 6 ((gm_up (gm_up (gm_up (gm_up G 0 l j 2 (G 0 m1 p1 2)) 0 l j 3 ((gm_up G 0 l j 2 (G 0 m1 p1 2)) 0 m1 p1 3)) 0 l j 4 ((gm_up (gm_up G 0 l j 2 (G 0 m1 p1 2)) 0 l j 3 ((gm_up G 0 l j 2 (G 0 m1 p1 2)) 0 m1 p1 3)) 0 m1 p1 4)) 0 l j 5 ((gm_up (gm_up (gm_up G 0 l j 2 (G 0 m1 p1 2)) 0 l j 3 ((gm_up G 0 l j 2 (G 0 m1 p1 2)) 0 m1 p1 3)) 0 l j 4 ((gm_up (gm_up G 0 l j 2 (G 0 m1 p1 2)) 0 l j 3 ((gm_up G 0 l j 2 (G 0 m1 p1 2)) 0 m1 p1 3)) 0 m1 p1 4)) 0 m1 p1 5)) 0 m1 p1 6))
  else none
def fX3_rowOf (a0 : Int32) : Option (Int32) :=
  some (((a0 &&& 2147483647) - (a0 &&& 2147483647) / 60 * 60) * 5)
def fX3_record (l p2 : Nat) (a1 a3 a4 : Int32) (G : Gm) : Option (Gm) :=
  (fX3_rowOf (G 3 l 0 1)).bind fun q1 =>
    gm_gi q1 300 fun z2 =>
    gm_gi (q1 + 1) 300 fun z3 =>
    gm_gi (q1 + 2) 300 fun z4 =>
    gm_gi (q1 + 3) 300 fun z5 =>
    gm_gi (q1 + 4) 300 fun z6 =>
    some (gm_up (gm_up (gm_up (gm_up (gm_up (gm_up G 8 l 1 z2 a1) 8 l 1 z3 (nI (p2 / 2))) 8 l 1 z4 (nI (p2 % 2))) 8 l 1 z5 a3) 8 l 1 z6 a4) 3 l 0 1 (((gm_up (gm_up (gm_up (gm_up (gm_up G 8 l 1 z2 a1) 8 l 1 z3 (nI (p2 / 2))) 8 l 1 z4 (nI (p2 % 2))) 8 l 1 z5 a3) 8 l 1 z6 a4) 3 l 0 1) + 1))
def fX3_oldest (l : Nat) (G : Gm) : Option (Int32) :=
  some (if 0 < ((G 3 l 0 1) - 60) then ((G 3 l 0 1) - 60) else 0)
def fX3_property (l : Nat) (a1 a2 : Int32) (G : Gm) : Option (Int32) :=
  (fX3_oldest l G).bind fun q1 =>
    if a1 < q1 then
      some (-6)
    else
      if a1 < (G 3 l 0 1) then
        (fX3_rowOf a1).bind fun q4 =>
          gm_gi (q4 + a2) 300 fun z5 =>
          some (G 8 l 1 z5)
      else
        some (-6)
def fX3_countOf_h8 (l : Nat) (a1 a2 : Int32) (G : Gm) : Nat → Int32 → Int32 → Option (Int32)
  | 0, _, _ => none
  | n8 + 1, v3, v4 =>
    if (G 3 l 0 1) ≤ v4 then
      some v3
    else
      (fX3_rowOf v4).bind fun q3 =>
        gm_gi (q3 + 4) 300 fun z4 =>
        if (G 8 l 1 z4) = a1 then
          if a2 = (-1) then
            fX3_countOf_h8 l a1 a2 G n8 (v3 + 1) (v4 + 1)
          else
            gm_gi (q3 + 1) 300 fun z7 =>
            if (G 8 l 1 z7) = a2 then
              fX3_countOf_h8 l a1 a2 G n8 (v3 + 1) (v4 + 1)
            else
              fX3_countOf_h8 l a1 a2 G n8 v3 (v4 + 1)
        else
          fX3_countOf_h8 l a1 a2 G n8 v3 (v4 + 1)
def fX3_countOf (l : Nat) (a1 a2 : Int32) (G : Gm) : Option (Int32) :=
  (fX3_oldest l G).bind fun q1 =>
    fX3_countOf_h8 l a1 a2 G 6000 0 q1
def fX3_copyFrom (l m1 : Nat) (G : Gm) : Option (Gm) :=
  some (gm_up (gm_cp G m1 1 l 1 300) 3 l 0 1 ((gm_cp G m1 1 l 1 300) 3 m1 0 1))
def fX2_append (a1 : Int32) (G : Gm) : Option (Int32 × Gm) :=
  if (G 2 4 0 1) < 60 then
    gm_gi (G 2 4 0 1) 60 fun z2 =>
    some (((gm_up (gm_up G 8 4 0 z2 a1) 2 4 0 1 (((gm_up G 8 4 0 z2 a1) 2 4 0 1) + 1)) 2 4 0 1), (gm_up (gm_up G 8 4 0 z2 a1) 2 4 0 1 (((gm_up G 8 4 0 z2 a1) 2 4 0 1) + 1)))
  else
    some ((-4), G)
def fX2_empty (G : Gm) : Option (Int32 × Gm) :=
  some ((G 2 4 0 1), (gm_up G 2 4 0 1 0))
def fX2_afterLetter (a0 : Int32) : Option (Int32) :=
  if a0 = 97 then
    some 3
  else
    if a0 = 99 then
      some 3
    else
      if a0 = 100 then
        some 1
      else
        if a0 = 101 then
          some 3
        else
          if a0 = 108 then
            some 1
          else
            if a0 = 110 then
              some 3
            else
              if a0 = 111 then
                some 1
              else
                if a0 = 115 then
                  some 1
                else
                  if a0 = 116 then
                    some 5
                  else
                    if a0 = 117 then
                      some 3
                    else
                      if a0 = 121 then
                        some 3
                      else
                        some (-1)
def fX2_isBetween (a0 a1 a2 : Int32) : Option (Int32) :=
  if a0 < a1 then
    some 0
  else
    if a2 < a0 then
      some 0
    else
      some 1
def fX2_afterOrder (a0 : Int32) : Option (Int32) :=
  if a0 = 44 then
    some 0
  else
    some (-1)
def fX2_after (a0 a1 : Int32) : Option (Int32) :=
  if a0 = 0 then
    (fX2_afterLetter a1).bind fun q24 =>
      some q24
  else
    if a0 = 1 then
      if a1 = 49 then
        some 2
      else
        (fX2_isBetween a1 48 57).bind fun q22 =>
          if q22 = 0 then
            some (-1)
          else
            some 7
    else
      if a0 = 2 then
        (fX2_isBetween a1 48 49).bind fun q18 =>
          if q18 = 0 then
            (fX2_afterOrder a1).bind fun q20 =>
              some q20
          else
            some 7
      else
        if a0 = 3 then
          (fX2_isBetween a1 48 52).bind fun q16 =>
            if q16 = 0 then
              some (-1)
            else
              some 4
        else
          if a0 = 4 then
            if a1 = 43 then
              some 7
            else
              if a1 = 45 then
                some 7
              else
                some (-1)
          else
            if a0 = 5 then
              (fX2_isBetween a1 49 57).bind fun q12 =>
                if q12 = 0 then
                  some (-1)
                else
                  some 6
            else
              if a0 = 6 then
                (fX2_isBetween a1 48 57).bind fun q9 =>
                  if q9 = 0 then
                    (fX2_afterOrder a1).bind fun q11 =>
                      some q11
                  else
                    some 7
              else
                (fX2_afterOrder a1).bind fun q8 =>
                  some q8
def fX2_firstFault_h4 (G : Gm) : Nat → Int32 → Int32 → Option (Int32)
  | 0, _, _ => none
  | n4 + 1, v1, v2 =>
    if (G 2 4 0 1) ≤ v2 then
      if v1 = 7 then
        some (-6)
      else
        if v1 = 2 then
          some (-6)
        else
          if v1 = 6 then
            some (-6)
          else
            some (G 2 4 0 1)
    else
      gm_gi v2 60 fun z9 =>
      (fX2_after v1 (G 8 4 0 z9)).bind fun q10 =>
        if q10 = (-1) then
          some v2
        else
          fX2_firstFault_h4 G n4 q10 (v2 + 1)
def fX2_firstFault (G : Gm) : Option (Int32) :=
  fX2_firstFault_h4 G 6000 0 0
def fX2_rewind (G : Gm) : Option (Gm) :=
  some (gm_up G 2 4 0 2 0)
def fX2_readSign (a1 : Int32) (G : Gm) : Option (Gm) :=
  (fX2_isBetween a1 48 57).bind fun q1 =>
    if q1 = 0 then
      if a1 = 45 then
        some (gm_up G 2 4 0 5 1)
      else
        some G
    else
      some (gm_up G 2 4 0 4 (((10 * (G 2 4 0 4)) + a1) - 48))
def fX2_readOrder_h46 : Nat → Gm → Option (Int32 × Gm)
  | 0, _ => none
  | n46 + 1, G =>
    if (G 2 4 0 1) ≤ (G 2 4 0 2) then
      some (1, (gm_up G 2 4 0 2 ((G 2 4 0 2) + 1)))
    else
      gm_gi (G 2 4 0 2) 60 fun z4 =>
      if (G 8 4 0 z4) = 44 then
        some (1, (gm_up G 2 4 0 2 ((G 2 4 0 2) + 1)))
      else
        gm_gi (G 2 4 0 2) 60 fun z6 =>
        (fX2_readSign (G 8 4 0 z6) G).bind fun q7 =>
          fX2_readOrder_h46 n46 (gm_up q7 2 4 0 2 ((q7 2 4 0 2) + 1))
def fX2_readOrder (G : Gm) : Option (Int32 × Gm) :=
  if (G 2 4 0 2) < (G 2 4 0 1) then
    gm_gi (G 2 4 0 2) 60 fun z2 =>
    fX2_readOrder_h46 6000 (gm_up (gm_up (gm_up (gm_up G 2 4 0 3 (G 8 4 0 z2)) 2 4 0 4 0) 2 4 0 5 0) 2 4 0 2 (((gm_up (gm_up (gm_up G 2 4 0 3 (G 8 4 0 z2)) 2 4 0 4 0) 2 4 0 5 0) 2 4 0 2) + 1))
  else
    some (0, G)
def fX1_clearTraffic_h30 (l : Nat) : Nat → Int32 → Gm → Option (Gm)
  | 0, _, _ => none
  | n30 + 1, v1, G =>
    if 10 ≤ v1 then
      some G
    else
      gm_gi v1 10 fun z3 =>
      (fX0_reset l z3 G).bind fun q4 =>
        fX1_clearTraffic_h30 l n30 (v1 + 1) q4
def fX1_clearTraffic_h7 (l : Nat) : Nat → Int32 → Gm → Option (Gm)
  | 0, _, _ => none
  | n7 + 1, v1, G =>
    if 5 ≤ v1 then
      fX1_clearTraffic_h30 l 6000 0 G
    else
      gm_gi v1 5 fun z5 =>
      fX1_clearTraffic_h7 l n7 (v1 + 1) (gm_up G 4 l z5 5 0)
def fX1_clearTraffic (l : Nat) (G : Gm) : Option (Gm) :=
  fX1_clearTraffic_h7 l 6000 0 (gm_up G 1 l 0 6 0)
def fX1_layOut_h43 (l : Nat) (a1 a2 : Int32) : Nat → Int32 → Gm → Option (Gm)
  | 0, _, _ => none
  | n43 + 1, v3, G =>
    if 12 ≤ v3 then
      (fX1_clearTraffic l G).bind fun q3 =>
        some (gm_up (gm_up q3 1 l 0 7 0) 3 l 0 1 0)
    else
      gm_gi v3 12 fun z4 =>
      fX1_layOut_h43 l a1 a2 n43 (v3 + 1) (gm_up G 8 l 0 z4 1)
def fX1_layOut_h7 (l : Nat) (a1 a2 : Int32) : Nat → Int32 → Gm → Option (Gm)
  | 0, _, _ => none
  | n7 + 1, v3, G =>
    if 5 ≤ v3 then
      fX1_layOut_h43 l a1 a2 6000 0 G
    else
      gm_gi v3 5 fun z5 =>
      if ((a2 >>> (v3 &&& 31)) &&& 1) = 1 then
        (fX4_layOut l z5 1 G).bind fun q7 =>
          fX1_layOut_h7 l a1 a2 n7 (v3 + 1) q7
      else
        (fX4_layOut l z5 0 G).bind fun q8 =>
          fX1_layOut_h7 l a1 a2 n7 (v3 + 1) q8
def fX1_layOut (l : Nat) (a1 a2 : Int32) (G : Gm) : Option (Gm) :=
  fX1_layOut_h7 l a1 a2 6000 0 (gm_up G 1 l 0 5 a1)
def fX1_sectionAt (l : Nat) (a1 : Int32) (G : Gm) : Option (Option Nat) :=
  if a1 < 0 then
    some none
  else
    if ((G 1 l 0 5) - 1) ≤ a1 then
      some none
    else
      gm_gi a1 5 fun z3 =>
      some (some z3)
def fX1_hasBox (l : Nat) (a1 : Int32) (G : Gm) : Option (Int32) :=
  if a1 < 0 then
    some 0
  else
    if (G 1 l 0 5) ≤ a1 then
      some 0
    else
      some 1
def fX1_trainsStanding_h6 (l : Nat) (a1 a2 a3 : Int32) (G : Gm) : Nat → Int32 → Int32 → Option (Int32)
  | 0, _, _ => none
  | n6 + 1, v4, v5 =>
    if (G 1 l 0 6) ≤ v5 then
      some v4
    else
      gm_gi v5 12 fun z2 =>
      (fX5_stands l z2 a1 a2 a3 G).bind fun q3 =>
        if q3 = 0 then
          fX1_trainsStanding_h6 l a1 a2 a3 G n6 v4 (v5 + 1)
        else
          fX1_trainsStanding_h6 l a1 a2 a3 G n6 (v4 + 1) (v5 + 1)
def fX1_trainsStanding (l : Nat) (a1 a2 a3 : Int32) (G : Gm) : Option (Int32) :=
  fX1_trainsStanding_h6 l a1 a2 a3 G 6000 0 0
def fX1_changeLoops (l : Nat) (a1 a2 a3 : Int32) (G : Gm) : Option (Int32 × Gm) :=
  (fX1_trainsStanding l 1 a1 a2 G).bind fun q1 =>
    if q1 ≤ a3 then
      gm_gi ((2 * a1) + a2) 12 fun z3 =>
      gm_gi ((2 * a1) + a2) 12 fun z4 =>
      some ((G 8 l 0 z3), (gm_up G 8 l 0 z4 a3))
    else
      some ((-5), G)
def fX1_blockAt (l : Nat) (a1 a2 : Int32) (G : Gm) : Option (Option Nat) :=
  if a1 < 0 then
    some none
  else
    if ((G 1 l 0 5) - 1) ≤ a1 then
      some none
    else
      if a2 < 0 then
        some none
      else
        if a2 ≤ 1 then
          gm_gi ((2 * a1) + a2) 10 fun z5 =>
          some (some z5)
        else
          some none
def fX1_firstBox (l : Nat) (a1 : Int32) (G : Gm) : Option (Int32) :=
  if a1 = 0 then
    some 0
  else
    some ((G 1 l 0 5) - 1)
def fX1_isLineFree (l : Nat) (a1 a2 : Int32) (G : Gm) : Option (Int32) :=
  (fX1_trainsStanding l 0 a1 a2 G).bind fun q1 =>
    if q1 = 0 then
      some 1
    else
      some 0
def fX1_bringNew (l : Nat) (a1 a2 : Int32) (G : Gm) : Option (Int32 × Gm) :=
  (fX1_firstBox l a2 G).bind fun q1 =>
    if 12 ≤ (G 1 l 0 6) then
      some ((-5), G)
    else
      (fX1_isLineFree l q1 a2 G).bind fun q3 =>
        if q3 = 0 then
          some ((-5), G)
        else
          gm_gi (G 1 l 0 6) 12 fun z5 =>
          (fX5_start l z5 a1 a2 q1 (G 1 l 0 7) G).bind fun q6 =>
            some ((nI z5), (gm_up q6 1 l 0 6 ((q6 1 l 0 6) + 1)))
def fX1_trainAt (l : Nat) (a1 : Int32) (G : Gm) : Option (Option Nat) :=
  if a1 < 0 then
    some none
  else
    if (G 1 l 0 6) ≤ a1 then
      some none
    else
      gm_gi a1 12 fun z3 =>
      some (some z3)
def fX1_nextBlock (l p1 : Nat) (G : Gm) : Option (Option Nat) :=
  if (G 5 l p1 3) = 0 then
    (fX1_blockAt l ((G 5 l p1 4) - (G 5 l p1 2)) (G 5 l p1 2) G).bind fun q2 => gm_el q2 (
      some none) fun t3 =>
      some (some t3)
  else
    some none
def fX6_isDirection (a0 : Int32) : Option (Int32) :=
  if a0 = 0 then
    some 1
  else
    if a0 = 1 then
      some 1
    else
      some 0
def fX1_shuntToLoop (l p1 : Nat) (G : Gm) : Option (Int32 × Gm) :=
  (fX1_nextBlock l p1 G).bind fun q1 => gm_el q1 (
    (fX1_hasBox l (G 5 l p1 4) G).bind fun q3 =>
      if q3 = 0 then
        some ((-5), G)
      else
        (fX6_isDirection (G 5 l p1 2)).bind fun q5 =>
          if q5 = 0 then
            some ((-5), G)
          else
            gm_gi ((2 * (G 5 l p1 4)) + (G 5 l p1 2)) 12 fun z7 =>
            (fX1_trainsStanding l 1 (G 5 l p1 4) (G 5 l p1 2) G).bind fun q8 =>
              if q8 < (G 8 l 0 z7) then
                (fX5_standAt l p1 1 (G 5 l p1 4) G).bind fun q10 =>
                  some (1, q10)
              else
                some ((-5), G)) fun t2 =>
    if (G 0 l t2 3) = (nI p1) then
      some ((-5), G)
    else
      if (G 0 l t2 2) = 1 then
        if (G 0 l t2 4) = (nI p1) then
          some ((-5), G)
        else
          (fX1_hasBox l (G 5 l p1 4) G).bind fun q14 =>
            if q14 = 0 then
              some ((-5), G)
            else
              (fX6_isDirection (G 5 l p1 2)).bind fun q16 =>
                if q16 = 0 then
                  some ((-5), G)
                else
                  gm_gi ((2 * (G 5 l p1 4)) + (G 5 l p1 2)) 12 fun z18 =>
                  (fX1_trainsStanding l 1 (G 5 l p1 4) (G 5 l p1 2) G).bind fun q19 =>
                    if q19 < (G 8 l 0 z18) then
                      (fX5_standAt l p1 1 (G 5 l p1 4) G).bind fun q21 =>
                        some (1, q21)
                    else
                      some ((-5), G)
      else
        (fX1_hasBox l (G 5 l p1 4) G).bind fun q22 =>
          if q22 = 0 then
            some ((-5), G)
          else
            (fX6_isDirection (G 5 l p1 2)).bind fun q24 =>
              if q24 = 0 then
                some ((-5), G)
              else
                gm_gi ((2 * (G 5 l p1 4)) + (G 5 l p1 2)) 12 fun z26 =>
                (fX1_trainsStanding l 1 (G 5 l p1 4) (G 5 l p1 2) G).bind fun q27 =>
                  if q27 < (G 8 l 0 z26) then
                    (fX5_standAt l p1 1 (G 5 l p1 4) G).bind fun q29 =>
                      some (1, q29)
                  else
                    some ((-5), G)
def fX1_blockTo (l : Nat) (a1 a2 : Int32) (G : Gm) : Option (Option Nat) :=
  (fX1_blockAt l ((a1 - 1) + a2) a2 G).bind fun q1 => gm_el q1 (
    some none) fun t2 =>
    some (some t2)
def fX1_shuntBack (l p1 : Nat) (G : Gm) : Option (Int32 × Gm) :=
  (fX1_blockTo l (G 5 l p1 4) (G 5 l p1 2) G).bind fun q1 => gm_el q1 (
    (fX1_isLineFree l (G 5 l p1 4) (G 5 l p1 2) G).bind fun q4 =>
      if q4 = 0 then
        some ((-5), G)
      else
        (fX5_standAt l p1 0 (G 5 l p1 4) G).bind fun q6 =>
          some (0, q6)) fun t2 =>
    if (G 0 l t2 2) = 0 then
      (fX1_isLineFree l (G 5 l p1 4) (G 5 l p1 2) G).bind fun q9 =>
        if q9 = 0 then
          some ((-5), G)
        else
          (fX5_standAt l p1 0 (G 5 l p1 4) G).bind fun q11 =>
            some (0, q11)
    else
      if (G 0 l t2 2) = 3 then
        (fX1_isLineFree l (G 5 l p1 4) (G 5 l p1 2) G).bind fun q14 =>
          if q14 = 0 then
            some ((-5), G)
          else
            (fX5_standAt l p1 0 (G 5 l p1 4) G).bind fun q16 =>
              some (0, q16)
      else
        some ((-5), G)
def fX1_shuntTrain (l p1 : Nat) (G : Gm) : Option (Int32 × Gm) :=
  if (G 5 l p1 3) = 0 then
    (fX1_shuntToLoop l p1 G).bind fun q2 =>
      some (q2.1, q2.2)
  else
    if (G 5 l p1 3) = 1 then
      (fX1_shuntBack l p1 G).bind fun q4 =>
        some (q4.1, q4.2)
    else
      some ((-5), G)
def fX1_lastBox (l : Nat) (a1 : Int32) (G : Gm) : Option (Int32) :=
  (fX1_firstBox l (1 - a1) G).bind fun q1 =>
    some q1
def fX1_letLeave (l p1 : Nat) (G : Gm) : Option (Int32 × Gm) :=
  (fX1_lastBox l (G 5 l p1 2) G).bind fun q1 =>
    (fX5_stands l p1 0 q1 (G 5 l p1 2) G).bind fun q2 =>
      if q2 = 0 then
        some ((-5), G)
      else
        (fX5_go l p1 (G 1 l 0 7) G).bind fun q4 =>
          some (((q4 1 l 0 7) - (q4 5 l p1 7)), q4)
def fX1_divideTrain (l p1 : Nat) (G : Gm) : Option (Int32 × Gm) :=
  if (G 5 l p1 3) = 2 then
    (fX1_blockAt l (G 5 l p1 4) (G 5 l p1 2) G).bind fun q2 => gm_el q2 (
      some ((-5), G)) fun t3 =>
      if (G 5 l p1 6) = 0 then
        some ((-5), G)
      else
        some ((nI (t3 / 2)), (gm_up (gm_up G 5 l p1 6 0) 0 l t3 5 1))
  else
    some ((-5), G)
def fX6_offerCode (a0 : Int32) : Option (Int32) :=
  if a0 = 1 then
    some 4
  else
    if a0 = 2 then
      some 31
    else
      if a0 = 3 then
        some 5
      else
        if a0 = 4 then
          some 32
        else
          some 41
def fX1_ringRear (l p1 : Nat) (a2 : Int32) (G : Gm) : Option (Int32 × Gm) :=
  (fX0_rearBox l p1 G).bind fun q1 =>
    (fX3_record l p1 (G 1 l 0 7) q1 a2 G).bind fun q2 =>
      some (a2, q2)
def fX1_offerTrain (l p1 : Nat) (G : Gm) : Option (Int32 × Gm) :=
  (fX1_nextBlock l p1 G).bind fun q1 => gm_el q1 (
    some ((-5), G)) fun t2 =>
    if (G 0 l t2 2) = 0 then
      if (G 0 l t2 3) = (-6) then
        (fX6_offerCode ((gm_up G 0 l t2 3 (nI p1)) 5 l p1 1)).bind fun q5 =>
          (fX1_ringRear l t2 q5 (gm_up G 0 l t2 3 (nI p1))).bind fun q6 =>
            some (q6.1, q6.2)
      else
        some ((-5), G)
    else
      some ((-5), G)
def fX1_isTokenReady (l p1 : Nat) (G : Gm) : Option (Int32) :=
  if (G 4 l (p1 / 2) 1) = 0 then
    some 1
  else
    (fX1_blockAt l (nI (p1 / 2)) (1 - (nI (p1 % 2))) G).bind fun q2 => gm_el q2 (
      some 0) fun t3 =>
      if (G 0 l t3 2) = 0 then
        if (G 4 l (p1 / 2) 5) = 0 then
          (fX0_rearEnd l p1 G).bind fun q8 =>
            (fX4_hasToken l (p1 / 2) q8 G).bind fun q9 =>
              if q9 = 0 then
                some 0
              else
                some 1
        else
          some 0
      else
        some 0
def fX1_ringAhead (l p1 : Nat) (a2 : Int32) (G : Gm) : Option (Int32 × Gm) :=
  (fX0_boxAhead l p1 G).bind fun q1 =>
    (fX3_record l p1 (G 1 l 0 7) q1 a2 G).bind fun q2 =>
      some (a2, q2)
def fX1_accept (l p1 : Nat) (G : Gm) : Option (Int32 × Gm) :=
  (fX1_trainAt l (G 0 l p1 3) G).bind fun q1 => gm_el q1 (
    some ((-5), G)) fun t2 =>
    (fX0_boxAhead l p1 G).bind fun q3 =>
      (fX1_isLineFree l q3 (nI (p1 % 2)) G).bind fun q4 =>
        if q4 = 0 then
          some ((-5), G)
        else
          (fX1_isTokenReady l p1 G).bind fun q6 =>
            if q6 = 0 then
              some ((-5), G)
            else
              (fX0_makeClear l p1 G).bind fun q8 =>
                (fX6_offerCode (q8 5 l t2 1)).bind fun q9 =>
                  (fX1_ringAhead l p1 q9 q8).bind fun q10 =>
                    some (q10.1, q10.2)
def fX1_refuse (l p1 : Nat) (G : Gm) : Option (Int32 × Gm) :=
  if (G 0 l p1 3) = (-6) then
    some ((-5), G)
  else
    (fX1_ringAhead l p1 1 (gm_up G 0 l p1 3 (-6))).bind fun q2 =>
      some (q2.1, q2.2)
def fX1_cancelBlock (l p1 : Nat) (G : Gm) : Option (Int32 × Gm) :=
  if (G 0 l p1 3) = (-6) then
    if (G 0 l p1 2) = 1 then
      (fX0_takeBack l p1 0 G).bind fun q3 =>
        (fX1_ringRear l p1 35 q3).bind fun q4 =>
          some (q4.1, q4.2)
    else
      some ((-5), G)
  else
    (fX0_takeBack l p1 0 G).bind fun q5 =>
      (fX1_ringRear l p1 35 q5).bind fun q6 =>
        some (q6.1, q6.2)
def fX1_letDepart (l p1 : Nat) (G : Gm) : Option (Int32 × Gm) :=
  (fX1_nextBlock l p1 G).bind fun q1 => gm_el q1 (
    some ((-5), G)) fun t2 =>
    if (G 0 l t2 2) = 1 then
      if (G 0 l t2 4) = (nI p1) then
        (fX5_enter l p1 (t2 / 2) (gm_up G 0 l t2 2 2)).bind fun q5 =>
          (fX1_ringRear l t2 2 q5).bind fun q6 =>
            some ((q6.2 5 l p1 5), q6.2)
      else
        some ((-5), G)
    else
      some ((-5), G)
def fX1_trainInside (l p1 : Nat) (G : Gm) : Option (Option Nat) :=
  if (G 0 l p1 2) = 2 then
    (fX1_trainAt l (G 0 l p1 4) G).bind fun q2 => gm_el q2 (
      some none) fun t3 =>
      if (G 5 l t3 3) = 2 then
        if (G 5 l t3 4) = (nI (p1 / 2)) then
          some (some t3)
        else
          some none
      else
        some none
  else
    some none
def fX1_admitTrain (l p1 : Nat) (G : Gm) : Option (Int32 × Gm) :=
  (fX1_trainInside l p1 G).bind fun q1 => gm_el q1 (
    some ((-5), G)) fun t2 =>
    if 0 < (G 5 l t2 5) then
      some ((-5), G)
    else
      (fX0_boxAhead l p1 G).bind fun q4 =>
        (fX1_isLineFree l q4 (nI (p1 % 2)) G).bind fun q5 =>
          if q5 = 0 then
            some ((-5), G)
          else
            (fX0_boxAhead l p1 G).bind fun q7 =>
              (fX5_standAt l t2 0 q7 G).bind fun q8 =>
                some ((nI t2), q8)
def fX1_reportOut (l p1 : Nat) (G : Gm) : Option (Int32 × Gm) :=
  if (G 0 l p1 2) = 2 then
    if (G 0 l p1 5) = 0 then
      (fX1_trainInside l p1 G).bind fun q3 => gm_el q3 (
        (fX0_makeFree l p1 G).bind fun q5 =>
          (fX1_ringAhead l p1 21 q5).bind fun q6 =>
            some (q6.1, q6.2)) fun t4 =>
        some ((-5), G)
    else
      some ((-5), G)
  else
    some ((-5), G)
def fX1_sendEngine (l p1 : Nat) (G : Gm) : Option (Int32 × Gm) :=
  if (G 0 l p1 5) = 0 then
    some ((-5), G)
  else
    if 0 < (G 0 l p1 6) then
      some ((-5), G)
    else
      (fX1_trainInside l p1 G).bind fun q3 => gm_el q3 (
        (fX1_ringRear l p1 22 (gm_up G 0 l p1 6 (2 * (G 4 l (p1 / 2) 2)))).bind fun q5 =>
          some ((q5.2 0 l p1 6), q5.2)) fun t4 =>
        some ((-5), G)
def fX1_obstructBlock (l p1 : Nat) (G : Gm) : Option (Int32 × Gm) :=
  if (G 0 l p1 2) = 0 then
    (fX0_takeBack l p1 3 G).bind fun q2 =>
      (fX1_ringAhead l p1 6 q2).bind fun q3 =>
        some ((G 0 l p1 2), q3.2)
  else
    if (G 0 l p1 2) = 1 then
      (fX0_takeBack l p1 3 G).bind fun q5 =>
        (fX1_ringAhead l p1 6 q5).bind fun q6 =>
          some ((G 0 l p1 2), q6.2)
    else
      some ((-5), G)
def fX1_liftBlock (l p1 : Nat) (G : Gm) : Option (Int32 × Gm) :=
  if (G 0 l p1 2) = 3 then
    (fX1_ringAhead l p1 13 (gm_up G 0 l p1 2 0)).bind fun q2 =>
      some (q2.1, q2.2)
  else
    some ((-5), G)
def fX1_blockCount (l : Nat) (G : Gm) : Option (Int32) :=
  some (2 * ((G 1 l 0 5) - 1))
def fX1_letPass_h28 (l : Nat) (a1 : Int32) : Nat → Int32 → Gm → Option (Gm)
  | 0, _, _ => none
  | n28 + 1, v2, G =>
    (fX1_blockCount l G).bind fun q2 =>
      if q2 ≤ v2 then
        some (gm_up G 1 l 0 7 ((G 1 l 0 7) + a1))
      else
        gm_gi v2 10 fun z4 =>
        (fX0_letPass l z4 a1 G).bind fun q5 =>
          fX1_letPass_h28 l a1 n28 (v2 + 1) q5
def fX1_letPass_h2 (l : Nat) (a1 : Int32) : Nat → Int32 → Gm → Option (Gm)
  | 0, _, _ => none
  | n2 + 1, v2, G =>
    if (G 1 l 0 6) ≤ v2 then
      fX1_letPass_h28 l a1 6000 0 G
    else
      gm_gi v2 12 fun z6 =>
      (fX5_letPass l z6 a1 G).bind fun q7 =>
        fX1_letPass_h2 l a1 n2 (v2 + 1) q7
def fX1_letPass (l : Nat) (a1 : Int32) (G : Gm) : Option (Gm) :=
  fX1_letPass_h2 l a1 6000 0 G
def fX1_clearSections_h55 (l : Nat) : Nat → Int32 → Int32 → Gm → Option (Gm)
  | 0, _, _, _ => none
  | n55 + 1, v1, v2, G =>
    if v1 ≤ v2 then
      some G
    else
      gm_gi v2 10 fun z5 =>
      (fX1_admitTrain l z5 G).bind fun q6 =>
        fX1_clearSections_h55 l n55 v1 (v2 + 1) q6.2
def fX1_clearSections_h31 (l : Nat) : Nat → Int32 → Int32 → Gm → Option (Gm)
  | 0, _, _, _ => none
  | n31 + 1, v1, v2, G =>
    if v1 ≤ v2 then
      fX1_clearSections_h55 l 6000 v1 0 G
    else
      gm_gi v2 10 fun z7 =>
      (fX1_sendEngine l z7 G).bind fun q8 =>
        fX1_clearSections_h31 l n31 v1 (v2 + 1) q8.2
def fX1_clearSections_h7 (l : Nat) : Nat → Int32 → Int32 → Gm → Option (Gm)
  | 0, _, _, _ => none
  | n7 + 1, v1, v2, G =>
    if v1 ≤ v2 then
      fX1_clearSections_h31 l 6000 v1 0 G
    else
      gm_gi v2 10 fun z9 =>
      (fX1_reportOut l z9 G).bind fun q10 =>
        fX1_clearSections_h7 l n7 v1 (v2 + 1) q10.2
def fX1_clearSections (l : Nat) (G : Gm) : Option (Gm) :=
  (fX1_blockCount l G).bind fun q1 =>
    fX1_clearSections_h7 l 6000 q1 0 G
def fX1_leaveAll_h4 (l : Nat) : Nat → Int32 → Int32 → Gm → Option (Int32 × Gm)
  | 0, _, _, _ => none
  | n4 + 1, v1, v2, G =>
    if (G 1 l 0 6) ≤ v2 then
      some (v1, G)
    else
      gm_gi v2 12 fun z2 =>
      (fX1_letLeave l z2 G).bind fun q3 =>
        if q3.1 < 0 then
          fX1_leaveAll_h4 l n4 v1 (v2 + 1) q3.2
        else
          fX1_leaveAll_h4 l n4 (v1 + 1) (v2 + 1) q3.2
def fX1_leaveAll (l : Nat) (G : Gm) : Option (Int32 × Gm) :=
  fX1_leaveAll_h4 l 6000 0 0 G
def fX1_offerAll_h2 (l : Nat) : Nat → Int32 → Gm → Option (Gm)
  | 0, _, _ => none
  | n2 + 1, v1, G =>
    if (G 1 l 0 6) ≤ v1 then
      some G
    else
      gm_gi v1 12 fun z2 =>
      (fX1_offerTrain l z2 G).bind fun q3 =>
        fX1_offerAll_h2 l n2 (v1 + 1) q3.2
def fX1_offerAll (l : Nat) (G : Gm) : Option (Gm) :=
  fX1_offerAll_h2 l 6000 0 G
def fX1_answerAll_h2 (l : Nat) : Nat → Int32 → Gm → Option (Gm)
  | 0, _, _ => none
  | n2 + 1, v1, G =>
    (fX1_blockCount l G).bind fun q1 =>
      if q1 ≤ v1 then
        some G
      else
        gm_gi v1 10 fun z3 =>
        (fX1_accept l z3 G).bind fun q4 =>
          if 0 ≤ q4.1 then
            fX1_answerAll_h2 l n2 (v1 + 1) q4.2
          else
            gm_gi v1 10 fun z6 =>
            (fX1_refuse l z6 q4.2).bind fun q7 =>
              fX1_answerAll_h2 l n2 (v1 + 1) q7.2
def fX1_answerAll (l : Nat) (G : Gm) : Option (Gm) :=
  fX1_answerAll_h2 l 6000 0 G
def fX1_departAll_h2 (l : Nat) : Nat → Int32 → Gm → Option (Gm)
  | 0, _, _ => none
  | n2 + 1, v1, G =>
    if (G 1 l 0 6) ≤ v1 then
      some G
    else
      gm_gi v1 12 fun z2 =>
      (fX1_letDepart l z2 G).bind fun q3 =>
        fX1_departAll_h2 l n2 (v1 + 1) q3.2
def fX1_departAll (l : Nat) (G : Gm) : Option (Gm) :=
  fX1_departAll_h2 l 6000 0 G
def fX1_workTick (l : Nat) (G : Gm) : Option (Int32 × Gm) :=
  (fX1_clearSections l G).bind fun q1 =>
    (fX1_leaveAll l q1).bind fun q2 =>
      (fX1_offerAll l q2.2).bind fun q3 =>
        (fX1_answerAll l q3).bind fun q4 =>
          (fX1_departAll l q4).bind fun q5 =>
            (fX1_letPass l 1 q5).bind fun q6 =>
              some (q2.1, q6)
def fX1_copyFrom_h83 (l m1 : Nat) : Nat → Int32 → Gm → Option (Gm)
  | 0, _, _ => none
  | n83 + 1, v2, G =>
    if 12 ≤ v2 then
      (fX3_copyFrom l m1 (gm_cp G m1 0 l 0 12)).bind fun q4 =>
        some q4
    else
      gm_gi v2 12 fun z5 =>
      gm_gi v2 12 fun z6 =>
      (fX5_copyFrom l z5 m1 z6 G).bind fun q7 =>
        fX1_copyFrom_h83 l m1 n83 (v2 + 1) q7
def fX1_copyFrom_h54 (l m1 : Nat) : Nat → Int32 → Gm → Option (Gm)
  | 0, _, _ => none
  | n54 + 1, v2, G =>
    if 10 ≤ v2 then
      fX1_copyFrom_h83 l m1 6000 0 G
    else
      gm_gi v2 10 fun z8 =>
      gm_gi v2 10 fun z9 =>
      (fX0_copyFrom l z8 m1 z9 G).bind fun q10 =>
        fX1_copyFrom_h54 l m1 n54 (v2 + 1) q10
def fX1_copyFrom_h26 (l m1 : Nat) : Nat → Int32 → Gm → Option (Gm)
  | 0, _, _ => none
  | n26 + 1, v2, G =>
    if 5 ≤ v2 then
      fX1_copyFrom_h54 l m1 6000 0 G
    else
      gm_gi v2 5 fun z11 =>
      gm_gi v2 5 fun z12 =>
      (fX4_copyFrom l z11 m1 z12 G).bind fun q13 =>
        fX1_copyFrom_h26 l m1 n26 (v2 + 1) q13
def fX1_copyFrom (l m1 : Nat) (G : Gm) : Option (Gm) :=
  fX1_copyFrom_h26 l m1 6000 0 (gm_up (gm_up (gm_up G 1 l 0 5 (G 1 m1 0 5)) 1 l 0 6 ((gm_up G 1 l 0 5 (G 1 m1 0 5)) 1 m1 0 6)) 1 l 0 7 ((gm_up (gm_up G 1 l 0 5 (G 1 m1 0 5)) 1 l 0 6 ((gm_up G 1 l 0 5 (G 1 m1 0 5)) 1 m1 0 6)) 1 m1 0 7))
def fX1_isGone (l : Nat) (a1 : Int32) (G : Gm) : Option (Int32) :=
  (fX1_trainAt l a1 G).bind fun q1 => gm_el q1 (
    some 0) fun t2 =>
    if (G 5 l t2 3) = 3 then
      some 1
    else
      some 0
def fX1_bringSpare_h19 (l : Nat) (a1 a2 : Int32) : Nat → Int32 → Int32 → Gm → Option (Gm)
  | 0, _, _, _ => none
  | n19 + 1, v3, v4, G =>
    if (G 1 l 0 6) ≤ v4 then
      (fX1_bringNew l a1 a2 G).bind fun q5 =>
        some q5.2
    else
      gm_gi v4 12 fun z6 =>
      if (G 5 l z6 3) = 3 then
        gm_gi v4 12 fun z8 =>
        (fX5_start l z8 a1 a2 v3 (G 1 l 0 7) G).bind fun q9 =>
          some q9
      else
        fX1_bringSpare_h19 l a1 a2 n19 v3 (v4 + 1) G
def fX1_bringSpare (l : Nat) (a1 a2 : Int32) (G : Gm) : Option (Gm) :=
  (fX1_firstBox l a2 G).bind fun q1 =>
    (fX1_isLineFree l q1 a2 G).bind fun q2 =>
      if q2 = 0 then
        some G
      else
        fX1_bringSpare_h19 l a1 a2 6000 q1 0 G
def fX1_trainsThatAre_h4 (l : Nat) (a1 : Int32) (G : Gm) : Nat → Int32 → Int32 → Option (Int32)
  | 0, _, _ => none
  | n4 + 1, v2, v3 =>
    if (G 1 l 0 6) ≤ v3 then
      some v2
    else
      gm_gi v3 12 fun z2 =>
      if (G 5 l z2 3) = a1 then
        fX1_trainsThatAre_h4 l a1 G n4 (v2 + 1) (v3 + 1)
      else
        fX1_trainsThatAre_h4 l a1 G n4 v2 (v3 + 1)
def fX1_trainsThatAre (l : Nat) (a1 : Int32) (G : Gm) : Option (Int32) :=
  fX1_trainsThatAre_h4 l a1 G 6000 0 0
def fX1_blocksOtherThan_h5 (l : Nat) (a1 a2 : Int32) (G : Gm) : Nat → Int32 → Int32 → Option (Int32)
  | 0, _, _ => none
  | n5 + 1, v3, v4 =>
    (fX1_blockCount l G).bind fun q1 =>
      if q1 ≤ v4 then
        some v3
      else
        gm_gi v4 10 fun z3 =>
        (fX0_property l z3 a1 G).bind fun q4 =>
          if q4 = a2 then
            fX1_blocksOtherThan_h5 l a1 a2 G n5 v3 (v4 + 1)
          else
            fX1_blocksOtherThan_h5 l a1 a2 G n5 (v3 + 1) (v4 + 1)
def fX1_blocksOtherThan (l : Nat) (a1 a2 : Int32) (G : Gm) : Option (Int32) :=
  fX1_blocksOtherThan_h5 l a1 a2 G 6000 0 0
def fX6_setUp (a1 a2 : Int32) (G : Gm) : Option (Int32 × Gm) :=
  if a1 < 2 then
    some ((-2), G)
  else
    if 6 < a1 then
      some ((-2), G)
    else
      if a2 < 0 then
        some ((-2), G)
      else
        if a2 < (1 <<< ((a1 - 1) &&& 31)) then
          (fX1_layOut 0 a1 a2 G).bind fun q5 =>
            some ((G 1 0 0 6), q5)
        else
          some ((-2), G)
def fX6_setTime (a1 a2 : Int32) (G : Gm) : Option (Int32 × Gm) :=
  (fX1_sectionAt 0 a1 G).bind fun q1 => gm_el q1 (
    some ((-1), G)) fun t2 =>
    if a2 < 1 then
      some ((-2), G)
    else
      if a2 ≤ 30 then
        some ((G 4 0 t2 2), (gm_up G 4 0 t2 2 a2))
      else
        some ((-2), G)
def fX6_setLoops (a1 a2 a3 : Int32) (G : Gm) : Option (Int32 × Gm) :=
  (fX1_hasBox 0 a1 G).bind fun q1 =>
    if q1 = 0 then
      some ((-1), G)
    else
      (fX6_isDirection a2).bind fun q3 =>
        if q3 = 0 then
          some ((-1), G)
        else
          if a3 < 0 then
            some ((-2), G)
          else
            if a3 ≤ 3 then
              (fX1_changeLoops 0 a1 a2 a3 G).bind fun q7 =>
                some (q7.1, q7.2)
            else
              some ((-2), G)
def fX6_moveTokens (a1 a2 : Int32) (G : Gm) : Option (Int32 × Gm) :=
  (fX1_sectionAt 0 a1 G).bind fun q1 => gm_el q1 (
    some ((-1), G)) fun t2 =>
    if a2 < (-10) then
      some ((-2), G)
    else
      if a2 ≤ 10 then
        (fX4_moveUp 0 t2 a2 G).bind fun q5 =>
          some (q5.1, q5.2)
      else
        some ((-2), G)
def fX6_section (a1 a2 : Int32) (G : Gm) : Option (Int32) :=
  (fX1_sectionAt 0 a1 G).bind fun q1 => gm_el q1 (
    some (-1)) fun t2 =>
    (fX4_property 0 t2 a2 G).bind fun q3 =>
      some q3
def fX6_block (a1 a2 a3 : Int32) (G : Gm) : Option (Int32) :=
  (fX1_blockAt 0 a1 a2 G).bind fun q1 => gm_el q1 (
    some (-1)) fun t2 =>
    (fX0_property 0 t2 a3 G).bind fun q3 =>
      some q3
def fX6_isKind (a0 : Int32) : Option (Int32) :=
  if a0 < 1 then
    some 0
  else
    if 5 < a0 then
      some 0
    else
      some 1
def fX6_appear (a1 a2 : Int32) (G : Gm) : Option (Int32 × Gm) :=
  (fX6_isKind a1).bind fun q1 =>
    if q1 = 0 then
      some ((-2), G)
    else
      (fX6_isDirection a2).bind fun q3 =>
        if q3 = 0 then
          some ((-2), G)
        else
          if (G 1 0 0 6) < 12 then
            (fX1_bringNew 0 a1 a2 G).bind fun q6 =>
              some (q6.1, q6.2)
          else
            some ((-4), G)
def fX6_train (a1 a2 : Int32) (G : Gm) : Option (Int32) :=
  (fX1_trainAt 0 a1 G).bind fun q1 => gm_el q1 (
    some (-1)) fun t2 =>
    (fX5_property 0 t2 a2 G).bind fun q3 =>
      some q3
def fX6_shunt (a1 : Int32) (G : Gm) : Option (Int32 × Gm) :=
  (fX1_trainAt 0 a1 G).bind fun q1 => gm_el q1 (
    some ((-1), G)) fun t2 =>
    (fX1_shuntTrain 0 t2 G).bind fun q3 =>
      some (q3.1, q3.2)
def fX6_leave (a1 : Int32) (G : Gm) : Option (Int32 × Gm) :=
  (fX1_trainAt 0 a1 G).bind fun q1 => gm_el q1 (
    some ((-1), G)) fun t2 =>
    (fX1_letLeave 0 t2 G).bind fun q3 =>
      some (q3.1, q3.2)
def fX6_divide (a1 : Int32) (G : Gm) : Option (Int32 × Gm) :=
  (fX1_trainAt 0 a1 G).bind fun q1 => gm_el q1 (
    some ((-1), G)) fun t2 =>
    (fX1_divideTrain 0 t2 G).bind fun q3 =>
      some (q3.1, q3.2)
def fX6_offer (a1 : Int32) (G : Gm) : Option (Int32 × Gm) :=
  (fX1_trainAt 0 a1 G).bind fun q1 => gm_el q1 (
    some ((-1), G)) fun t2 =>
    (fX1_offerTrain 0 t2 G).bind fun q3 =>
      some (q3.1, q3.2)
def fX6_answer (a1 a2 a3 : Int32) (G : Gm) : Option (Int32 × Gm) :=
  (fX1_blockAt 0 a1 a2 G).bind fun q1 => gm_el q1 (
    some ((-1), G)) fun t2 =>
    if a3 = 0 then
      (fX1_refuse 0 t2 G).bind fun q4 =>
        some (q4.1, q4.2)
    else
      (fX1_accept 0 t2 G).bind fun q5 =>
        some (q5.1, q5.2)
def fX6_cancel (a1 a2 : Int32) (G : Gm) : Option (Int32 × Gm) :=
  (fX1_blockAt 0 a1 a2 G).bind fun q1 => gm_el q1 (
    some ((-1), G)) fun t2 =>
    (fX1_cancelBlock 0 t2 G).bind fun q3 =>
      some (q3.1, q3.2)
def fX6_depart (a1 : Int32) (G : Gm) : Option (Int32 × Gm) :=
  (fX1_trainAt 0 a1 G).bind fun q1 => gm_el q1 (
    some ((-1), G)) fun t2 =>
    (fX1_letDepart 0 t2 G).bind fun q3 =>
      some (q3.1, q3.2)
def fX6_admit (a1 a2 : Int32) (G : Gm) : Option (Int32 × Gm) :=
  (fX1_blockAt 0 a1 a2 G).bind fun q1 => gm_el q1 (
    some ((-1), G)) fun t2 =>
    (fX1_admitTrain 0 t2 G).bind fun q3 =>
      some (q3.1, q3.2)
def fX6_out (a1 a2 : Int32) (G : Gm) : Option (Int32 × Gm) :=
  (fX1_blockAt 0 a1 a2 G).bind fun q1 => gm_el q1 (
    some ((-1), G)) fun t2 =>
    (fX1_reportOut 0 t2 G).bind fun q3 =>
      some (q3.1, q3.2)
def fX6_assist (a1 a2 : Int32) (G : Gm) : Option (Int32 × Gm) :=
  (fX1_blockAt 0 a1 a2 G).bind fun q1 => gm_el q1 (
    some ((-1), G)) fun t2 =>
    (fX1_sendEngine 0 t2 G).bind fun q3 =>
      some (q3.1, q3.2)
def fX6_obstruct (a1 a2 : Int32) (G : Gm) : Option (Int32 × Gm) :=
  (fX1_blockAt 0 a1 a2 G).bind fun q1 => gm_el q1 (
    some ((-1), G)) fun t2 =>
    (fX1_obstructBlock 0 t2 G).bind fun q3 =>
      some (q3.1, q3.2)
def fX6_lift (a1 a2 : Int32) (G : Gm) : Option (Int32 × Gm) :=
  (fX1_blockAt 0 a1 a2 G).bind fun q1 => gm_el q1 (
    some ((-1), G)) fun t2 =>
    (fX1_liftBlock 0 t2 G).bind fun q3 =>
      some (q3.1, q3.2)
def fX6_pass (a1 : Int32) (G : Gm) : Option (Int32 × Gm) :=
  if a1 < 1 then
    some ((-2), G)
  else
    if a1 ≤ 1000 then
      if ((G 1 0 0 7) + a1) ≤ 1000000 then
        (fX1_letPass 0 a1 G).bind fun q4 =>
          some ((q4 1 0 0 7), q4)
      else
        some ((-5), G)
    else
      some ((-2), G)
def fX6_signal (a1 a2 : Int32) (G : Gm) : Option (Int32) :=
  if a2 < 0 then
    some (-2)
  else
    if a2 < 5 then
      (fX3_property 0 a1 a2 G).bind fun q3 =>
        some q3
    else
      some (-2)
def fX6_rung (a1 a2 : Int32) (G : Gm) : Option (Int32) :=
  if a2 = (-1) then
    (fX3_countOf 0 a1 a2 G).bind fun q2 =>
      some q2
  else
    (fX1_sectionAt 0 a2 G).bind fun q3 => gm_el q3 (
      some (-1)) fun t4 =>
      (fX3_countOf 0 a1 a2 G).bind fun q5 =>
        some q5
def fX6_work_h36 (a1 : Int32) : Nat → Int32 → Int32 → Gm → Option (Int32 × Gm)
  | 0, _, _, _ => none
  | n36 + 1, v2, v3, G =>
    if a1 ≤ v3 then
      some (v2, G)
    else
      (fX1_workTick 0 G).bind fun q5 =>
        fX6_work_h36 a1 n36 (v2 + q5.1) (v3 + 1) q5.2
def fX6_work (a1 : Int32) (G : Gm) : Option (Int32 × Gm) :=
  if a1 < 1 then
    some ((-2), G)
  else
    if a1 ≤ 300 then
      if ((G 1 0 0 7) + a1) ≤ 1000000 then
        fX6_work_h36 a1 6000 0 0 G
      else
        some ((-5), G)
    else
      some ((-2), G)
def fX6_forecast_h41 (a1 a2 : Int32) : Nat → Int32 → Gm → Option (Int32 × Gm)
  | 0, _, _ => none
  | n41 + 1, v3, G =>
    if a2 ≤ v3 then
      (fX1_isGone 1 a1 G).bind fun q7 =>
        if q7 = 0 then
          some ((-6), G)
        else
          some (a2, G)
    else
      (fX1_isGone 1 a1 G).bind fun q9 =>
        if q9 = 0 then
          (fX1_workTick 1 G).bind fun q11 =>
            fX6_forecast_h41 a1 a2 n41 (v3 + 1) q11.2
        else
          some (v3, G)
def fX6_forecast (a1 a2 : Int32) (G : Gm) : Option (Int32 × Gm) :=
  (fX1_trainAt 0 a1 G).bind fun q1 => gm_el q1 (
    some ((-1), G)) fun t2 =>
    if a2 < 1 then
      some ((-2), G)
    else
      if a2 ≤ 500 then
        (fX1_copyFrom 1 0 G).bind fun q5 =>
          fX6_forecast_h41 a1 a2 6000 0 q5
      else
        some ((-2), G)
def fX6_capacity_h53 (a1 a2 a3 : Int32) : Nat → Int32 → Int32 → Gm → Option (Int32 × Gm)
  | 0, _, _, _ => none
  | n53 + 1, v4, v5, G =>
    if a3 ≤ v5 then
      some (v4, G)
    else
      (fX1_bringSpare 1 a1 a2 G).bind fun q10 =>
        (fX1_workTick 1 q10).bind fun q11 =>
          fX6_capacity_h53 a1 a2 a3 n53 (v4 + q11.1) (v5 + 1) q11.2
def fX6_capacity (a1 a2 a3 : Int32) (G : Gm) : Option (Int32 × Gm) :=
  (fX6_isKind a1).bind fun q1 =>
    if q1 = 0 then
      some ((-2), G)
    else
      (fX6_isDirection a2).bind fun q3 =>
        if q3 = 0 then
          some ((-2), G)
        else
          if a3 < 1 then
            some ((-2), G)
          else
            if a3 ≤ 300 then
              (fX1_copyFrom 1 0 G).bind fun q7 =>
                (fX1_clearTraffic 1 q7).bind fun q8 =>
                  fX6_capacity_h53 a1 a2 a3 6000 0 0 q8
            else
              some ((-2), G)
def fX6_say (a1 : Int32) (G : Gm) : Option (Int32 × Gm) :=
  if a1 < 33 then
    some ((-2), G)
  else
    if a1 ≤ 126 then
      (fX2_append a1 G).bind fun q3 =>
        some (q3.1, q3.2)
    else
      some ((-2), G)
def fX6_wipe (G : Gm) : Option (Int32 × Gm) :=
  (fX2_empty G).bind fun q1 =>
    some (q1.1, q1.2)
def fX6_fault (G : Gm) : Option (Int32) :=
  (fX2_firstFault G).bind fun q1 =>
    some q1
def fX6_obey (a1 a2 a3 : Int32) (G : Gm) : Option (Int32 × Gm) :=
  if a1 = 97 then
    (fX6_admit a2 a3 G).bind fun q22 =>
      some (q22.1, q22.2)
  else
    if a1 = 99 then
      (fX6_cancel a2 a3 G).bind fun q21 =>
        some (q21.1, q21.2)
    else
      if a1 = 100 then
        (fX6_depart a2 G).bind fun q20 =>
          some (q20.1, q20.2)
      else
        if a1 = 101 then
          (fX6_assist a2 a3 G).bind fun q19 =>
            some (q19.1, q19.2)
        else
          if a1 = 108 then
            (fX6_leave a2 G).bind fun q18 =>
              some (q18.1, q18.2)
          else
            if a1 = 110 then
              (fX6_answer a2 a3 0 G).bind fun q17 =>
                some (q17.1, q17.2)
            else
              if a1 = 111 then
                (fX6_offer a2 G).bind fun q16 =>
                  some (q16.1, q16.2)
              else
                if a1 = 115 then
                  (fX6_shunt a2 G).bind fun q15 =>
                    some (q15.1, q15.2)
                else
                  if a1 = 116 then
                    (fX6_pass a2 G).bind fun q14 =>
                      some (q14.1, q14.2)
                  else
                    if a1 = 117 then
                      (fX6_out a2 a3 G).bind fun q13 =>
                        some (q13.1, q13.2)
                    else
                      if a1 = 121 then
                        (fX6_answer a2 a3 1 G).bind fun q12 =>
                          some (q12.1, q12.2)
                      else
                        some ((-3), G)
def fX6_carryOut_h26 : Nat → Int32 → Int32 → Gm → Option (Int32 × Gm)
  | 0, _, _, _ => none
  | n26 + 1, v1, v2, G =>
    if 60 ≤ v2 then
      (fX2_empty G).bind fun q5 =>
        some (v1, q5.2)
    else
      (fX2_readOrder G).bind fun q6 =>
        if q6.1 = 0 then
          (fX2_empty q6.2).bind fun q8 =>
            some (v1, q8.2)
        else
          (fX6_obey (q6.2 2 4 0 3) (q6.2 2 4 0 4) (q6.2 2 4 0 5) q6.2).bind fun q9 =>
            if 0 ≤ q9.1 then
              fX6_carryOut_h26 n26 (v1 + 1) (v2 + 1) q9.2
            else
              (fX2_empty q9.2).bind fun q11 =>
                some (v1, q11.2)
def fX6_carryOut (G : Gm) : Option (Int32 × Gm) :=
  (fX2_firstFault G).bind fun q1 =>
    if q1 = (-6) then
      (fX2_rewind G).bind fun q3 =>
        fX6_carryOut_h26 6000 0 0 q3
    else
      some ((-3), G)
def fX6_count (a1 : Int32) (G : Gm) : Option (Int32) :=
  if a1 = 0 then
    some (G 1 0 0 7)
  else
    if a1 = 1 then
      some (G 1 0 0 6)
    else
      if a1 = 2 then
        (fX1_trainsThatAre 0 3 G).bind fun q15 =>
          some q15
      else
        if a1 = 3 then
          (fX1_trainsThatAre 0 2 G).bind fun q14 =>
            some q14
        else
          if a1 = 4 then
            some (G 3 0 0 1)
          else
            if a1 = 5 then
              (fX1_blocksOtherThan 0 0 0 G).bind fun q13 =>
                some q13
            else
              if a1 = 6 then
                some (G 1 0 0 5)
              else
                if a1 = 7 then
                  some (G 2 4 0 1)
                else
                  if a1 = 8 then
                    (fX1_blocksOtherThan 0 3 0 G).bind fun q12 =>
                      some q12
                  else
                    if a1 = 9 then
                      (fX1_blocksOtherThan 0 1 (-6) G).bind fun q11 =>
                        some q11
                    else
                      some (-2)
def fX6_save (a1 : Int32) (G : Gm) : Option (Int32 × Gm) :=
  if a1 < 0 then
    some ((-2), G)
  else
    if a1 < 2 then
      gm_gi a1 2 fun z3 =>
      (fX1_copyFrom (z3 + 2) 0 G).bind fun q4 =>
        gm_gi a1 2 fun z5 =>
        some (((gm_up q4 9 4 0 z5 1) 1 0 0 7), (gm_up q4 9 4 0 z5 1))
    else
      some ((-2), G)
def fX6_restore (a1 : Int32) (G : Gm) : Option (Int32 × Gm) :=
  if a1 < 0 then
    some ((-2), G)
  else
    if a1 < 2 then
      gm_gi a1 2 fun z3 =>
      if (G 9 4 0 z3) = 0 then
        some ((-5), G)
      else
        gm_gi a1 2 fun z5 =>
        (fX1_copyFrom 0 (z5 + 2) G).bind fun q6 =>
          some ((q6 1 0 0 7), q6)
    else
      some ((-2), G)
def fX7_layBlocks_h2 : Nat → Int32 → Gm → Option (Gm)
  | 0, _, _ => none
  | n2 + 1, v1, G =>
    if 10 ≤ v1 then
      some G
    else
      gm_gi ((30 + (5 * v1)) + 0) 2862 fun z2 =>
      gm_gi ((30 + (5 * v1)) + 1) 2862 fun z3 =>
      gm_gi ((30 + (5 * v1)) + 2) 2862 fun z4 =>
      gm_gi ((30 + (5 * v1)) + 3) 2862 fun z5 =>
      gm_gi ((30 + (5 * v1)) + 4) 2862 fun z6 =>
      fX7_layBlocks_h2 n2 (v1 + 1) (gm_up (gm_up (gm_up (gm_up (gm_up G 8 5 0 z2 0) 8 5 0 z3 (-6)) 8 5 0 z4 (-6)) 8 5 0 z5 0) 8 5 0 z6 0)
def fX7_layBlocks (G : Gm) : Option (Gm) :=
  fX7_layBlocks_h2 6000 0 G
def fX7_lay_h86 (a1 a2 : Int32) : Nat → Int32 → Gm → Option (Gm)
  | 0, _, _ => none
  | n86 + 1, v3, G =>
    if 12 ≤ v3 then
      (fX7_layBlocks G).bind fun q4 =>
        some q4
    else
      gm_gi (18 + v3) 2862 fun z5 =>
      fX7_lay_h86 a1 a2 n86 (v3 + 1) (gm_up G 8 5 0 z5 1)
def fX7_lay_h38 (a1 a2 : Int32) : Nat → Int32 → Gm → Option (Gm)
  | 0, _, _ => none
  | n38 + 1, v3, G =>
    if 5 ≤ v3 then
      fX7_lay_h86 a1 a2 6000 0 G
    else
      gm_gi (3 + v3) 2862 fun z6 =>
      gm_gi (8 + (2 * v3)) 2862 fun z7 =>
      gm_gi ((8 + (2 * v3)) + 1) 2862 fun z8 =>
      fX7_lay_h38 a1 a2 n38 (v3 + 1) (gm_up (gm_up (gm_up G 8 5 0 z6 5) 8 5 0 z7 5) 8 5 0 z8 5)
def fX7_lay_h2 (a1 a2 : Int32) : Nat → Int32 → Gm → Option (Gm)
  | 0, _, _ => none
  | n2 + 1, v3, G =>
    if 2862 ≤ v3 then
      fX7_lay_h38 a1 a2 6000 0 (gm_up (gm_up G 8 5 0 1 a1) 8 5 0 2 a2)
    else
      gm_gi v3 2862 fun z9 =>
      fX7_lay_h2 a1 a2 n2 (v3 + 1) (gm_up G 8 5 0 z9 0)
def fX7_lay (a1 a2 : Int32) (G : Gm) : Option (Gm) :=
  fX7_lay_h2 a1 a2 6000 0 G
def fX7_in (a0 a1 a2 : Int32) : Option (Int32) :=
  if a0 < a1 then
    some 0
  else
    if a2 < a0 then
      some 0
    else
      some 1
def fX7_setUp (a1 a2 : Int32) (G : Gm) : Option (Int32 × Gm) :=
  (fX7_in a1 2 6).bind fun q1 =>
    if q1 = 0 then
      some ((-2), G)
    else
      (fX7_in a2 0 ((1 <<< ((a1 - 1) &&& 31)) - 1)).bind fun q3 =>
        if q3 = 0 then
          some ((-2), G)
        else
          (fX7_lay a1 a2 G).bind fun q5 =>
            some ((G 8 5 0 381), q5)
def fX7_sections (G : Gm) : Option (Int32) :=
  some ((G 8 5 0 1) - 1)
def fX7_isSection (a1 : Int32) (G : Gm) : Option (Int32) :=
  (fX7_sections G).bind fun q1 =>
    (fX7_in a1 0 (q1 - 1)).bind fun q2 =>
      if q2 = 0 ∨ q2 = 1 then
        some q2
      else none
def fX7_setTime (a1 a2 : Int32) (G : Gm) : Option (Int32 × Gm) :=
  (fX7_isSection a1 G).bind fun q1 =>
    if q1 = 0 then
      some ((-1), G)
    else
      (fX7_in a2 1 30).bind fun q3 =>
        if q3 = 0 then
          some ((-2), G)
        else
          gm_gi (3 + a1) 2862 fun z5 =>
          gm_gi (3 + a1) 2862 fun z6 =>
          some ((G 8 5 0 z5), (gm_up G 8 5 0 z6 a2))
def fX7_isWay (a0 : Int32) : Option (Int32) :=
  (fX7_in a0 0 1).bind fun q1 =>
    if q1 = 0 ∨ q1 = 1 then
      some q1
    else none
def fX7_ofTrain (a1 a2 : Int32) (G : Gm) : Option (Int32) :=
  gm_gi ((382 + (8 * a1)) + a2) 2862 fun z1 =>
  some (G 8 5 0 z1)
def fX7_many_h6 (a1 a2 a3 : Int32) (G : Gm) : Nat → Int32 → Int32 → Option (Int32)
  | 0, _, _ => none
  | n6 + 1, v4, v5 =>
    if (G 8 5 0 381) ≤ v5 then
      some v4
    else
      (fX7_ofTrain v5 2 G).bind fun q2 =>
        if q2 = a3 then
          (fX7_ofTrain v5 3 G).bind fun q4 =>
            if q4 = a1 then
              (fX7_ofTrain v5 1 G).bind fun q6 =>
                if q6 = a2 then
                  fX7_many_h6 a1 a2 a3 G n6 (v4 + 1) (v5 + 1)
                else
                  fX7_many_h6 a1 a2 a3 G n6 (v4 + 0) (v5 + 1)
            else
              fX7_many_h6 a1 a2 a3 G n6 (v4 + 0) (v5 + 1)
        else
          fX7_many_h6 a1 a2 a3 G n6 (v4 + 0) (v5 + 1)
def fX7_many (a1 a2 a3 : Int32) (G : Gm) : Option (Int32) :=
  fX7_many_h6 a1 a2 a3 G 6000 0 0
def fX7_setLoops (a1 a2 a3 : Int32) (G : Gm) : Option (Int32 × Gm) :=
  (fX7_in a1 0 ((G 8 5 0 1) - 1)).bind fun q1 =>
    if q1 = 0 then
      some ((-1), G)
    else
      (fX7_isWay a2).bind fun q3 =>
        if q3 = 0 then
          some ((-1), G)
        else
          (fX7_in a3 0 3).bind fun q5 =>
            if q5 = 0 then
              some ((-2), G)
            else
              (fX7_many a1 a2 1 G).bind fun q7 =>
                if q7 ≤ a3 then
                  gm_gi ((18 + (2 * a1)) + a2) 2862 fun z9 =>
                  gm_gi ((18 + (2 * a1)) + a2) 2862 fun z10 =>
                  some ((G 8 5 0 z9), (gm_up G 8 5 0 z10 a3))
                else
                  some ((-5), G)
def fX7_isSingle (a1 : Int32) (G : Gm) : Option (Int32) :=
  if (((G 8 5 0 2) >>> (a1 &&& 31)) &&& 1) = 1 then
    some 1
  else
    some 0
def fX7_moveTokens (a1 a2 : Int32) (G : Gm) : Option (Int32 × Gm) :=
  (fX7_isSection a1 G).bind fun q1 =>
    if q1 = 0 then
      some ((-1), G)
    else
      (fX7_in a2 (-10) 10).bind fun q3 =>
        if q3 = 0 then
          some ((-2), G)
        else
          gm_gi (8 + (2 * a1)) 2862 fun z5 =>
          gm_gi ((8 + (2 * a1)) + 1) 2862 fun z6 =>
          (fX7_isSingle a1 G).bind fun q7 =>
            if q7 = 0 then
              some ((-5), G)
            else
              if ((G 8 5 0 z5) - a2) < 0 then
                some ((-5), G)
              else
                if 0 ≤ ((G 8 5 0 z6) + a2) then
                  gm_gi (8 + (2 * a1)) 2862 fun z11 =>
                  gm_gi ((8 + (2 * a1)) + 1) 2862 fun z12 =>
                  some (((G 8 5 0 z5) - a2), (gm_up (gm_up G 8 5 0 z11 ((G 8 5 0 z5) - a2)) 8 5 0 z12 ((G 8 5 0 z6) + a2)))
                else
                  some ((-5), G)
def fX7_place (a0 a1 a2 : Int32) : Option (Int32) :=
  some ((30 + (5 * ((2 * a0) + a1))) + a2)
def fX7_ofBlock (a1 a2 a3 : Int32) (G : Gm) : Option (Int32) :=
  (fX7_place a1 a2 a3).bind fun q1 =>
    gm_gi q1 2862 fun z2 =>
    some (G 8 5 0 z2)
def fX7_isTokenOut_h4 (a1 : Int32) (G : Gm) : Nat → Int32 → Int32 → Option (Int32)
  | 0, _, _ => none
  | n4 + 1, v2, v3 =>
    if 2 ≤ v3 then
      (fX7_isSingle a1 G).bind fun q2 =>
        if q2 = 0 then
          some 0
        else
          if v2 = 0 then
            some 0
          else
            some 1
    else
      if v2 = 0 then
        (fX7_ofBlock a1 v3 0 G).bind fun q6 =>
          (fX7_in q6 1 2).bind fun q7 =>
            if q7 = 0 then
              fX7_isTokenOut_h4 a1 G n4 0 (v3 + 1)
            else
              fX7_isTokenOut_h4 a1 G n4 1 (v3 + 1)
      else
        fX7_isTokenOut_h4 a1 G n4 1 (v3 + 1)
def fX7_isTokenOut (a1 : Int32) (G : Gm) : Option (Int32) :=
  fX7_isTokenOut_h4 a1 G 6000 0 0
def fX7_section (a1 a2 : Int32) (G : Gm) : Option (Int32) :=
  (fX7_isSection a1 G).bind fun q1 =>
    if q1 = 0 then
      some (-1)
    else
      (fX7_isSingle a1 G).bind fun q3 =>
        if a2 = 0 then
          if q3 = 0 then
            some 0
          else
            some 1
        else
          if a2 = 1 then
            gm_gi (3 + a1) 2862 fun z15 =>
            some (G 8 5 0 z15)
          else
            if a2 = 2 then
              if q3 = 0 then
                some 0
              else
                gm_gi (((8 + (2 * a1)) + a2) - 2) 2862 fun z14 =>
                some (G 8 5 0 z14)
            else
              if a2 = 3 then
                if q3 = 0 then
                  some 0
                else
                  gm_gi (((8 + (2 * a1)) + a2) - 2) 2862 fun z12 =>
                  some (G 8 5 0 z12)
              else
                if a2 = 4 then
                  (fX7_isTokenOut a1 G).bind fun q9 =>
                    if q9 = 0 then
                      some 0
                    else
                      some 1
                else
                  some (-2)
def fX7_isBlock (a1 a2 : Int32) (G : Gm) : Option (Int32) :=
  (fX7_isSection a1 G).bind fun q1 =>
    if q1 = 0 then
      some 0
    else
      (fX7_isWay a2).bind fun q3 =>
        if q3 = 0 then
          some 0
        else
          some 1
def fX7_block (a1 a2 a3 : Int32) (G : Gm) : Option (Int32) :=
  (fX7_isBlock a1 a2 G).bind fun q1 =>
    if q1 = 0 then
      some (-1)
    else
      (fX7_in a3 0 4).bind fun q3 =>
        if q3 = 0 then
          some (-2)
        else
          (fX7_ofBlock a1 a2 a3 G).bind fun q5 =>
            some q5
def fX7_firstBox (a1 : Int32) (G : Gm) : Option (Int32) :=
  if a1 = 0 then
    some 0
  else
    some ((G 8 5 0 1) - 1)
def fX7_isFree (a1 a2 : Int32) (G : Gm) : Option (Int32) :=
  (fX7_many a1 a2 0 G).bind fun q1 =>
    if q1 = 0 then
      some 1
    else
      some 0
def fX7_layTrain (a1 a2 a3 : Int32) (G : Gm) : Option (Gm) :=
  gm_gi ((382 + (8 * a1)) + a2) 2862 fun z1 =>
  some (gm_up G 8 5 0 z1 a3)
def fX7_add (a1 a2 : Int32) (G : Gm) : Option (Int32 × Gm) :=
  (fX7_layTrain (G 8 5 0 381) 0 a1 G).bind fun q1 =>
    (fX7_layTrain (G 8 5 0 381) 1 a2 q1).bind fun q2 =>
      (fX7_layTrain (G 8 5 0 381) 2 0 q2).bind fun q3 =>
        (fX7_firstBox a2 q3).bind fun q4 =>
          (fX7_layTrain (G 8 5 0 381) 3 q4 q3).bind fun q5 =>
            (fX7_layTrain (G 8 5 0 381) 4 0 q5).bind fun q6 =>
              (fX7_layTrain (G 8 5 0 381) 5 1 q6).bind fun q7 =>
                (fX7_layTrain (G 8 5 0 381) 6 (q7 8 5 0 0) q7).bind fun q8 =>
                  (fX7_layTrain (G 8 5 0 381) 7 (-6) q8).bind fun q9 =>
                    some ((G 8 5 0 381), (gm_up q9 8 5 0 381 ((q9 8 5 0 381) + 1)))
def fX7_appear (a1 a2 : Int32) (G : Gm) : Option (Int32 × Gm) :=
  (fX7_in a1 1 5).bind fun q1 =>
    if q1 = 0 then
      some ((-2), G)
    else
      (fX7_isWay a2).bind fun q3 =>
        if q3 = 0 then
          some ((-2), G)
        else
          if (G 8 5 0 381) = 12 then
            some ((-4), G)
          else
            (fX7_firstBox a2 G).bind fun q6 =>
              (fX7_isFree q6 a2 G).bind fun q7 =>
                if q7 = 0 then
                  some ((-5), G)
                else
                  (fX7_add a1 a2 G).bind fun q9 =>
                    some (q9.1, q9.2)
def fX7_isTrain (a1 : Int32) (G : Gm) : Option (Int32) :=
  (fX7_in a1 0 ((G 8 5 0 381) - 1)).bind fun q1 =>
    if q1 = 0 ∨ q1 = 1 then
      some q1
    else none
def fX7_train (a1 a2 : Int32) (G : Gm) : Option (Int32) :=
  (fX7_isTrain a1 G).bind fun q1 =>
    if q1 = 0 then
      some (-1)
    else
      (fX7_in a2 0 7).bind fun q3 =>
        if q3 = 0 then
          some (-2)
        else
          (fX7_ofTrain a1 a2 G).bind fun q5 =>
            some q5
def fX7_nextSection (a1 : Int32) (G : Gm) : Option (Int32) :=
  (fX7_ofTrain a1 3 G).bind fun q1 =>
    (fX7_ofTrain a1 1 G).bind fun q2 =>
      (fX7_isSection (q1 - q2) G).bind fun q3 =>
        if q3 = 0 then
          some (-6)
        else
          some (q1 - q2)
def fX7_isOffered (a1 : Int32) (G : Gm) : Option (Int32) :=
  (fX7_nextSection a1 G).bind fun q1 =>
    if q1 < 0 then
      some 0
    else
      (fX7_ofTrain a1 1 G).bind fun q3 =>
        (fX7_ofBlock q1 q3 1 G).bind fun q4 =>
          if q4 = a1 then
            some 1
          else
            some 0
def fX7_isClearFor (a1 : Int32) (G : Gm) : Option (Int32) :=
  (fX7_nextSection a1 G).bind fun q1 =>
    (fX7_ofTrain a1 1 G).bind fun q2 =>
      if q1 < 0 then
        some 0
      else
        (fX7_ofBlock q1 q2 0 G).bind fun q4 =>
          if q4 = 1 then
            (fX7_ofBlock q1 q2 2 G).bind fun q6 =>
              if q6 = a1 then
                some 1
              else
                some 0
          else
            some 0
def fX7_canGoIn (a1 : Int32) (G : Gm) : Option (Int32) :=
  (fX7_ofTrain a1 3 G).bind fun q1 =>
    (fX7_ofTrain a1 1 G).bind fun q2 =>
      gm_gi ((18 + (2 * q1)) + q2) 2862 fun z3 =>
      (fX7_isOffered a1 G).bind fun q4 =>
        if q4 = 0 then
          (fX7_isClearFor a1 G).bind fun q6 =>
            if q6 = 0 then
              (fX7_ofTrain a1 3 G).bind fun q8 =>
                (fX7_ofTrain a1 1 G).bind fun q9 =>
                  (fX7_many q8 q9 1 G).bind fun q10 =>
                    if (G 8 5 0 z3) ≤ q10 then
                      some 0
                    else
                      some 1
            else
              some 0
        else
          some 0
def fX7_isCalmBehind (a1 : Int32) (G : Gm) : Option (Int32) :=
  (fX7_ofTrain a1 1 G).bind fun q1 =>
    (fX7_ofTrain a1 3 G).bind fun q2 =>
      (fX7_isSection ((q2 - 1) + q1) G).bind fun q3 =>
        if q3 = 0 then
          some 1
        else
          (fX7_ofBlock ((q2 - 1) + q1) q1 0 G).bind fun q5 =>
            if q5 = 0 then
              some 1
            else
              (fX7_ofBlock ((q2 - 1) + q1) q1 0 G).bind fun q7 =>
                if q7 = 3 then
                  some 1
                else
                  some 0
def fX7_shunt (a1 : Int32) (G : Gm) : Option (Int32 × Gm) :=
  (fX7_isTrain a1 G).bind fun q1 =>
    if q1 = 0 then
      some ((-1), G)
    else
      (fX7_ofTrain a1 2 G).bind fun q3 =>
        if q3 ≤ 1 then
          if q3 = 0 then
            (fX7_canGoIn a1 G).bind fun q6 =>
              if q6 = 0 then
                some ((-5), G)
              else
                (fX7_layTrain a1 2 (1 - q3) G).bind fun q8 =>
                  (fX7_ofTrain a1 2 q8).bind fun q9 =>
                    some (q9, q8)
          else
            (fX7_ofTrain a1 3 G).bind fun q10 =>
              (fX7_ofTrain a1 1 G).bind fun q11 =>
                (fX7_isFree q10 q11 G).bind fun q12 =>
                  if q12 = 0 then
                    some ((-5), G)
                  else
                    (fX7_isCalmBehind a1 G).bind fun q15 =>
                      if q15 = 0 then
                        some ((-5), G)
                      else
                        (fX7_layTrain a1 2 (1 - q3) G).bind fun q19 =>
                          (fX7_ofTrain a1 2 q19).bind fun q20 =>
                            some (q20, q19)
        else
          some ((-5), G)
def fX7_leave (a1 : Int32) (G : Gm) : Option (Int32 × Gm) :=
  (fX7_isTrain a1 G).bind fun q1 =>
    if q1 = 0 then
      some ((-1), G)
    else
      (fX7_ofTrain a1 2 G).bind fun q3 =>
        if q3 = 0 then
          (fX7_ofTrain a1 3 G).bind fun q5 =>
            (fX7_ofTrain a1 1 G).bind fun q6 =>
              (fX7_firstBox (1 - q6) G).bind fun q7 =>
                if q5 = q7 then
                  (fX7_layTrain a1 2 3 G).bind fun q9 =>
                    (fX7_layTrain a1 3 (-6) q9).bind fun q10 =>
                      (fX7_layTrain a1 7 (q10 8 5 0 0) q10).bind fun q11 =>
                        (fX7_ofTrain a1 6 q11).bind fun q12 =>
                          some (((q11 8 5 0 0) - q12), q11)
                else
                  some ((-5), G)
        else
          some ((-5), G)
def fX7_divide (a1 : Int32) (G : Gm) : Option (Int32 × Gm) :=
  (fX7_isTrain a1 G).bind fun q1 =>
    if q1 = 0 then
      some ((-1), G)
    else
      (fX7_ofTrain a1 2 G).bind fun q3 =>
        if q3 = 2 then
          (fX7_ofTrain a1 5 G).bind fun q5 =>
            if q5 = 0 then
              some ((-5), G)
            else
              (fX7_layTrain a1 5 0 G).bind fun q7 =>
                (fX7_ofTrain a1 3 q7).bind fun q8 =>
                  (fX7_ofTrain a1 1 q7).bind fun q9 =>
                    (fX7_place q8 q9 3).bind fun q10 =>
                      gm_gi q10 2862 fun z11 =>
                      (fX7_ofTrain a1 3 (gm_up q7 8 5 0 z11 1)).bind fun q12 =>
                        some (q12, (gm_up q7 8 5 0 z11 1))
        else
          some ((-5), G)
def fX7_rear (a0 a1 : Int32) : Option (Int32) :=
  some (a0 + a1)
def fX7_codeOf (a0 : Int32) : Option (Int32) :=
  if a0 = 1 then
    some 4
  else
    if a0 = 2 then
      some 31
    else
      if a0 = 3 then
        some 5
      else
        if a0 = 4 then
          some 32
        else
          some 41
def fX7_ring (a1 a2 a3 a4 : Int32) (G : Gm) : Option (Int32 × Gm) :=
  gm_gi (81 + (5 * ((G 8 5 0 80) - (G 8 5 0 80) / 60 * 60))) 2862 fun z1 =>
  gm_gi ((81 + (5 * ((G 8 5 0 80) - (G 8 5 0 80) / 60 * 60))) + 1) 2862 fun z2 =>
  gm_gi ((81 + (5 * ((G 8 5 0 80) - (G 8 5 0 80) / 60 * 60))) + 2) 2862 fun z3 =>
  gm_gi ((81 + (5 * ((G 8 5 0 80) - (G 8 5 0 80) / 60 * 60))) + 3) 2862 fun z4 =>
  gm_gi ((81 + (5 * ((G 8 5 0 80) - (G 8 5 0 80) / 60 * 60))) + 4) 2862 fun z5 =>
  some (a4, (gm_up (gm_up (gm_up (gm_up (gm_up (gm_up G 8 5 0 z1 (G 8 5 0 0)) 8 5 0 z2 a1) 8 5 0 z3 a2) 8 5 0 z4 a3) 8 5 0 z5 a4) 8 5 0 80 (((gm_up (gm_up (gm_up (gm_up (gm_up G 8 5 0 z1 (G 8 5 0 0)) 8 5 0 z2 a1) 8 5 0 z3 a2) 8 5 0 z4 a3) 8 5 0 z5 a4) 8 5 0 80) + 1)))
def fX7_offer (a1 : Int32) (G : Gm) : Option (Int32 × Gm) :=
  (fX7_isTrain a1 G).bind fun q1 =>
    if q1 = 0 then
      some ((-1), G)
    else
      (fX7_ofTrain a1 2 G).bind fun q3 =>
        if q3 = 0 then
          (fX7_nextSection a1 G).bind fun q5 =>
            (fX7_ofTrain a1 1 G).bind fun q6 =>
              if q5 < 0 then
                some ((-5), G)
              else
                (fX7_ofBlock q5 q6 0 G).bind fun q8 =>
                  if q8 = 0 then
                    (fX7_ofBlock q5 q6 1 G).bind fun q10 =>
                      if q10 < 0 then
                        (fX7_place q5 q6 1).bind fun q12 =>
                          gm_gi q12 2862 fun z13 =>
                          (fX7_rear q5 q6).bind fun q14 =>
                            (fX7_ofTrain a1 0 (gm_up G 8 5 0 z13 a1)).bind fun q15 =>
                              (fX7_codeOf q15).bind fun q16 =>
                                (fX7_ring q5 q6 q14 q16 (gm_up G 8 5 0 z13 a1)).bind fun q17 =>
                                  some (q17.1, q17.2)
                      else
                        some ((-5), G)
                  else
                    some ((-5), G)
        else
          (fX7_ofTrain a1 1 G).bind fun q18 =>
            some ((-5), G)
def fX7_tokensAt (a0 a1 : Int32) : Option (Int32) :=
  some ((8 + (2 * a0)) + (a1 - a0))
def fX7_ahead (a0 a1 : Int32) : Option (Int32) :=
  some ((a0 + 1) - a1)
def fX7_canAccept (a1 a2 : Int32) (G : Gm) : Option (Int32) :=
  (fX7_isSingle a1 G).bind fun q1 =>
    if q1 = 0 then
      (fX7_ahead a1 a2).bind fun q3 =>
        (fX7_isFree q3 a2 G).bind fun q4 =>
          if q4 = 0 then
            some 0
          else
            some 1
    else
      (fX7_ofBlock a1 (1 - a2) 0 G).bind fun q7 =>
        if q7 = 0 then
          (fX7_isTokenOut a1 G).bind fun q9 =>
            if q9 = 0 then
              (fX7_rear a1 a2).bind fun q11 =>
                (fX7_tokensAt a1 q11).bind fun q12 =>
                  gm_gi q12 2862 fun z13 =>
                  if (G 8 5 0 z13) ≤ 0 then
                    (fX7_ahead a1 a2).bind fun q15 =>
                      (fX7_isFree q15 a2 G).bind fun q16 =>
                        if q16 = 0 then
                          some 0
                        else
                          some 0
                  else
                    (fX7_ahead a1 a2).bind fun q19 =>
                      (fX7_isFree q19 a2 G).bind fun q20 =>
                        if q20 = 0 then
                          some 0
                        else
                          some 1
            else
              (fX7_ahead a1 a2).bind fun q23 =>
                (fX7_isFree q23 a2 G).bind fun q24 =>
                  if q24 = 0 then
                    some 0
                  else
                    some 0
        else
          (fX7_ahead a1 a2).bind fun q27 =>
            (fX7_isFree q27 a2 G).bind fun q28 =>
              if q28 = 0 then
                some 0
              else
                some 0
def fX7_answer (a1 a2 a3 : Int32) (G : Gm) : Option (Int32 × Gm) :=
  (fX7_isBlock a1 a2 G).bind fun q1 =>
    if q1 = 0 then
      some ((-1), G)
    else
      (fX7_ofBlock a1 a2 1 G).bind fun q3 =>
        if q3 < 0 then
          some ((-5), G)
        else
          if a3 = 0 then
            (fX7_place a1 a2 1).bind fun q6 =>
              gm_gi q6 2862 fun z7 =>
              if a3 = 0 then
                (fX7_ahead a1 a2).bind fun q9 =>
                  (fX7_ring a1 a2 q9 1 (gm_up G 8 5 0 z7 (-6))).bind fun q10 =>
                    some (q10.1, q10.2)
              else
                (fX7_place a1 a2 0).bind fun q11 =>
                  gm_gi q11 2862 fun z12 =>
                  (fX7_place a1 a2 2).bind fun q13 =>
                    gm_gi q13 2862 fun z14 =>
                    (fX7_rear a1 a2).bind fun q15 =>
                      (fX7_tokensAt a1 q15).bind fun q16 =>
                        gm_gi q16 2862 fun z17 =>
                        (fX7_isSingle a1 (gm_up (gm_up (gm_up G 8 5 0 z7 (-6)) 8 5 0 z12 1) 8 5 0 z14 q3)).bind fun q18 =>
                          if q18 = 0 then
                            gm_gi q16 2862 fun z20 =>
                            (fX7_ahead a1 a2).bind fun q21 =>
                              (fX7_ofTrain q3 0 (gm_up (gm_up (gm_up (gm_up G 8 5 0 z7 (-6)) 8 5 0 z12 1) 8 5 0 z14 q3) 8 5 0 z20 (((gm_up (gm_up (gm_up G 8 5 0 z7 (-6)) 8 5 0 z12 1) 8 5 0 z14 q3) 8 5 0 z17) - 0))).bind fun q22 =>
                                (fX7_codeOf q22).bind fun q23 =>
                                  (fX7_ring a1 a2 q21 q23 (gm_up (gm_up (gm_up (gm_up G 8 5 0 z7 (-6)) 8 5 0 z12 1) 8 5 0 z14 q3) 8 5 0 z20 (((gm_up (gm_up (gm_up G 8 5 0 z7 (-6)) 8 5 0 z12 1) 8 5 0 z14 q3) 8 5 0 z17) - 0))).bind fun q24 =>
                                    some (q24.1, q24.2)
                          else
                            gm_gi q16 2862 fun z25 =>
                            (fX7_ahead a1 a2).bind fun q26 =>
                              (fX7_ofTrain q3 0 (gm_up (gm_up (gm_up (gm_up G 8 5 0 z7 (-6)) 8 5 0 z12 1) 8 5 0 z14 q3) 8 5 0 z25 (((gm_up (gm_up (gm_up G 8 5 0 z7 (-6)) 8 5 0 z12 1) 8 5 0 z14 q3) 8 5 0 z17) - 1))).bind fun q27 =>
                                (fX7_codeOf q27).bind fun q28 =>
                                  (fX7_ring a1 a2 q26 q28 (gm_up (gm_up (gm_up (gm_up G 8 5 0 z7 (-6)) 8 5 0 z12 1) 8 5 0 z14 q3) 8 5 0 z25 (((gm_up (gm_up (gm_up G 8 5 0 z7 (-6)) 8 5 0 z12 1) 8 5 0 z14 q3) 8 5 0 z17) - 1))).bind fun q29 =>
                                    some (q29.1, q29.2)
          else
            (fX7_canAccept a1 a2 G).bind fun q30 =>
              if q30 = 0 then
                some ((-5), G)
              else
                (fX7_place a1 a2 1).bind fun q32 =>
                  gm_gi q32 2862 fun z33 =>
                  if a3 = 0 then
                    (fX7_ahead a1 a2).bind fun q35 =>
                      (fX7_ring a1 a2 q35 1 (gm_up G 8 5 0 z33 (-6))).bind fun q36 =>
                        some (q36.1, q36.2)
                  else
                    (fX7_place a1 a2 0).bind fun q37 =>
                      gm_gi q37 2862 fun z38 =>
                      (fX7_place a1 a2 2).bind fun q39 =>
                        gm_gi q39 2862 fun z40 =>
                        (fX7_rear a1 a2).bind fun q41 =>
                          (fX7_tokensAt a1 q41).bind fun q42 =>
                            gm_gi q42 2862 fun z43 =>
                            (fX7_isSingle a1 (gm_up (gm_up (gm_up G 8 5 0 z33 (-6)) 8 5 0 z38 1) 8 5 0 z40 q3)).bind fun q44 =>
                              if q44 = 0 then
                                gm_gi q42 2862 fun z46 =>
                                (fX7_ahead a1 a2).bind fun q47 =>
                                  (fX7_ofTrain q3 0 (gm_up (gm_up (gm_up (gm_up G 8 5 0 z33 (-6)) 8 5 0 z38 1) 8 5 0 z40 q3) 8 5 0 z46 (((gm_up (gm_up (gm_up G 8 5 0 z33 (-6)) 8 5 0 z38 1) 8 5 0 z40 q3) 8 5 0 z43) - 0))).bind fun q48 =>
                                    (fX7_codeOf q48).bind fun q49 =>
                                      (fX7_ring a1 a2 q47 q49 (gm_up (gm_up (gm_up (gm_up G 8 5 0 z33 (-6)) 8 5 0 z38 1) 8 5 0 z40 q3) 8 5 0 z46 (((gm_up (gm_up (gm_up G 8 5 0 z33 (-6)) 8 5 0 z38 1) 8 5 0 z40 q3) 8 5 0 z43) - 0))).bind fun q50 =>
                                        some (q50.1, q50.2)
                              else
                                gm_gi q42 2862 fun z51 =>
                                (fX7_ahead a1 a2).bind fun q52 =>
                                  (fX7_ofTrain q3 0 (gm_up (gm_up (gm_up (gm_up G 8 5 0 z33 (-6)) 8 5 0 z38 1) 8 5 0 z40 q3) 8 5 0 z51 (((gm_up (gm_up (gm_up G 8 5 0 z33 (-6)) 8 5 0 z38 1) 8 5 0 z40 q3) 8 5 0 z43) - 1))).bind fun q53 =>
                                    (fX7_codeOf q53).bind fun q54 =>
                                      (fX7_ring a1 a2 q52 q54 (gm_up (gm_up (gm_up (gm_up G 8 5 0 z33 (-6)) 8 5 0 z38 1) 8 5 0 z40 q3) 8 5 0 z51 (((gm_up (gm_up (gm_up G 8 5 0 z33 (-6)) 8 5 0 z38 1) 8 5 0 z40 q3) 8 5 0 z43) - 1))).bind fun q55 =>
                                        some (q55.1, q55.2)
def fX7_unclear (a1 a2 : Int32) (G : Gm) : Option (Gm) :=
  (fX7_ofBlock a1 a2 0 G).bind fun q1 =>
    if q1 = 1 then
      (fX7_place a1 a2 2).bind fun q3 =>
        gm_gi q3 2862 fun z4 =>
        (fX7_rear a1 a2).bind fun q5 =>
          (fX7_tokensAt a1 q5).bind fun q6 =>
            gm_gi q6 2862 fun z7 =>
            (fX7_isSingle a1 (gm_up G 8 5 0 z4 (-6))).bind fun q8 =>
              if q8 = 0 then
                gm_gi q6 2862 fun z10 =>
                some (gm_up (gm_up G 8 5 0 z4 (-6)) 8 5 0 z10 (((gm_up G 8 5 0 z4 (-6)) 8 5 0 z7) + 0))
              else
                gm_gi q6 2862 fun z11 =>
                some (gm_up (gm_up G 8 5 0 z4 (-6)) 8 5 0 z11 (((gm_up G 8 5 0 z4 (-6)) 8 5 0 z7) + 1))
    else
      some G
def fX7_cancel (a1 a2 : Int32) (G : Gm) : Option (Int32 × Gm) :=
  (fX7_isBlock a1 a2 G).bind fun q1 =>
    if q1 = 0 then
      some ((-1), G)
    else
      (fX7_ofBlock a1 a2 0 G).bind fun q3 =>
        if q3 = 1 then
          (fX7_ofBlock a1 a2 1 G).bind fun q5 =>
            if 0 ≤ q5 then
              (fX7_place a1 a2 1).bind fun q7 =>
                gm_gi q7 2862 fun z8 =>
                (fX7_unclear a1 a2 (gm_up G 8 5 0 z8 (-6))).bind fun q10 =>
                  (fX7_place a1 a2 0).bind fun q11 =>
                    gm_gi q11 2862 fun z12 =>
                    (fX7_rear a1 a2).bind fun q13 =>
                      (fX7_ring a1 a2 q13 35 (gm_up q10 8 5 0 z12 0)).bind fun q14 =>
                        some (q14.1, q14.2)
            else
              (fX7_place a1 a2 1).bind fun q16 =>
                gm_gi q16 2862 fun z17 =>
                (fX7_unclear a1 a2 (gm_up G 8 5 0 z17 (-6))).bind fun q19 =>
                  (fX7_place a1 a2 0).bind fun q20 =>
                    gm_gi q20 2862 fun z21 =>
                    (fX7_rear a1 a2).bind fun q22 =>
                      (fX7_ring a1 a2 q22 35 (gm_up q19 8 5 0 z21 0)).bind fun q23 =>
                        some (q23.1, q23.2)
        else
          (fX7_ofBlock a1 a2 1 G).bind fun q24 =>
            if 0 ≤ q24 then
              (fX7_place a1 a2 1).bind fun q26 =>
                gm_gi q26 2862 fun z27 =>
                (fX7_rear a1 a2).bind fun q29 =>
                  (fX7_ring a1 a2 q29 35 (gm_up G 8 5 0 z27 (-6))).bind fun q30 =>
                    some (q30.1, q30.2)
            else
              some ((-5), G)
def fX7_depart (a1 : Int32) (G : Gm) : Option (Int32 × Gm) :=
  (fX7_isTrain a1 G).bind fun q1 =>
    if q1 = 0 then
      some ((-1), G)
    else
      (fX7_ofTrain a1 2 G).bind fun q3 =>
        if q3 = 0 then
          (fX7_isClearFor a1 G).bind fun q5 =>
            if q5 = 0 then
              some ((-5), G)
            else
              (fX7_nextSection a1 G).bind fun q7 =>
                (fX7_ofTrain a1 1 G).bind fun q8 =>
                  (fX7_layTrain a1 2 2 G).bind fun q9 =>
                    (fX7_layTrain a1 3 q7 q9).bind fun q10 =>
                      gm_gi (3 + q7) 2862 fun z11 =>
                      (fX7_ofTrain a1 0 q10).bind fun q12 =>
                        (fX7_layTrain a1 4 (((q10 8 5 0 z11) + q12) - 1) q10).bind fun q13 =>
                          (fX7_place q7 q8 0).bind fun q14 =>
                            gm_gi q14 2862 fun z15 =>
                            (fX7_rear q7 q8).bind fun q16 =>
                              (fX7_ring q7 q8 q16 2 (gm_up q13 8 5 0 z15 2)).bind fun q17 =>
                                (fX7_ofTrain a1 4 q17.2).bind fun q18 =>
                                  some (q18, q17.2)
        else
          some ((-5), G)
def fX7_isInside (a1 a2 : Int32) (G : Gm) : Option (Int32) :=
  (fX7_ofBlock a1 a2 2 G).bind fun q1 =>
    if q1 < 0 then
      some 0
    else
      (fX7_ofTrain q1 2 G).bind fun q3 =>
        if q3 = 2 then
          (fX7_ofTrain q1 3 G).bind fun q5 =>
            if q5 = a1 then
              some 1
            else
              some 0
        else
          some 0
def fX7_admit (a1 a2 : Int32) (G : Gm) : Option (Int32 × Gm) :=
  (fX7_isBlock a1 a2 G).bind fun q1 =>
    if q1 = 0 then
      some ((-1), G)
    else
      (fX7_ofBlock a1 a2 2 G).bind fun q3 =>
        (fX7_ahead a1 a2).bind fun q4 =>
          (fX7_isInside a1 a2 G).bind fun q5 =>
            if q5 = 0 then
              some ((-5), G)
            else
              (fX7_ofTrain q3 4 G).bind fun q7 =>
                if 0 < q7 then
                  some ((-5), G)
                else
                  (fX7_isFree q4 a2 G).bind fun q9 =>
                    if q9 = 0 then
                      some ((-5), G)
                    else
                      (fX7_layTrain q3 2 0 G).bind fun q11 =>
                        (fX7_layTrain q3 3 q4 q11).bind fun q12 =>
                          some (q3, q12)
def fX7_out (a1 a2 : Int32) (G : Gm) : Option (Int32 × Gm) :=
  (fX7_isBlock a1 a2 G).bind fun q1 =>
    if q1 = 0 then
      some ((-1), G)
    else
      (fX7_ahead a1 a2).bind fun q3 =>
        (fX7_ofBlock a1 a2 0 G).bind fun q4 =>
          if q4 = 2 then
            (fX7_isInside a1 a2 G).bind fun q6 =>
              if q6 = 0 then
                (fX7_ofBlock a1 a2 3 G).bind fun q8 =>
                  if q8 = 1 then
                    some ((-5), G)
                  else
                    (fX7_place a1 a2 0).bind fun q10 =>
                      gm_gi q10 2862 fun z11 =>
                      (fX7_place a1 a2 2).bind fun q12 =>
                        gm_gi q12 2862 fun z13 =>
                        (fX7_tokensAt a1 q3).bind fun q14 =>
                          gm_gi q14 2862 fun z15 =>
                          (fX7_isSingle a1 (gm_up (gm_up G 8 5 0 z11 0) 8 5 0 z13 (-6))).bind fun q16 =>
                            if q16 = 0 then
                              gm_gi q14 2862 fun z18 =>
                              (fX7_ring a1 a2 q3 21 (gm_up (gm_up (gm_up G 8 5 0 z11 0) 8 5 0 z13 (-6)) 8 5 0 z18 (((gm_up (gm_up G 8 5 0 z11 0) 8 5 0 z13 (-6)) 8 5 0 z15) + 0))).bind fun q19 =>
                                some (q19.1, q19.2)
                            else
                              gm_gi q14 2862 fun z20 =>
                              (fX7_ring a1 a2 q3 21 (gm_up (gm_up (gm_up G 8 5 0 z11 0) 8 5 0 z13 (-6)) 8 5 0 z20 (((gm_up (gm_up G 8 5 0 z11 0) 8 5 0 z13 (-6)) 8 5 0 z15) + 1))).bind fun q21 =>
                                some (q21.1, q21.2)
              else
                some ((-5), G)
          else
            some ((-5), G)
def fX7_assist (a1 a2 : Int32) (G : Gm) : Option (Int32 × Gm) :=
  (fX7_isBlock a1 a2 G).bind fun q1 =>
    if q1 = 0 then
      some ((-1), G)
    else
      (fX7_ofBlock a1 a2 3 G).bind fun q3 =>
        if q3 = 0 then
          some ((-5), G)
        else
          (fX7_isInside a1 a2 G).bind fun q5 =>
            if q5 = 0 then
              (fX7_ofBlock a1 a2 4 G).bind fun q7 =>
                if q7 ≤ 0 then
                  (fX7_place a1 a2 4).bind fun q9 =>
                    gm_gi (3 + a1) 2862 fun z10 =>
                    gm_gi q9 2862 fun z11 =>
                    (fX7_rear a1 a2).bind fun q12 =>
                      (fX7_ring a1 a2 q12 22 (gm_up G 8 5 0 z11 (2 * (G 8 5 0 z10)))).bind fun q13 =>
                        (fX7_ofBlock a1 a2 4 q13.2).bind fun q14 =>
                          some (q14, q13.2)
                else
                  some ((-5), G)
            else
              some ((-5), G)
def fX7_obstruct (a1 a2 : Int32) (G : Gm) : Option (Int32 × Gm) :=
  (fX7_isBlock a1 a2 G).bind fun q1 =>
    if q1 = 0 then
      some ((-1), G)
    else
      (fX7_ofBlock a1 a2 0 G).bind fun q3 =>
        if q3 ≤ 1 then
          (fX7_unclear a1 a2 G).bind fun q5 =>
            (fX7_place a1 a2 1).bind fun q6 =>
              gm_gi q6 2862 fun z7 =>
              (fX7_place a1 a2 0).bind fun q8 =>
                gm_gi q8 2862 fun z9 =>
                (fX7_ahead a1 a2).bind fun q10 =>
                  (fX7_ring a1 a2 q10 6 (gm_up (gm_up q5 8 5 0 z7 (-6)) 8 5 0 z9 3)).bind fun q11 =>
                    some (q3, q11.2)
        else
          some ((-5), G)
def fX7_lift (a1 a2 : Int32) (G : Gm) : Option (Int32 × Gm) :=
  (fX7_isBlock a1 a2 G).bind fun q1 =>
    if q1 = 0 then
      some ((-1), G)
    else
      (fX7_ofBlock a1 a2 0 G).bind fun q3 =>
        if q3 = 3 then
          (fX7_place a1 a2 0).bind fun q5 =>
            gm_gi q5 2862 fun z6 =>
            (fX7_ahead a1 a2).bind fun q7 =>
              (fX7_ring a1 a2 q7 13 (gm_up G 8 5 0 z6 0)).bind fun q8 =>
                some (q8.1, q8.2)
        else
          some ((-5), G)
def fX7_tick_h69 : Nat → Int32 → Gm → Option (Gm)
  | 0, _, _ => none
  | n69 + 1, v1, G =>
    (fX7_sections G).bind fun q2 =>
      if (2 * q2) ≤ v1 then
        some (gm_up G 8 5 0 0 ((G 8 5 0 0) + 1))
      else
        gm_gi ((30 + (5 * v1)) + 4) 2862 fun z4 =>
        if (G 8 5 0 z4) ≤ 0 then
          fX7_tick_h69 n69 (v1 + 1) G
        else
          gm_gi ((30 + (5 * v1)) + 4) 2862 fun z6 =>
          gm_gi ((30 + (5 * v1)) + 4) 2862 fun z7 =>
          gm_gi ((30 + (5 * v1)) + 4) 2862 fun z8 =>
          if ((gm_up G 8 5 0 z7 ((G 8 5 0 z6) - 1)) 8 5 0 z8) ≤ 0 then
            gm_gi ((30 + (5 * v1)) + 3) 2862 fun z10 =>
            fX7_tick_h69 n69 (v1 + 1) (gm_up (gm_up G 8 5 0 z7 ((G 8 5 0 z6) - 1)) 8 5 0 z10 0)
          else
            gm_gi ((30 + (5 * v1)) + 3) 2862 fun z11 =>
            fX7_tick_h69 n69 (v1 + 1) (gm_up (gm_up G 8 5 0 z7 ((G 8 5 0 z6) - 1)) 8 5 0 z11 1)
def fX7_tick_h2 : Nat → Int32 → Gm → Option (Gm)
  | 0, _, _ => none
  | n2 + 1, v1, G =>
    if (G 8 5 0 381) ≤ v1 then
      fX7_tick_h69 6000 0 G
    else
      (fX7_ofTrain v1 2 G).bind fun q12 =>
        if q12 = 2 then
          (fX7_ofTrain v1 4 G).bind fun q14 =>
            if q14 ≤ 0 then
              (fX7_ofTrain v1 4 G).bind fun q16 =>
                (fX7_layTrain v1 4 (q16 - 0) G).bind fun q18 =>
                  fX7_tick_h2 n2 (v1 + 1) q18
            else
              (fX7_ofTrain v1 4 G).bind fun q19 =>
                (fX7_layTrain v1 4 (q19 - 1) G).bind fun q21 =>
                  fX7_tick_h2 n2 (v1 + 1) q21
        else
          (fX7_ofTrain v1 4 G).bind fun q22 =>
            (fX7_layTrain v1 4 (q22 - 0) G).bind fun q24 =>
              fX7_tick_h2 n2 (v1 + 1) q24
def fX7_tick (G : Gm) : Option (Gm) :=
  fX7_tick_h2 6000 0 G
def fX7_pass_h32 (a1 : Int32) : Nat → Int32 → Gm → Option (Int32 × Gm)
  | 0, _, _ => none
  | n32 + 1, v2, G =>
    if a1 ≤ v2 then
      some ((G 8 5 0 0), G)
    else
      (fX7_tick G).bind fun q5 =>
        fX7_pass_h32 a1 n32 (v2 + 1) q5
def fX7_pass (a1 : Int32) (G : Gm) : Option (Int32 × Gm) :=
  (fX7_in a1 1 1000).bind fun q1 =>
    if q1 = 0 then
      some ((-2), G)
    else
      if ((G 8 5 0 0) + a1) ≤ 1000000 then
        fX7_pass_h32 a1 6000 0 G
      else
        some ((-5), G)
def fX7_signal (a1 a2 : Int32) (G : Gm) : Option (Int32) :=
  (fX7_in a2 0 4).bind fun q1 =>
    if q1 = 0 then
      some (-2)
    else
      (fX7_in a1 0 ((G 8 5 0 80) - 1)).bind fun q3 =>
        if q3 = 0 then
          some (-6)
        else
          if a1 < ((G 8 5 0 80) - 60) then
            some (-6)
          else
            gm_gi ((81 + (5 * (a1 - a1 / 60 * 60))) + a2) 2862 fun z9 =>
            some (G 8 5 0 z9)
def fX7_rung_h46 (a1 a2 : Int32) (G : Gm) : Nat → Int32 → Int32 → Int32 → Option (Int32)
  | 0, _, _, _ => none
  | n46 + 1, v3, v4, v5 =>
    if v3 ≤ v5 then
      some v4
    else
      gm_gi ((81 + (5 * v5)) + 4) 2862 fun z4 =>
      if (G 8 5 0 z4) = a1 then
        if a2 = (-1) then
          fX7_rung_h46 a1 a2 G n46 v3 (v4 + 1) (v5 + 1)
        else
          gm_gi ((81 + (5 * v5)) + 1) 2862 fun z7 =>
          if (G 8 5 0 z7) = a2 then
            fX7_rung_h46 a1 a2 G n46 v3 (v4 + 1) (v5 + 1)
          else
            fX7_rung_h46 a1 a2 G n46 v3 (v4 + 0) (v5 + 1)
      else
        fX7_rung_h46 a1 a2 G n46 v3 (v4 + 0) (v5 + 1)
def fX7_rung (a1 a2 : Int32) (G : Gm) : Option (Int32) :=
  if a2 = (-1) then
    if 60 ≤ (G 8 5 0 80) then
      fX7_rung_h46 a1 a2 G 6000 60 0 0
    else
      fX7_rung_h46 a1 a2 G 6000 (G 8 5 0 80) 0 0
  else
    (fX7_isSection a2 G).bind fun q9 =>
      if q9 = 0 then
        some (-1)
      else
        if 60 ≤ (G 8 5 0 80) then
          fX7_rung_h46 a1 a2 G 6000 60 0 0
        else
          fX7_rung_h46 a1 a2 G 6000 (G 8 5 0 80) 0 0
def fX7_trainsAt_h4 (a1 : Int32) (G : Gm) : Nat → Int32 → Int32 → Option (Int32)
  | 0, _, _ => none
  | n4 + 1, v2, v3 =>
    if (G 8 5 0 381) ≤ v3 then
      some v2
    else
      (fX7_ofTrain v3 2 G).bind fun q2 =>
        if q2 = a1 then
          fX7_trainsAt_h4 a1 G n4 (v2 + 1) (v3 + 1)
        else
          fX7_trainsAt_h4 a1 G n4 (v2 + 0) (v3 + 1)
def fX7_trainsAt (a1 : Int32) (G : Gm) : Option (Int32) :=
  fX7_trainsAt_h4 a1 G 6000 0 0
def fX7_workBlocks_h12 (a1 : Int32) (k2 : Int32 → Gm → Option (Gm)) : Nat → Int32 → Int32 → Gm → Option (Gm)
  | 0, _, _, _ => none
  | n12 + 1, v2, v3, G =>
    if 2 ≤ v3 then
      k2 (v2 + 1) G
    else
      if a1 = 0 then
        (fX7_out v2 v3 G).bind fun q12 =>
          fX7_workBlocks_h12 a1 k2 n12 v2 (v3 + 1) q12.2
      else
        if a1 = 1 then
          (fX7_assist v2 v3 G).bind fun q11 =>
            fX7_workBlocks_h12 a1 k2 n12 v2 (v3 + 1) q11.2
        else
          if a1 = 2 then
            (fX7_admit v2 v3 G).bind fun q10 =>
              fX7_workBlocks_h12 a1 k2 n12 v2 (v3 + 1) q10.2
          else
            (fX7_answer v2 v3 1 G).bind fun q7 =>
              if 0 ≤ q7.1 then
                fX7_workBlocks_h12 a1 k2 n12 v2 (v3 + 1) q7.2
              else
                (fX7_answer v2 v3 0 q7.2).bind fun q9 =>
                  fX7_workBlocks_h12 a1 k2 n12 v2 (v3 + 1) q9.2
def fX7_workBlocks_h2 (a1 : Int32) : Nat → Int32 → Gm → Option (Gm)
  | 0, _, _ => none
  | n2 + 1, v2, G =>
    (fX7_sections G).bind fun q1 =>
      if q1 ≤ v2 then
        some G
      else
        fX7_workBlocks_h12 a1 (fun v2 G => fX7_workBlocks_h2 a1 n2 v2 G) 6000 v2 0 G
def fX7_workBlocks (a1 : Int32) (G : Gm) : Option (Gm) :=
  fX7_workBlocks_h2 a1 6000 0 G
def fX7_workTrains_h2 (a1 : Int32) : Nat → Int32 → Gm → Option (Gm)
  | 0, _, _ => none
  | n2 + 1, v2, G =>
    if (G 8 5 0 381) ≤ v2 then
      some G
    else
      if a1 = 0 then
        (fX7_leave v2 G).bind fun q6 =>
          fX7_workTrains_h2 a1 n2 (v2 + 1) q6.2
      else
        if a1 = 1 then
          (fX7_offer v2 G).bind fun q5 =>
            fX7_workTrains_h2 a1 n2 (v2 + 1) q5.2
        else
          (fX7_depart v2 G).bind fun q4 =>
            fX7_workTrains_h2 a1 n2 (v2 + 1) q4.2
def fX7_workTrains (a1 : Int32) (G : Gm) : Option (Gm) :=
  fX7_workTrains_h2 a1 6000 0 G
def fX7_workTick (G : Gm) : Option (Gm) :=
  (fX7_workBlocks 0 G).bind fun q1 =>
    (fX7_workBlocks 1 q1).bind fun q2 =>
      (fX7_workBlocks 2 q2).bind fun q3 =>
        (fX7_workTrains 0 q3).bind fun q4 =>
          (fX7_workTrains 1 q4).bind fun q5 =>
            (fX7_workBlocks 3 q5).bind fun q6 =>
              (fX7_workTrains 2 q6).bind fun q7 =>
                (fX7_tick q7).bind fun q8 =>
                  some q8
def fX7_work_h38 (a1 : Int32) : Nat → Int32 → Int32 → Gm → Option (Int32 × Gm)
  | 0, _, _, _ => none
  | n38 + 1, v2, v3, G =>
    if a1 ≤ v3 then
      (fX7_trainsAt 3 G).bind fun q6 =>
        some ((q6 - v2), G)
    else
      (fX7_workTick G).bind fun q7 =>
        fX7_work_h38 a1 n38 v2 (v3 + 1) q7
def fX7_work (a1 : Int32) (G : Gm) : Option (Int32 × Gm) :=
  (fX7_in a1 1 300).bind fun q1 =>
    if q1 = 0 then
      some ((-2), G)
    else
      if ((G 8 5 0 0) + a1) ≤ 1000000 then
        (fX7_trainsAt 3 G).bind fun q4 =>
          fX7_work_h38 a1 6000 q4 0 G
      else
        some ((-5), G)
def fX7_putAside_h2 : Nat → Int32 → Gm → Option (Gm)
  | 0, _, _ => none
  | n2 + 1, v1, G =>
    if 2862 ≤ v1 then
      some G
    else
      gm_gi v1 2862 fun z2 =>
      gm_gi v1 2862 fun z3 =>
      fX7_putAside_h2 n2 (v1 + 1) (gm_up G 8 5 1 z3 (G 8 5 0 z2))
def fX7_putAside (G : Gm) : Option (Gm) :=
  fX7_putAside_h2 6000 0 G
def fX7_putBack_h2 : Nat → Int32 → Gm → Option (Gm)
  | 0, _, _ => none
  | n2 + 1, v1, G =>
    if 2862 ≤ v1 then
      some G
    else
      gm_gi v1 2862 fun z2 =>
      gm_gi v1 2862 fun z3 =>
      fX7_putBack_h2 n2 (v1 + 1) (gm_up G 8 5 0 z3 (G 8 5 1 z2))
def fX7_putBack (G : Gm) : Option (Gm) :=
  fX7_putBack_h2 6000 0 G
def fX7_forecast_h48 (a1 a2 : Int32) : Nat → Int32 → Int32 → Gm → Option (Int32 × Gm)
  | 0, _, _, _ => none
  | n48 + 1, v3, v4, G =>
    if a2 < v4 then
      (fX7_putBack G).bind fun q9 =>
        some (v3, q9)
    else
      if 0 ≤ v3 then
        (fX7_putBack G).bind fun q11 =>
          some (v3, q11)
      else
        (fX7_workTick G).bind fun q12 =>
          (fX7_ofTrain a1 2 q12).bind fun q13 =>
            if q13 = 3 then
              fX7_forecast_h48 a1 a2 n48 v4 (v4 + 1) q12
            else
              fX7_forecast_h48 a1 a2 n48 (-6) (v4 + 1) q12
def fX7_forecast (a1 a2 : Int32) (G : Gm) : Option (Int32 × Gm) :=
  (fX7_isTrain a1 G).bind fun q1 =>
    if q1 = 0 then
      some ((-1), G)
    else
      (fX7_in a2 1 500).bind fun q3 =>
        if q3 = 0 then
          some ((-2), G)
        else
          (fX7_putAside G).bind fun q5 =>
            (fX7_ofTrain a1 2 q5).bind fun q6 =>
              if q6 = 3 then
                fX7_forecast_h48 a1 a2 6000 0 1 q5
              else
                fX7_forecast_h48 a1 a2 6000 (-6) 1 q5
def fX7_capacity_h65 (a1 a2 a3 : Int32) : Nat → Int32 → Gm → Option (Int32 × Gm)
  | 0, _, _ => none
  | n65 + 1, v4, G =>
    if a3 ≤ v4 then
      (fX7_trainsAt 3 G).bind fun q10 =>
        (fX7_putBack G).bind fun q11 =>
          some (q10, q11)
    else
      (fX7_firstBox a2 G).bind fun q12 =>
        (fX7_isFree q12 a2 G).bind fun q13 =>
          if q13 = 0 then
            (fX7_workTick G).bind fun q15 =>
              fX7_capacity_h65 a1 a2 a3 n65 (v4 + 1) q15
          else
            (fX7_add a1 a2 G).bind fun q16 =>
              (fX7_workTick q16.2).bind fun q17 =>
                fX7_capacity_h65 a1 a2 a3 n65 (v4 + 1) q17
def fX7_capacity (a1 a2 a3 : Int32) (G : Gm) : Option (Int32 × Gm) :=
  (fX7_in a1 1 5).bind fun q1 =>
    if q1 = 0 then
      some ((-2), G)
    else
      (fX7_isWay a2).bind fun q3 =>
        if q3 = 0 then
          some ((-2), G)
        else
          (fX7_in a3 1 300).bind fun q5 =>
            if q5 = 0 then
              some ((-2), G)
            else
              (fX7_putAside G).bind fun q7 =>
                (fX7_layBlocks (gm_up (gm_up (gm_up q7 8 5 0 0 0) 8 5 0 381 0) 8 5 0 80 0)).bind fun q8 =>
                  fX7_capacity_h65 a1 a2 a3 6000 0 q8
def fX7_say (a1 : Int32) (G : Gm) : Option (Int32 × Gm) :=
  (fX7_in a1 33 126).bind fun q1 =>
    if q1 = 0 then
      some ((-2), G)
    else
      if (G 7 5 0 5) = 60 then
        some ((-4), G)
      else
        gm_gi (G 7 5 0 5) 60 fun z4 =>
        some (((gm_up (gm_up G 8 5 3 z4 a1) 7 5 0 5 (((gm_up G 8 5 3 z4 a1) 7 5 0 5) + 1)) 7 5 0 5), (gm_up (gm_up G 8 5 3 z4 a1) 7 5 0 5 (((gm_up G 8 5 3 z4 a1) 7 5 0 5) + 1)))
def fX7_wipe (G : Gm) : Option (Int32 × Gm) :=
  some ((G 7 5 0 5), (gm_up G 7 5 0 5 0))
def fX7_nextSign (G : Gm) : Option (Int32) :=
  if (G 7 5 0 5) ≤ (G 7 5 0 6) then
    some 0
  else
    gm_gi (G 7 5 0 6) 60 fun z2 =>
    some (G 8 5 3 z2)
def fX7_isForTrain (a0 : Int32) : Option (Int32) :=
  if a0 = 111 then
    some 1
  else
    if a0 = 100 then
      some 1
    else
      if a0 = 115 then
        some 1
      else
        if a0 = 108 then
          some 1
        else
          some 0
def fX7_isForBlock (a0 : Int32) : Option (Int32) :=
  if a0 = 121 then
    some 1
  else
    if a0 = 110 then
      some 1
    else
      if a0 = 99 then
        some 1
      else
        if a0 = 97 then
          some 1
        else
          if a0 = 117 then
            some 1
          else
            if a0 = 101 then
              some 1
            else
              some 0
def fX7_takeNumber_h40 (a1 a2 : Int32) : Nat → Int32 → Gm → Option (Int32 × Gm)
  | 0, _, _ => none
  | n40 + 1, v3, G =>
    if v3 ≤ 0 then
      some (v3, G)
    else
      (fX7_nextSign G).bind fun q6 =>
        (fX7_in q6 48 57).bind fun q7 =>
          if q7 = 0 then
            some (v3, G)
          else
            (fX7_nextSign G).bind fun q9 =>
              if a2 < (((10 * v3) + q9) - 48) then
                some (v3, G)
              else
                (fX7_nextSign G).bind fun q11 =>
                  fX7_takeNumber_h40 a1 a2 n40 (((10 * v3) + q11) - 48) (gm_up G 7 5 0 6 ((G 7 5 0 6) + 1))
def fX7_takeNumber (a1 a2 : Int32) (G : Gm) : Option (Int32 × Gm) :=
  (fX7_nextSign G).bind fun q1 =>
    (fX7_in (q1 - 48) a1 9).bind fun q2 =>
      if q2 = 0 then
        some (0, (gm_up G 7 5 0 7 1))
      else
        if (q1 - 48) ≤ a2 then
          fX7_takeNumber_h40 a1 a2 6000 (q1 - 48) (gm_up G 7 5 0 6 ((G 7 5 0 6) + 1))
        else
          some (0, (gm_up G 7 5 0 7 1))
def fX7_takeSide (G : Gm) : Option (Int32 × Gm) :=
  if (G 7 5 0 7) = 0 then
    (fX7_nextSign G).bind fun q2 =>
      if q2 = 43 then
        gm_gi (((gm_up G 7 5 0 6 ((G 7 5 0 6) + 1)) 7 5 0 6) - 1) 60 fun z4 =>
        if ((gm_up G 7 5 0 6 ((G 7 5 0 6) + 1)) 8 5 3 z4) = 43 then
          some (0, (gm_up G 7 5 0 6 ((G 7 5 0 6) + 1)))
        else
          some (1, (gm_up G 7 5 0 6 ((G 7 5 0 6) + 1)))
      else
        (fX7_nextSign G).bind fun q6 =>
          if q6 = 45 then
            gm_gi (((gm_up G 7 5 0 6 ((G 7 5 0 6) + 1)) 7 5 0 6) - 1) 60 fun z8 =>
            if ((gm_up G 7 5 0 6 ((G 7 5 0 6) + 1)) 8 5 3 z8) = 43 then
              some (0, (gm_up G 7 5 0 6 ((G 7 5 0 6) + 1)))
            else
              some (1, (gm_up G 7 5 0 6 ((G 7 5 0 6) + 1)))
          else
            some (0, (gm_up G 7 5 0 7 1))
  else
    some (0, (gm_up G 7 5 0 7 1))
def fX7_readOrder (G : Gm) : Option (Gm) :=
  (fX7_nextSign G).bind fun q1 =>
    (fX7_isForTrain q1).bind fun q2 =>
      if q2 = 0 then
        (fX7_isForBlock q1).bind fun q4 =>
          if q4 = 0 then
            if q1 = 116 then
              gm_gi (3 * ((gm_up G 7 5 0 6 ((G 7 5 0 6) + 1)) 7 5 0 9)) 180 fun z7 =>
              (fX7_isForTrain q1).bind fun q8 =>
                if q8 = 0 then
                  (fX7_isForBlock q1).bind fun q10 =>
                    if q10 = 0 then
                      (fX7_takeNumber 1 99 (gm_up (gm_up G 7 5 0 6 ((G 7 5 0 6) + 1)) 8 5 4 z7 q1)).bind fun q12 =>
                        gm_gi ((3 * ((gm_up G 7 5 0 6 ((G 7 5 0 6) + 1)) 7 5 0 9)) + 1) 180 fun z13 =>
                        (fX7_isForBlock q1).bind fun q14 =>
                          if q14 = 0 then
                            gm_gi ((3 * ((gm_up G 7 5 0 6 ((G 7 5 0 6) + 1)) 7 5 0 9)) + 2) 180 fun z16 =>
                            some (gm_up (gm_up (gm_up q12.2 8 5 4 z13 q12.1) 8 5 4 z16 0) 7 5 0 9 (((gm_up (gm_up q12.2 8 5 4 z13 q12.1) 8 5 4 z16 0) 7 5 0 9) + 1))
                          else
                            (fX7_takeSide (gm_up q12.2 8 5 4 z13 q12.1)).bind fun q17 =>
                              gm_gi ((3 * ((gm_up G 7 5 0 6 ((G 7 5 0 6) + 1)) 7 5 0 9)) + 2) 180 fun z18 =>
                              some (gm_up (gm_up q17.2 8 5 4 z18 q17.1) 7 5 0 9 (((gm_up q17.2 8 5 4 z18 q17.1) 7 5 0 9) + 1))
                    else
                      (fX7_takeNumber 0 4 (gm_up (gm_up G 7 5 0 6 ((G 7 5 0 6) + 1)) 8 5 4 z7 q1)).bind fun q19 =>
                        gm_gi ((3 * ((gm_up G 7 5 0 6 ((G 7 5 0 6) + 1)) 7 5 0 9)) + 1) 180 fun z20 =>
                        (fX7_isForBlock q1).bind fun q21 =>
                          if q21 = 0 then
                            gm_gi ((3 * ((gm_up G 7 5 0 6 ((G 7 5 0 6) + 1)) 7 5 0 9)) + 2) 180 fun z23 =>
                            some (gm_up (gm_up (gm_up q19.2 8 5 4 z20 q19.1) 8 5 4 z23 0) 7 5 0 9 (((gm_up (gm_up q19.2 8 5 4 z20 q19.1) 8 5 4 z23 0) 7 5 0 9) + 1))
                          else
                            (fX7_takeSide (gm_up q19.2 8 5 4 z20 q19.1)).bind fun q24 =>
                              gm_gi ((3 * ((gm_up G 7 5 0 6 ((G 7 5 0 6) + 1)) 7 5 0 9)) + 2) 180 fun z25 =>
                              some (gm_up (gm_up q24.2 8 5 4 z25 q24.1) 7 5 0 9 (((gm_up q24.2 8 5 4 z25 q24.1) 7 5 0 9) + 1))
                else
                  (fX7_takeNumber 0 11 (gm_up (gm_up G 7 5 0 6 ((G 7 5 0 6) + 1)) 8 5 4 z7 q1)).bind fun q26 =>
                    gm_gi ((3 * ((gm_up G 7 5 0 6 ((G 7 5 0 6) + 1)) 7 5 0 9)) + 1) 180 fun z27 =>
                    (fX7_isForBlock q1).bind fun q28 =>
                      if q28 = 0 then
                        gm_gi ((3 * ((gm_up G 7 5 0 6 ((G 7 5 0 6) + 1)) 7 5 0 9)) + 2) 180 fun z30 =>
                        some (gm_up (gm_up (gm_up q26.2 8 5 4 z27 q26.1) 8 5 4 z30 0) 7 5 0 9 (((gm_up (gm_up q26.2 8 5 4 z27 q26.1) 8 5 4 z30 0) 7 5 0 9) + 1))
                      else
                        (fX7_takeSide (gm_up q26.2 8 5 4 z27 q26.1)).bind fun q31 =>
                          gm_gi ((3 * ((gm_up G 7 5 0 6 ((G 7 5 0 6) + 1)) 7 5 0 9)) + 2) 180 fun z32 =>
                          some (gm_up (gm_up q31.2 8 5 4 z32 q31.1) 7 5 0 9 (((gm_up q31.2 8 5 4 z32 q31.1) 7 5 0 9) + 1))
            else
              some (gm_up G 7 5 0 7 1)
          else
            gm_gi (3 * ((gm_up G 7 5 0 6 ((G 7 5 0 6) + 1)) 7 5 0 9)) 180 fun z33 =>
            (fX7_isForTrain q1).bind fun q34 =>
              if q34 = 0 then
                (fX7_isForBlock q1).bind fun q36 =>
                  if q36 = 0 then
                    (fX7_takeNumber 1 99 (gm_up (gm_up G 7 5 0 6 ((G 7 5 0 6) + 1)) 8 5 4 z33 q1)).bind fun q38 =>
                      gm_gi ((3 * ((gm_up G 7 5 0 6 ((G 7 5 0 6) + 1)) 7 5 0 9)) + 1) 180 fun z39 =>
                      (fX7_isForBlock q1).bind fun q40 =>
                        if q40 = 0 then
                          gm_gi ((3 * ((gm_up G 7 5 0 6 ((G 7 5 0 6) + 1)) 7 5 0 9)) + 2) 180 fun z42 =>
                          some (gm_up (gm_up (gm_up q38.2 8 5 4 z39 q38.1) 8 5 4 z42 0) 7 5 0 9 (((gm_up (gm_up q38.2 8 5 4 z39 q38.1) 8 5 4 z42 0) 7 5 0 9) + 1))
                        else
                          (fX7_takeSide (gm_up q38.2 8 5 4 z39 q38.1)).bind fun q43 =>
                            gm_gi ((3 * ((gm_up G 7 5 0 6 ((G 7 5 0 6) + 1)) 7 5 0 9)) + 2) 180 fun z44 =>
                            some (gm_up (gm_up q43.2 8 5 4 z44 q43.1) 7 5 0 9 (((gm_up q43.2 8 5 4 z44 q43.1) 7 5 0 9) + 1))
                  else
                    (fX7_takeNumber 0 4 (gm_up (gm_up G 7 5 0 6 ((G 7 5 0 6) + 1)) 8 5 4 z33 q1)).bind fun q45 =>
                      gm_gi ((3 * ((gm_up G 7 5 0 6 ((G 7 5 0 6) + 1)) 7 5 0 9)) + 1) 180 fun z46 =>
                      (fX7_isForBlock q1).bind fun q47 =>
                        if q47 = 0 then
                          gm_gi ((3 * ((gm_up G 7 5 0 6 ((G 7 5 0 6) + 1)) 7 5 0 9)) + 2) 180 fun z49 =>
                          some (gm_up (gm_up (gm_up q45.2 8 5 4 z46 q45.1) 8 5 4 z49 0) 7 5 0 9 (((gm_up (gm_up q45.2 8 5 4 z46 q45.1) 8 5 4 z49 0) 7 5 0 9) + 1))
                        else
                          (fX7_takeSide (gm_up q45.2 8 5 4 z46 q45.1)).bind fun q50 =>
                            gm_gi ((3 * ((gm_up G 7 5 0 6 ((G 7 5 0 6) + 1)) 7 5 0 9)) + 2) 180 fun z51 =>
                            some (gm_up (gm_up q50.2 8 5 4 z51 q50.1) 7 5 0 9 (((gm_up q50.2 8 5 4 z51 q50.1) 7 5 0 9) + 1))
              else
                (fX7_takeNumber 0 11 (gm_up (gm_up G 7 5 0 6 ((G 7 5 0 6) + 1)) 8 5 4 z33 q1)).bind fun q52 =>
                  gm_gi ((3 * ((gm_up G 7 5 0 6 ((G 7 5 0 6) + 1)) 7 5 0 9)) + 1) 180 fun z53 =>
                  (fX7_isForBlock q1).bind fun q54 =>
                    if q54 = 0 then
                      gm_gi ((3 * ((gm_up G 7 5 0 6 ((G 7 5 0 6) + 1)) 7 5 0 9)) + 2) 180 fun z56 =>
                      some (gm_up (gm_up (gm_up q52.2 8 5 4 z53 q52.1) 8 5 4 z56 0) 7 5 0 9 (((gm_up (gm_up q52.2 8 5 4 z53 q52.1) 8 5 4 z56 0) 7 5 0 9) + 1))
                    else
                      (fX7_takeSide (gm_up q52.2 8 5 4 z53 q52.1)).bind fun q57 =>
                        gm_gi ((3 * ((gm_up G 7 5 0 6 ((G 7 5 0 6) + 1)) 7 5 0 9)) + 2) 180 fun z58 =>
                        some (gm_up (gm_up q57.2 8 5 4 z58 q57.1) 7 5 0 9 (((gm_up q57.2 8 5 4 z58 q57.1) 7 5 0 9) + 1))
      else
        gm_gi (3 * ((gm_up G 7 5 0 6 ((G 7 5 0 6) + 1)) 7 5 0 9)) 180 fun z59 =>
        (fX7_isForTrain q1).bind fun q60 =>
          if q60 = 0 then
            (fX7_isForBlock q1).bind fun q62 =>
              if q62 = 0 then
                (fX7_takeNumber 1 99 (gm_up (gm_up G 7 5 0 6 ((G 7 5 0 6) + 1)) 8 5 4 z59 q1)).bind fun q64 =>
                  gm_gi ((3 * ((gm_up G 7 5 0 6 ((G 7 5 0 6) + 1)) 7 5 0 9)) + 1) 180 fun z65 =>
                  (fX7_isForBlock q1).bind fun q66 =>
                    if q66 = 0 then
                      gm_gi ((3 * ((gm_up G 7 5 0 6 ((G 7 5 0 6) + 1)) 7 5 0 9)) + 2) 180 fun z68 =>
                      some (gm_up (gm_up (gm_up q64.2 8 5 4 z65 q64.1) 8 5 4 z68 0) 7 5 0 9 (((gm_up (gm_up q64.2 8 5 4 z65 q64.1) 8 5 4 z68 0) 7 5 0 9) + 1))
                    else
                      (fX7_takeSide (gm_up q64.2 8 5 4 z65 q64.1)).bind fun q69 =>
                        gm_gi ((3 * ((gm_up G 7 5 0 6 ((G 7 5 0 6) + 1)) 7 5 0 9)) + 2) 180 fun z70 =>
                        some (gm_up (gm_up q69.2 8 5 4 z70 q69.1) 7 5 0 9 (((gm_up q69.2 8 5 4 z70 q69.1) 7 5 0 9) + 1))
              else
                (fX7_takeNumber 0 4 (gm_up (gm_up G 7 5 0 6 ((G 7 5 0 6) + 1)) 8 5 4 z59 q1)).bind fun q71 =>
                  gm_gi ((3 * ((gm_up G 7 5 0 6 ((G 7 5 0 6) + 1)) 7 5 0 9)) + 1) 180 fun z72 =>
                  (fX7_isForBlock q1).bind fun q73 =>
                    if q73 = 0 then
                      gm_gi ((3 * ((gm_up G 7 5 0 6 ((G 7 5 0 6) + 1)) 7 5 0 9)) + 2) 180 fun z75 =>
                      some (gm_up (gm_up (gm_up q71.2 8 5 4 z72 q71.1) 8 5 4 z75 0) 7 5 0 9 (((gm_up (gm_up q71.2 8 5 4 z72 q71.1) 8 5 4 z75 0) 7 5 0 9) + 1))
                    else
                      (fX7_takeSide (gm_up q71.2 8 5 4 z72 q71.1)).bind fun q76 =>
                        gm_gi ((3 * ((gm_up G 7 5 0 6 ((G 7 5 0 6) + 1)) 7 5 0 9)) + 2) 180 fun z77 =>
                        some (gm_up (gm_up q76.2 8 5 4 z77 q76.1) 7 5 0 9 (((gm_up q76.2 8 5 4 z77 q76.1) 7 5 0 9) + 1))
          else
            (fX7_takeNumber 0 11 (gm_up (gm_up G 7 5 0 6 ((G 7 5 0 6) + 1)) 8 5 4 z59 q1)).bind fun q78 =>
              gm_gi ((3 * ((gm_up G 7 5 0 6 ((G 7 5 0 6) + 1)) 7 5 0 9)) + 1) 180 fun z79 =>
              (fX7_isForBlock q1).bind fun q80 =>
                if q80 = 0 then
                  gm_gi ((3 * ((gm_up G 7 5 0 6 ((G 7 5 0 6) + 1)) 7 5 0 9)) + 2) 180 fun z82 =>
                  some (gm_up (gm_up (gm_up q78.2 8 5 4 z79 q78.1) 8 5 4 z82 0) 7 5 0 9 (((gm_up (gm_up q78.2 8 5 4 z79 q78.1) 8 5 4 z82 0) 7 5 0 9) + 1))
                else
                  (fX7_takeSide (gm_up q78.2 8 5 4 z79 q78.1)).bind fun q83 =>
                    gm_gi ((3 * ((gm_up G 7 5 0 6 ((G 7 5 0 6) + 1)) 7 5 0 9)) + 2) 180 fun z84 =>
                    some (gm_up (gm_up q83.2 8 5 4 z84 q83.1) 7 5 0 9 (((gm_up q83.2 8 5 4 z84 q83.1) 7 5 0 9) + 1))
def fX7_fault_h19 : Nat → Gm → Option (Int32 × Gm)
  | 0, _ => none
  | n19 + 1, G =>
    if (G 7 5 0 7) = 0 then
      (fX7_nextSign G).bind fun q3 =>
        if q3 = 44 then
          (fX7_readOrder (gm_up G 7 5 0 6 ((G 7 5 0 6) + 1))).bind fun q5 =>
            fX7_fault_h19 n19 q5
        else
          if (G 7 5 0 7) = 0 then
            if (G 7 5 0 5) ≤ (G 7 5 0 6) then
              some ((-6), G)
            else
              some ((G 7 5 0 6), G)
          else
            some ((G 7 5 0 6), G)
    else
      if (G 7 5 0 7) = 0 then
        if (G 7 5 0 5) ≤ (G 7 5 0 6) then
          some ((-6), G)
        else
          some ((G 7 5 0 6), G)
      else
        some ((G 7 5 0 6), G)
def fX7_fault (G : Gm) : Option (Int32 × Gm) :=
  (fX7_readOrder (gm_up (gm_up (gm_up G 7 5 0 6 0) 7 5 0 7 0) 7 5 0 9 0)).bind fun q1 =>
    fX7_fault_h19 6000 q1
def fX7_carryOutOne (a1 a2 a3 : Int32) (G : Gm) : Option (Int32 × Gm) :=
  if a1 = 97 then
    (fX7_admit a2 a3 G).bind fun q25 =>
      some (q25.1, q25.2)
  else
    if a1 = 99 then
      (fX7_cancel a2 a3 G).bind fun q24 =>
        some (q24.1, q24.2)
    else
      if a1 = 100 then
        (fX7_depart a2 G).bind fun q23 =>
          some (q23.1, q23.2)
      else
        if a1 = 101 then
          (fX7_assist a2 a3 G).bind fun q22 =>
            some (q22.1, q22.2)
        else
          if a1 = 108 then
            (fX7_leave a2 G).bind fun q21 =>
              some (q21.1, q21.2)
          else
            if a1 = 110 then
              if a1 = 121 then
                (fX7_answer a2 a3 1 G).bind fun q19 =>
                  some (q19.1, q19.2)
              else
                (fX7_answer a2 a3 0 G).bind fun q20 =>
                  some (q20.1, q20.2)
            else
              if a1 = 111 then
                (fX7_offer a2 G).bind fun q17 =>
                  some (q17.1, q17.2)
              else
                if a1 = 115 then
                  (fX7_shunt a2 G).bind fun q16 =>
                    some (q16.1, q16.2)
                else
                  if a1 = 117 then
                    (fX7_out a2 a3 G).bind fun q15 =>
                      some (q15.1, q15.2)
                  else
                    if a1 = 121 then
                      if a1 = 121 then
                        (fX7_answer a2 a3 1 G).bind fun q13 =>
                          some (q13.1, q13.2)
                      else
                        (fX7_answer a2 a3 0 G).bind fun q14 =>
                          some (q14.1, q14.2)
                    else
                      (fX7_pass a2 G).bind fun q11 =>
                        some (q11.1, q11.2)
def fX7_carryOut_h19 : Nat → Int32 → Gm → Option (Int32 × Gm)
  | 0, _, _ => none
  | n19 + 1, v1, G =>
    if (G 7 5 0 9) ≤ v1 then
      some ((G 7 5 0 9), G)
    else
      gm_gi (3 * v1) 180 fun z4 =>
      gm_gi ((3 * v1) + 1) 180 fun z5 =>
      gm_gi ((3 * v1) + 2) 180 fun z6 =>
      (fX7_carryOutOne (G 8 5 4 z4) (G 8 5 4 z5) (G 8 5 4 z6) G).bind fun q7 =>
        if 0 ≤ q7.1 then
          fX7_carryOut_h19 n19 (v1 + 1) q7.2
        else
          some (v1, q7.2)
def fX7_carryOut (G : Gm) : Option (Int32 × Gm) :=
  (fX7_fault G).bind fun q1 =>
    if q1.1 = (-6) then
      fX7_carryOut_h19 6000 0 (gm_up q1.2 7 5 0 5 0)
    else
      some ((-3), q1.2)
def fX7_blocksWith_h4 (a1 : Int32) (G : Gm) : Nat → Int32 → Int32 → Option (Int32)
  | 0, _, _ => none
  | n4 + 1, v2, v3 =>
    (fX7_sections G).bind fun q1 =>
      if (2 * q1) ≤ v3 then
        some v2
      else
        gm_gi ((30 + (5 * v3)) + a1) 2862 fun z3 =>
        if a1 = 1 then
          if (G 8 5 0 z3) < 0 then
            fX7_blocksWith_h4 a1 G n4 (v2 + 0) (v3 + 1)
          else
            fX7_blocksWith_h4 a1 G n4 (v2 + 1) (v3 + 1)
        else
          if (G 8 5 0 z3) = 0 then
            fX7_blocksWith_h4 a1 G n4 (v2 + 0) (v3 + 1)
          else
            fX7_blocksWith_h4 a1 G n4 (v2 + 1) (v3 + 1)
def fX7_blocksWith (a1 : Int32) (G : Gm) : Option (Int32) :=
  fX7_blocksWith_h4 a1 G 6000 0 0
def fX7_count (a1 : Int32) (G : Gm) : Option (Int32) :=
  if a1 = 0 then
    some (G 8 5 0 0)
  else
    if a1 = 1 then
      some (G 8 5 0 381)
    else
      if a1 = 2 then
        (fX7_trainsAt 3 G).bind fun q15 =>
          some q15
      else
        if a1 = 3 then
          (fX7_trainsAt 2 G).bind fun q14 =>
            some q14
        else
          if a1 = 4 then
            some (G 8 5 0 80)
          else
            if a1 = 5 then
              (fX7_blocksWith 0 G).bind fun q13 =>
                some q13
            else
              if a1 = 6 then
                some (G 8 5 0 1)
              else
                if a1 = 7 then
                  some (G 7 5 0 5)
                else
                  if a1 = 8 then
                    (fX7_blocksWith 3 G).bind fun q12 =>
                      some q12
                  else
                    if a1 = 9 then
                      (fX7_blocksWith 1 G).bind fun q11 =>
                        some q11
                    else
                      some (-2)
def fX7_save_h14 (a1 : Int32) : Nat → Int32 → Gm → Option (Int32 × Gm)
  | 0, _, _ => none
  | n14 + 1, v2, G =>
    if 2862 ≤ v2 then
      gm_gi a1 2 fun z4 =>
      some (((gm_up G 9 5 0 z4 1) 8 5 0 0), (gm_up G 9 5 0 z4 1))
    else
      gm_gi v2 2862 fun z5 =>
      gm_gi ((2862 * a1) + v2) 5724 fun z6 =>
      fX7_save_h14 a1 n14 (v2 + 1) (gm_up G 8 5 2 z6 (G 8 5 0 z5))
def fX7_save (a1 : Int32) (G : Gm) : Option (Int32 × Gm) :=
  (fX7_in a1 0 1).bind fun q1 =>
    if q1 = 0 then
      some ((-2), G)
    else
      fX7_save_h14 a1 6000 0 G
def fX7_restore_h26 (a1 : Int32) : Nat → Int32 → Gm → Option (Int32 × Gm)
  | 0, _, _ => none
  | n26 + 1, v2, G =>
    if 2862 ≤ v2 then
      some ((G 8 5 0 0), G)
    else
      gm_gi ((2862 * a1) + v2) 5724 fun z6 =>
      gm_gi v2 2862 fun z7 =>
      fX7_restore_h26 a1 n26 (v2 + 1) (gm_up G 8 5 0 z7 (G 8 5 2 z6))
def fX7_restore (a1 : Int32) (G : Gm) : Option (Int32 × Gm) :=
  (fX7_in a1 0 1).bind fun q1 =>
    if q1 = 0 then
      some ((-2), G)
    else
      gm_gi a1 2 fun z3 =>
      if (G 9 5 0 z3) = 0 then
        some ((-5), G)
      else
        fX7_restore_h26 a1 6000 0 G
