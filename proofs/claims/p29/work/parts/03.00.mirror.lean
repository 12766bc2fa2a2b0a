/-! the methods, read as functions (written by wip/whole/gen) -/
def m5_isFree (f0 : bkA) (a1 : Int32) : Int32 :=
  if (rat 12 (f0 19) a1) = (-1) then
    1
  else
    0
def m5_countFree_L4 (N : Nat) : Nat → (Int32) → (Int32) → (bkA) → Option (Int32)
  | 0, _, _, _ => none
  | n+1, x2, x3, f0 =>
    if 12 ≤ x3 then
      some x2
    else
      lt1 (m5_isFree f0 x3) fun x6 =>
      lt1 (
          if x6 = 0 then
            x2
          else
            lt_ (x2 + 1) fun x12 =>
            x12) fun x10 =>
      lt_ (x3 + 1) fun x13 =>
      m5_countFree_L4 N n x10 x13 f0
def m5_countFree (N : Nat) (f0 : bkA) : Option (Int32) :=
  ob1 (m5_countFree_L4 N N 0 0 f0) fun x14 =>
  some x14
def m5_putLoaf (f0 : bkA) (a1 : Int32) (a2 : Int32) : bkA :=
  lt_ (ur f0 19 (rput 12 (f0 19) a1 a2)) fun f1 =>
  lt_ (ur f1 20 (rput 12 (f1 20) a1 0)) fun f2 =>
  lt_ (ur f2 21 (rput 12 (f2 21) a1 0)) fun f3 =>
  f3
def m1_move (f0 : bkA) (a1 : Int32) (a2 : Int32) : bkA :=
  lt_ (ur f0 11 (rput 16 (f0 11) a2 (rat 16 (f0 11) a1))) fun f1 =>
  lt_ (ur f1 12 (rput 16 (f1 12) a2 (rat 16 (f1 12) a1))) fun f2 =>
  lt_ (ur f2 13 (rput 16 (f2 13) a2 (rat 16 (f2 13) a1))) fun f3 =>
  lt_ (ur f3 14 (rput 16 (f3 14) a2 (rat 16 (f3 14) a1))) fun f4 =>
  lt_ (ur f4 15 (rput 16 (f4 15) a2 (rat 16 (f4 15) a1))) fun f5 =>
  lt_ (ur f5 16 (rput 16 (f5 16) a2 (rat 16 (f5 16) a1))) fun f6 =>
  lt_ (ur f6 17 (rput 16 (f6 17) a2 (rat 16 (f6 17) a1))) fun f7 =>
  lt_ (ur f7 18 (rput 16 (f7 18) a2 (rat 16 (f7 18) a1))) fun f8 =>
  f8
def m7_isKind (f0 : bkA) (a1 : Int32) : Int32 :=
  if a1 < 0 then
    0
  else
    if (f0 23 0) ≤ a1 then
      0
    else
      1
def m7_isHouse (f0 : bkA) (a1 : Int32) : Int32 :=
  if a1 < 0 then
    0
  else
    if (f0 23 1) ≤ a1 then
      0
    else
      1
def m7_isDough (f0 : bkA) (a1 : Int32) : Int32 :=
  if a1 < 0 then
    0
  else
    if (f0 23 2) ≤ a1 then
      0
    else
      1
def m7_isWaiting (f0 : bkA) (a1 : Int32) : Int32 :=
  lt1 (m7_isDough f0 a1) fun x1 =>
  if x1 = 0 then
    0
  else
    if (rat 16 (f0 15) a1) = 0 then
      1
    else
      0
def m7_wasLoaded (f0 : bkA) (a1 : Int32) : Int32 :=
  lt1 (m7_isDough f0 a1) fun x1 =>
  if x1 = 0 then
    0
  else
    if (rat 16 (f0 17) a1) = (-1) then
      0
    else
      1
def m7_refusalOfKind (f0 : bkA) (a1 : Int32) (a2 : Int32) (a3 : Int32) (a4 : Int32) (a5 : Int32) : Int32 :=
  if a1 < 50 then
    2
  else
    if 350 < a1 then
      2
    else
      if a2 < a1 then
        2
      else
        if 400 < a2 then
          2
        else
          if a3 < 1 then
            2
          else
            if 20 < a3 then
              2
            else
              if a4 < 0 then
                2
              else
                if 30 < a4 then
                  2
                else
                  if a5 < 1 then
                    2
                  else
                    if a5 ≤ 40 then
                      if (f0 23 0) < 5 then
                        0
                      else
                        3
                    else
                      2
def m7_refusalOfHouse (f0 : bkA) : Int32 :=
  if (f0 23 1) < 8 then
    0
  else
    3
def m7_refusalOfDough (f0 : bkA) (a1 : Int32) (a2 : Int32) (a3 : Int32) : Int32 :=
  lt1 (m7_isHouse f0 a1) fun x1 =>
  if x1 = 0 then
    1
  else
    lt1 (m7_isKind f0 a2) fun x4 =>
    if x4 = 0 then
      1
    else
      if a3 < 1 then
        2
      else
        if a3 ≤ 4 then
          if (f0 23 2) < 16 then
            0
          else
            3
        else
          2
def m7_refusalOfSwap (f0 : bkA) (a1 : Int32) (a2 : Int32) : Int32 :=
  lt1 (m7_isDough f0 a1) fun x1 =>
  if x1 = 0 then
    1
  else
    lt1 (m7_isDough f0 a2) fun x4 =>
    if x4 = 0 then
      1
    else
      if a1 = a2 then
        2
      else
        lt1 (m7_isWaiting f0 a1) fun x8 =>
        if x8 = 0 then
          3
        else
          lt1 (m7_isWaiting f0 a2) fun x11 =>
          if x11 = 0 then
            3
          else
            0
def m7_refusalOfBring (f0 : bkA) (a1 : Int32) (a2 : Int32) : Int32 :=
  lt1 (m7_isHouse f0 a1) fun x1 =>
  if x1 = 0 then
    1
  else
    if a2 < 1 then
      2
    else
      if a2 ≤ 99 then
        if ((rat 8 (f0 5) a1) + a2) ≤ 999 then
          0
        else
          3
      else
        2
def m7_refusalOfStoke (f0 : bkA) (a1 : Int32) (a2 : Int32) : Int32 :=
  lt1 (m7_isHouse f0 a1) fun x1 =>
  if x1 = 0 then
    1
  else
    if a2 < 1 then
      2
    else
      if a2 ≤ 16 then
        lt1 (
            if (-20) ≤ ((rat 8 (f0 5) a1) - a2) then
              (0 : Int32)
            else
              (1 : Int32)) fun x7 =>
        if x7 = 0 then
          if ((f0 23 4) + (25 * a2)) ≤ 400 then
            0
          else
            3
        else
          3
      else
        2
def m7_refusalOfPass (f0 : bkA) (a1 : Int32) : Int32 :=
  if a1 < 1 then
    2
  else
    if a1 ≤ 100 then
      if ((f0 23 5) + a1) ≤ 100000 then
        0
      else
        3
    else
      2
def m7_newKind (f0 : bkA) (a1 : Int32) (a2 : Int32) (a3 : Int32) (a4 : Int32) (a5 : Int32) : Int32 × bkA :=
  lt_ (f0 23 0) fun x1 =>
  lt_ (ur f0 0 (rput 5 (f0 0) x1 a1)) fun f2 =>
  lt_ (ur f2 1 (rput 5 (f2 1) x1 a2)) fun f3 =>
  lt_ (ur f3 2 (rput 5 (f3 2) x1 a3)) fun f4 =>
  lt_ (ur f4 3 (rput 5 (f4 3) x1 a4)) fun f5 =>
  lt_ (ur f5 4 (rput 5 (f5 4) x1 a5)) fun f6 =>
  lt_ (ur f6 23 (upd (f6 23) 0 (x1 + 1))) fun f7 =>
  (x1, f7)
def m7_newHouse (f0 : bkA) : Int32 × bkA :=
  lt_ (f0 23 1) fun x1 =>
  lt_ (ur f0 23 (upd (f0 23) 1 (x1 + 1))) fun f2 =>
  (x1, f2)
def m7_newDough (f0 : bkA) (a1 : Int32) (a2 : Int32) (a3 : Int32) : Int32 × bkA :=
  lt_ (f0 23 2) fun x1 =>
  lt_ (ur f0 11 (rput 16 (f0 11) x1 a1)) fun f2 =>
  lt_ (ur f2 12 (rput 16 (f2 12) x1 a2)) fun f3 =>
  lt_ (ur f3 13 (rput 16 (f3 13) x1 a3)) fun f4 =>
  lt_ (ur f4 14 (rput 16 (f4 14) x1 0)) fun f5 =>
  lt_ (ur f5 15 (rput 16 (f5 15) x1 0)) fun f6 =>
  lt_ (ur f6 16 (rput 16 (f6 16) x1 0)) fun f7 =>
  lt_ (ur f7 17 (rput 16 (f7 17) x1 (-1))) fun f8 =>
  lt_ (ur f8 18 (rput 16 (f8 18) x1 0)) fun f9 =>
  lt_ (ur f9 23 (upd (f9 23) 2 (x1 + 1))) fun f10 =>
  lt_ (ur f10 22 (rput 16 (f10 22) (f10 23 3) x1)) fun f11 =>
  lt_ (ur f11 23 (upd (f11 23) 3 ((f11 23 3) + 1))) fun f12 =>
  (x1, f12)
def m7_renumber_L2 (N : Nat) : Nat → (Int32) → (Int32) → (Int32) → (bkA) → Option (bkA)
  | 0, _, _, _, _ => none
  | n+1, x2, x3, x4, f5 =>
    if (f5 23 3) ≤ x4 then
      some f5
    else
      lt1 (
          if (rat 16 (f5 22) x4) = x2 then
            lt_ (ur f5 22 (rput 16 (f5 22) x4 x3)) fun f12 =>
            f12
          else
            f5) fun f10 =>
      lt_ (x4 + 1) fun x13 =>
      m7_renumber_L2 N n x2 x3 x13 f10
def m7_renumber_L39 (N : Nat) : Nat → (Int32) → (Int32) → (Int32) → (bkA) → Option (bkA)
  | 0, _, _, _, _ => none
  | n+1, x17, x18, x19, f20 =>
    if 12 ≤ x19 then
      some f20
    else
      lt1 (
          if (rat 12 (f20 19) x19) = x17 then
            lt_ (ur f20 19 (rput 12 (f20 19) x19 x18)) fun f27 =>
            f27
          else
            f20) fun f25 =>
      lt_ (x19 + 1) fun x28 =>
      m7_renumber_L39 N n x17 x18 x28 f25
def m7_renumber (N : Nat) (f0 : bkA) (a1 : Int32) (a2 : Int32) : Option (bkA) :=
  ob1 (m7_renumber_L2 N N a1 a2 0 f0) fun f14 =>
  ob1 (m7_renumber_L39 N N a1 a2 0 f14) fun f29 =>
  some f29
def m7_takeLogs (f0 : bkA) (a1 : Int32) (a2 : Int32) : Int32 × bkA :=
  lt_ (ur f0 5 (rinc 8 (f0 5) a1 a2)) fun f1 =>
  lt_ (ur f1 8 (rinc 8 (f1 8) a1 a2)) fun f2 =>
  lt_ (ur f2 23 (upd (f2 23) 8 ((f2 23 8) + a2))) fun f3 =>
  (rat 8 (f3 5) a1, f3)
def m7_burnLogs (f0 : bkA) (a1 : Int32) (a2 : Int32) : Int32 × bkA :=
  lt_ (ur f0 5 (rinc 8 (f0 5) a1 (-a2))) fun f1 =>
  lt_ (ur f1 7 (rinc 8 (f1 7) a1 a2)) fun f2 =>
  lt_ (ur f2 23 (upd (f2 23) 6 ((f2 23 6) + a2))) fun f3 =>
  lt_ (ur f3 23 (upd (f3 23) 7 ((f3 23 7) + a2))) fun f4 =>
  lt_ (ur f4 23 (upd (f4 23) 4 ((f4 23 4) + (25 * a2)))) fun f5 =>
  (f5 23 4, f5)
def m7_useOfAll_L4 (N : Nat) : Nat → (Int32) → (Int32) → (bkA) → Option (Int32)
  | 0, _, _, _ => none
  | n+1, x2, x3, f0 =>
    if (f0 23 1) ≤ x3 then
      some x2
    else
      lt_ (x2 + (rat 8 (f0 6) x3)) fun x6 =>
      lt_ (x3 + 1) fun x7 =>
      m7_useOfAll_L4 N n x6 x7 f0
def m7_useOfAll (N : Nat) (f0 : bkA) : Option (Int32) :=
  ob1 (m7_useOfAll_L4 N N 0 0 f0) fun x8 =>
  some x8
def m7_owedBy_L53 (N : Nat) : Nat → (Int32) → (Int64) → (Int64) → (Int64) → (Int64) → (Int32) → (Int32) → (bkA) → Option (Int64 × Int32)
  | 0, _, _, _, _, _, _, _, _ => none
  | n+1, x10, x11, x12, x13, x14, x15, x16, f0 =>
    if (f0 23 1) ≤ x16 then
      some (x14, x15)
    else
      lt_ (((f0 23 6).toInt64) * ((rat 8 (f0 6) x16).toInt64)) fun x20 =>
      ckp (¬ x11 = 0) <|
      lt_ (x20 - x20 / x11 * x11) fun x22 =>
      ckp (¬ x11 = 0) <|
      lt_ (x14 - (x20 / x11)) fun x24 =>
      lt1 (
          if 0 < (lg_cmp x22 x13) then
            lt_ (x15 + 1) fun x32 =>
            x32
          else
            if (lg_cmp x22 x13) = 0 then
              if x10 ≤ x16 then
                x15
              else
                lt_ (x15 + 1) fun x35 =>
                x35
            else
              x15) fun x30 =>
      lt_ (x16 + 1) fun x36 =>
      m7_owedBy_L53 N n x10 x11 x12 x13 x24 x30 x36 f0
def m7_owedBy (N : Nat) (f0 : bkA) (a1 : Int32) : Option (Int32) :=
  ob1 (m7_useOfAll N f0) fun x1 =>
  lt_ (x1.toInt64) fun x3 =>
  if 0 < (lg_cmp x3 0) then
    lt_ (((f0 23 6).toInt64) * ((rat 8 (f0 6) a1).toInt64)) fun x5 =>
    ckp (¬ x3 = 0) <|
    lt_ (x5 - x5 / x3 * x3) fun x7 =>
    lt_ ((f0 23 6).toInt64) fun x8 =>
    ob2 (m7_owedBy_L53 N N a1 x3 x5 x7 x8 0 0 f0) fun x37 x38 =>
    ckp (¬ x3 = 0) <|
    lt2 (
        if 0 ≤ (lg_cmp (x38.toInt64) x37) then
          ((x5 / x3).toInt32, (0 : Int32))
        else
          ((x5 / x3).toInt32, (1 : Int32))) fun x42 x43 =>
    some (x42 + x43)
  else
    some 0
def m7_growOlder_L9 (N : Nat) : Nat → (Int32) → (Int32) → (Int32) → (bkA) → Option (Int32 × bkA)
  | 0, _, _, _, _ => none
  | n+1, x3, x4, x5, f6 =>
    if x3 ≤ x5 then
      some (x4, f6)
    else
      lt_ (rat 16 (f6 22) x5) fun x10 =>
      lt_ (rat 16 (f6 12) x10) fun x11 =>
      lt_ (ur f6 14 (rinc 16 (f6 14) x10 1)) fun f12 =>
      lt2 (
          if (rat 16 (f12 14) x10) ≤ ((rat 5 (f12 3) x11) + (rat 5 (f12 4) x11)) then
            lt_ (ur f12 22 (rput 16 (f12 22) x4 x10)) fun f21 =>
            lt_ (x4 + 1) fun x22 =>
            (x22, f21)
          else
            lt_ (ur f12 15 (rput 16 (f12 15) x10 3)) fun f23 =>
            lt_ (ur f23 23 (upd (f23 23) 11 ((f23 23 11) + 1))) fun f24 =>
            (x4, f24)) fun x18 f19 =>
      lt_ (x5 + 1) fun x25 =>
      m7_growOlder_L9 N n x3 x18 x25 f19
def m7_growOlder (N : Nat) (f0 : bkA) : Option (bkA) :=
  lt_ (f0 23 3) fun x1 =>
  ob2 (m7_growOlder_L9 N N x1 0 0 f0) fun x26 f27 =>
  lt_ (ur f27 23 (upd (f27 23) 3 x26)) fun f29 =>
  some f29
def m7_isBaked_L24 (N : Nat) : Nat → (Int32) → (Int32) → (Int32) → (bkA) → Option (Int32)
  | 0, _, _, _, _ => none
  | n+1, x3, x4, x5, f0 =>
    if 12 ≤ x5 then
      some 1
    else
      if (rat 12 (f0 19) x5) = x3 then
        if x4 ≤ (rat 12 (f0 20) x5) then
          lt_ (x5 + 1) fun x10 =>
          m7_isBaked_L24 N n x3 x4 x10 f0
        else
          some 0
      else
        lt_ (x5 + 1) fun x8 =>
        m7_isBaked_L24 N n x3 x4 x8 f0
def m7_isBaked (N : Nat) (f0 : bkA) (a1 : Int32) : Option (Int32) :=
  lt_ (rat 5 (f0 2) (rat 16 (f0 12) a1)) fun x1 =>
  m7_isBaked_L24 N N a1 x1 0 f0
def m7_takeOut_L4 (N : Nat) : Nat → (Int32) → (Int32) → (Int32) → (bkA) → Option (Int32 × bkA)
  | 0, _, _, _, _ => none
  | n+1, x2, x3, x4, f5 =>
    if 12 ≤ x4 then
      some (x3, f5)
    else
      lt2 (
          if (rat 12 (f5 19) x4) = x2 then
            lt1 (
                if (rat 12 (f5 21) x4) < 3 then
                  x3
                else
                  lt_ (x3 + 1) fun x23 =>
                  x23) fun x21 =>
            lt_ (ur f5 19 (rput 12 (f5 19) x4 (-1))) fun f24 =>
            (x21, f24)
          else
            (x3, f5)) fun x16 f17 =>
      lt_ (x4 + 1) fun x25 =>
      m7_takeOut_L4 N n x2 x16 x25 f17
def m7_takeOut (N : Nat) (f0 : bkA) (a1 : Int32) : Option (bkA) :=
  ob2 (m7_takeOut_L4 N N a1 0 0 f0) fun x26 f27 =>
  lt_ (rat 16 (f27 11) a1) fun x29 =>
  lt_ (rat 16 (f27 13) a1) fun x30 =>
  lt_ (ur f27 15 (rput 16 (f27 15) a1 2)) fun f31 =>
  lt_ (ur f31 18 (rput 16 (f31 18) a1 x26)) fun f32 =>
  lt_ (ur f32 9 (rinc 8 (f32 9) x29 x30)) fun f33 =>
  lt_ (ur f33 10 (rinc 8 (f33 10) x29 x26)) fun f34 =>
  lt_ (ur f34 23 (upd (f34 23) 10 ((f34 23 10) + x30))) fun f35 =>
  some f35
def m7_coolDown (f0 : bkA) (a1 : Int32) (a2 : Int32) : bkA :=
  lt1 (
      if a1 ≤ 0 then
        (0 : Int32)
      else
        (1 : Int32)) fun x2 =>
  lt_ (a2 + x2) fun x4 =>
  lt_ ((2 + (4 * x4)) + (a1 / 2)) fun x5 =>
  lt_ (ur f0 23 (upd (f0 23) 9 ((f0 23 9) + x4))) fun f6 =>
  lt_ (ur f6 23 (upd (f6 23) 4 (if ((f6 23 4) - x5) < 0 then 0 else ((f6 23 4) - x5)))) fun f7 =>
  f7
def m7_warmthOf (a0 : Int32) (a1 : Int32) : Int32 :=
  if (a1 - (20 * (a0 / 4))) < 0 then 0 else (a1 - (20 * (a0 / 4)))
def m7_reasonAt_L24 (N : Nat) : Nat → (Int32) → (Int32) → (Int32) → (Int32) → (Int32) → (Int32) → (Int32) → (bkA) → Option (Int32 × Int32 × Int32)
  | 0, _, _, _, _, _, _, _, _ => none
  | n+1, x3, x4, x5, x6, x7, x8, x9, f0 =>
    if 12 ≤ x9 then
      some (x6, x7, x8)
    else
      lt1 (m5_isFree f0 x9) fun x14 =>
      lt3 (
          if x14 = 0 then
            (x6, x7, x8)
          else
            lt1 (m7_warmthOf x9 x4) fun x37 =>
            lt1 (
                if x37 < (rat 5 (f0 0) x5) then
                  (0 : Int32)
                else
                  (1 : Int32)) fun x40 =>
            lt_ (x6 + 1) fun x42 =>
            lt1 (
                if x40 = 0 then
                  (0 : Int32)
                else
                  (1 : Int32)) fun x44 =>
            lt_ (x7 + x44) fun x46 =>
            lt1 (
                if x40 = 0 then
                  (0 : Int32)
                else
                  if (rat 5 (f0 1) x5) < x37 then
                    (0 : Int32)
                  else
                    (1 : Int32)) fun x49 =>
            lt_ (x8 + x49) fun x52 =>
            (x42, x46, x52)) fun x33 x34 x35 =>
      lt_ (x9 + 1) fun x53 =>
      m7_reasonAt_L24 N n x3 x4 x5 x33 x34 x35 x53 f0
def m7_reasonAt (N : Nat) (f0 : bkA) (a1 : Int32) (a2 : Int32) : Option (Int32) :=
  lt_ (rat 16 (f0 12) a1) fun x1 =>
  ob3 (m7_reasonAt_L24 N N a1 a2 x1 0 0 0 0 f0) fun x54 x55 x56 =>
  lt_ (rat 16 (f0 13) a1) fun x58 =>
  if (rat 5 (f0 3) x1) ≤ (rat 16 (f0 14) a1) then
    if x58 ≤ x54 then
      if x58 ≤ x55 then
        if x58 ≤ x56 then
          some 0
        else
          some 5
      else
        some 4
    else
      some 3
  else
    some 2
def m7_reasonNow (N : Nat) (f0 : bkA) (a1 : Int32) : Option (Int32) :=
  lt1 (m7_isWaiting f0 a1) fun x1 =>
  if x1 = 0 then
    some (-1)
  else
    ob1 (m7_reasonAt N f0 a1 (f0 23 4)) fun x4 =>
    some x4
def m7_fewestLogsFor_L12 (N : Nat) : Nat → (Int32) → (Int32) → (bkA) → Option (Int32)
  | 0, _, _, _ => none
  | n+1, x5, x6, f0 =>
    if 16 < x6 then
      some (-1)
    else
      if 400 < ((f0 23 4) + (25 * x6)) then
        some (-1)
      else
        ob1 (m7_reasonAt N f0 x5 ((f0 23 4) + (25 * x6))) fun x9 =>
        if x9 = 0 then
          some x6
        else
          lt_ (x6 + 1) fun x12 =>
          m7_fewestLogsFor_L12 N n x5 x12 f0
def m7_fewestLogsFor (N : Nat) (f0 : bkA) (a1 : Int32) : Option (Int32) :=
  lt1 (m7_isWaiting f0 a1) fun x1 =>
  if x1 = 0 then
    some (-1)
  else
    m7_fewestLogsFor_L12 N N a1 0 f0
def m7_setOfSpoiled_L4 (N : Nat) : Nat → (Int32) → (Int32) → (bkA) → Option (Int32)
  | 0, _, _, _ => none
  | n+1, x2, x3, f0 =>
    if (f0 23 2) ≤ x3 then
      some x2
    else
      lt1 (
          if (rat 16 (f0 15) x3) = 3 then
            lt_ (x2 ||| (1 <<< (x3 &&& 31))) fun x10 =>
            x10
          else
            x2) fun x8 =>
      lt_ (x3 + 1) fun x11 =>
      m7_setOfSpoiled_L4 N n x8 x11 f0
def m7_setOfSpoiled (N : Nat) (f0 : bkA) : Option (Int32) :=
  ob1 (m7_setOfSpoiled_L4 N N 0 0 f0) fun x12 =>
  some x12
def m7_valueOfKind (f0 : bkA) (a1 : Int32) (a2 : Int32) : Int32 :=
  if a2 = 0 then
    rat 5 (f0 0) a1
  else if a2 = 1 then
    rat 5 (f0 1) a1
  else if a2 = 2 then
    rat 5 (f0 2) a1
  else if a2 = 3 then
    rat 5 (f0 3) a1
  else 
    rat 5 (f0 4) a1
def m7_countDoughsOf_L4 (N : Nat) : Nat → (Int32) → (Int32) → (Int32) → (bkA) → Option (Int32)
  | 0, _, _, _, _ => none
  | n+1, x2, x3, x4, f0 =>
    if (f0 23 2) ≤ x4 then
      some x3
    else
      lt1 (
          if (rat 16 (f0 11) x4) = x2 then
            lt_ (x3 + 1) fun x11 =>
            x11
          else
            x3) fun x9 =>
      lt_ (x4 + 1) fun x12 =>
      m7_countDoughsOf_L4 N n x2 x9 x12 f0
def m7_countDoughsOf (N : Nat) (f0 : bkA) (a1 : Int32) : Option (Int32) :=
  ob1 (m7_countDoughsOf_L4 N N a1 0 0 f0) fun x13 =>
  some x13
def m7_placeInLine_L2 (N : Nat) : Nat → (Int32) → (Int32) → (bkA) → Option (Int32)
  | 0, _, _, _ => none
  | n+1, x2, x3, f0 =>
    if (f0 23 3) ≤ x3 then
      some (-1)
    else
      if (rat 16 (f0 22) x3) = x2 then
        some x3
      else
        lt_ (x3 + 1) fun x6 =>
        m7_placeInLine_L2 N n x2 x6 f0
def m7_placeInLine (N : Nat) (f0 : bkA) (a1 : Int32) : Option (Int32) :=
  m7_placeInLine_L2 N N a1 0 f0
def m7_setOfPlaces_L4 (N : Nat) : Nat → (Int32) → (Int32) → (Int32) → (bkA) → Option (Int32)
  | 0, _, _, _, _ => none
  | n+1, x2, x3, x4, f0 =>
    if 12 ≤ x4 then
      some x3
    else
      lt1 (
          if (rat 12 (f0 19) x4) = x2 then
            lt_ (x3 ||| (1 <<< (x4 &&& 31))) fun x11 =>
            x11
          else
            x3) fun x9 =>
      lt_ (x4 + 1) fun x12 =>
      m7_setOfPlaces_L4 N n x2 x9 x12 f0
def m7_setOfPlaces (N : Nat) (f0 : bkA) (a1 : Int32) : Option (Int32) :=
  ob1 (m7_setOfPlaces_L4 N N a1 0 0 f0) fun x13 =>
  some x13
def m7_valueOfPlace (f0 : bkA) (a1 : Int32) (a2 : Int32) : Int32 :=
  if a2 = 0 then
    lt1 (m7_warmthOf a1 (f0 23 4)) fun x5 =>
    x5
  else
    lt1 (m5_isFree f0 a1) fun x2 =>
    if x2 = 0 then
      if a2 = 1 then
        rat 12 (f0 19) a1
      else if a2 = 2 then
        rat 12 (f0 20) a1
      else 
        rat 12 (f0 21) a1
    else
      (-1)
def m7_valueOfWholeHouse (N : Nat) (f0 : bkA) (a1 : Int32) : Option (Int32) :=
  if a1 = 0 then
    some (f0 23 0)
  else if a1 = 1 then
    some (f0 23 1)
  else if a1 = 2 then
    some (f0 23 2)
  else if a1 = 3 then
    some (f0 23 4)
  else if a1 = 4 then
    some (f0 23 5)
  else if a1 = 5 then
    some (f0 23 3)
  else if a1 = 6 then
    ob1 (m5_countFree N f0) fun x1 =>
    some x1
  else if a1 = 7 then
    some (f0 23 6)
  else if a1 = 8 then
    ob1 (m7_useOfAll N f0) fun x3 =>
    some x3
  else if a1 = 9 then
    some (f0 23 7)
  else if a1 = 10 then
    some (f0 23 8)
  else if a1 = 11 then
    some (f0 23 9)
  else if a1 = 12 then
    some (f0 23 10)
  else 
    some (f0 23 11)
def m7_doughInLine (f0 : bkA) (a1 : Int32) : Int32 :=
  if a1 < 0 then
    (-1)
  else
    if (f0 23 3) ≤ a1 then
      (-1)
    else
      rat 16 (f0 22) a1
def m7_clearAway_L12 (N : Nat) : Nat → (Int32) → (Int32) → (Int32) → (bkA) → Option (Int32 × bkA)
  | 0, _, _, _, _ => none
  | n+1, x3, x4, x5, f6 =>
    if x3 ≤ x5 then
      some (x4, f6)
    else
      lt_ (rat 16 (f6 15) x5) fun x10 =>
      ob2 (
          if x10 = 0 then
            lt1 (m1_move f6 x5 x4) fun f26 =>
            ob1 (m7_renumber N f26 x5 x4) fun f28 =>
            lt_ (x4 + 1) fun x30 =>
            some (x30, f28)
          else
            if x10 = 1 then
              lt1 (m1_move f6 x5 x4) fun f32 =>
              ob1 (m7_renumber N f32 x5 x4) fun f34 =>
              lt_ (x4 + 1) fun x36 =>
              some (x36, f34)
            else
              some (x4, f6)) fun x23 f24 =>
      lt_ (x5 + 1) fun x37 =>
      m7_clearAway_L12 N n x3 x23 x37 f24
def m7_clearAway (N : Nat) (f0 : bkA) : Option (Int32 × bkA) :=
  lt_ (f0 23 2) fun x1 =>
  ob2 (m7_clearAway_L12 N N x1 0 0 f0) fun x38 f39 =>
  lt_ (ur f39 23 (upd (f39 23) 2 x38)) fun f41 =>
  some (x38, f41)
def m7_exchange (N : Nat) (f0 : bkA) (a1 : Int32) (a2 : Int32) : Option (Int32 × bkA) :=
  ob1 (m7_placeInLine N f0 a1) fun x1 =>
  ob1 (m7_placeInLine N f0 a2) fun x3 =>
  lt_ (ur f0 22 (rput 16 (f0 22) x1 a2)) fun f5 =>
  lt_ (ur f5 22 (rput 16 (f5 22) x3 a1)) fun f6 =>
  some (x3, f6)
def m7_settleLogs_L16 (N : Nat) : Nat → (Int32) → (Int32) → (bkA) → Option (bkA)
  | 0, _, _, _ => none
  | n+1, x6, x7, f8 =>
    if (f8 23 1) ≤ x7 then
      some f8
    else
      ob1 (m7_owedBy N f8 x7) fun x11 =>
      lt_ (ur f8 5 (rinc 8 (f8 5) x7 ((rat 8 (f8 7) x7) - x11))) fun f13 =>
      lt_ (x7 + 1) fun x14 =>
      m7_settleLogs_L16 N n x6 x14 f13
def m7_settleLogs (N : Nat) (f0 : bkA) : Option (Int32 × bkA) :=
  ob1 (m7_useOfAll N f0) fun x1 =>
  if x1 = 0 then
    some (0, f0)
  else
    lt_ (f0 23 6) fun x4 =>
    ob1 (m7_settleLogs_L16 N N x4 0 f0) fun f15 =>
    lt_ (ur f15 6 (rfill 8 (f15 6) 0)) fun f17 =>
    lt_ (ur f17 7 (rfill 8 (f17 7) 0)) fun f18 =>
    lt_ (ur f18 23 (upd (f18 23) 6 0)) fun f19 =>
    some (x4, f19)
def m7_load_L27 (N : Nat) : Nat → (Int32) → (Int32) → (Int32) → (Int32) → (bkA) → Option (bkA)
  | 0, _, _, _, _, _ => none
  | n+1, x4, x5, x6, x7, f8 =>
    if 12 ≤ x7 then
      some f8
    else
      if x6 ≤ 0 then
        some f8
      else
        lt1 (m7_warmthOf x7 (f8 23 4)) fun x12 =>
        lt1 (m5_isFree f8 x7) fun x14 =>
        lt2 (
            if x14 = 0 then
              (x6, f8)
            else
              if x12 < (rat 5 (f8 0) x5) then
                (x6, f8)
              else
                if (rat 5 (f8 1) x5) < x12 then
                  (x6, f8)
                else
                  lt1 (m5_putLoaf f8 x7 x4) fun f27 =>
                  lt_ (x6 + (-1)) fun x29 =>
                  (x29, f27)) fun x22 f23 =>
        lt_ (x7 + 1) fun x30 =>
        m7_load_L27 N n x4 x5 x22 x30 f23
def m7_load (N : Nat) (f0 : bkA) (a1 : Int32) : Option (bkA) :=
  lt_ (rat 16 (f0 12) a1) fun x1 =>
  lt_ (rat 16 (f0 13) a1) fun x2 =>
  ob1 (m7_load_L27 N N a1 x1 x2 0 f0) fun f31 =>
  lt_ (ur f31 15 (rput 16 (f31 15) a1 1)) fun f33 =>
  lt_ (ur f33 17 (rput 16 (f33 17) a1 (f33 23 5))) fun f34 =>
  some f34
def m7_heatLoaves_L2 (N : Nat) : Nat → (Int32) → (bkA) → Option (bkA)
  | 0, _, _ => none
  | n+1, x2, f3 =>
    if 12 ≤ x2 then
      some f3
    else
      lt1 (m5_isFree f3 x2) fun x6 =>
      lt1 (
          if x6 = 0 then
            lt_ (rat 12 (f3 19) x2) fun x26 =>
            lt_ (rat 16 (f3 12) x26) fun x27 =>
            lt1 (m7_warmthOf x2 (f3 23 4)) fun x28 =>
            lt1 (
                if x28 < (rat 5 (f3 0) x27) then
                  f3
                else
                  lt_ (ur f3 20 (rinc 12 (f3 20) x2 1)) fun f34 =>
                  f34) fun f32 =>
            lt1 (
                if x28 ≤ (rat 5 (f32 1) x27) then
                  f32
                else
                  lt_ (ur f32 21 (rinc 12 (f32 21) x2 1)) fun f39 =>
                  f39) fun f37 =>
            lt_ (ur f37 6 (rinc 8 (f37 6) (rat 16 (f37 11) x26) 1)) fun f40 =>
            f40
          else
            f3) fun f24 =>
      lt_ (x2 + 1) fun x41 =>
      m7_heatLoaves_L2 N n x41 f24
def m7_heatLoaves (N : Nat) (f0 : bkA) : Option (bkA) :=
  ob1 (m7_heatLoaves_L2 N N 0 f0) fun f42 =>
  some f42
def m7_takeOutDone_L4 (N : Nat) : Nat → (Int32) → (Int32) → (bkA) → Option (Int32 × bkA)
  | 0, _, _, _ => none
  | n+1, x2, x3, f4 =>
    if (f4 23 2) ≤ x3 then
      some (x2, f4)
    else
      ob2 (
          if (rat 16 (f4 15) x3) = 1 then
            ob1 (m7_isBaked N f4 x3) fun x18 =>
            if x18 = 0 then
              some (x2, f4)
            else
              ob1 (m7_takeOut N f4 x3) fun f21 =>
              lt_ (x2 + 1) fun x23 =>
              some (x23, f21)
          else
            some (x2, f4)) fun x15 f16 =>
      lt_ (x3 + 1) fun x24 =>
      m7_takeOutDone_L4 N n x15 x24 f16
def m7_takeOutDone (N : Nat) (f0 : bkA) : Option (Int32 × bkA) :=
  ob2 (m7_takeOutDone_L4 N N 0 0 f0) fun x25 f26 =>
  some (x25, f26)
def m7_valueOfHouse (N : Nat) (f0 : bkA) (a1 : Int32) (a2 : Int32) : Option (Int32) :=
  if a2 = 0 then
    some (rat 8 (f0 5) a1)
  else if a2 = 1 then
    some (rat 8 (f0 6) a1)
  else if a2 = 2 then
    some (rat 8 (f0 7) a1)
  else if a2 = 3 then
    some (rat 8 (f0 8) a1)
  else if a2 = 4 then
    ob1 (m7_countDoughsOf N f0 a1) fun x1 =>
    some x1
  else if a2 = 5 then
    some (rat 8 (f0 9) a1)
  else 
    some (rat 8 (f0 10) a1)
def m7_valueOfDough (N : Nat) (f0 : bkA) (a1 : Int32) (a2 : Int32) : Option (Int32) :=
  if a2 = 0 then
    some (rat 16 (f0 11) a1)
  else if a2 = 1 then
    some (rat 16 (f0 12) a1)
  else if a2 = 2 then
    some (rat 16 (f0 13) a1)
  else if a2 = 3 then
    some (rat 16 (f0 14) a1)
  else if a2 = 4 then
    some (rat 16 (f0 15) a1)
  else if a2 = 5 then
    some (rat 16 (f0 16) a1)
  else if a2 = 6 then
    some (rat 16 (f0 17) a1)
  else if a2 = 7 then
    ob1 (m7_placeInLine N f0 a1) fun x1 =>
    some x1
  else if a2 = 8 then
    ob1 (m7_setOfPlaces N f0 a1) fun x3 =>
    some x3
  else 
    some (rat 16 (f0 18) a1)
def m7_loadFirst_L12 (N : Nat) : Nat → (Int32) → (Int32) → (Int32) → (Int32) → (bkA) → Option (Int32 × Int32 × bkA)
  | 0, _, _, _, _, _ => none
  | n+1, x3, x4, x5, x6, f7 =>
    if x3 ≤ x6 then
      some (x4, x5, f7)
    else
      lt_ (rat 16 (f7 22) x6) fun x12 =>
      ob1 (
          if x5 ≤ 0 then
            ob1 (m7_reasonAt N f7 x12 (f7 23 4)) fun x18 =>
            some x18
          else
            some (1 : Int32)) fun x16 =>
      ob3 (
          if x16 = 0 then
            ob1 (m7_load N f7 x12) fun f34 =>
            lt_ (rat 16 (f34 13) x12) fun x36 =>
            some (x4, x36, f34)
          else
            lt_ (ur f7 16 (rput 16 (f7 16) x12 x16)) fun f31 =>
            lt_ (ur f31 22 (rput 16 (f31 22) x4 x12)) fun f32 =>
            lt_ (x4 + 1) fun x33 =>
            some (x33, x5, f32)) fun x27 x28 f29 =>
      lt_ (x6 + 1) fun x37 =>
      m7_loadFirst_L12 N n x3 x27 x28 x37 f29
def m7_loadFirst (N : Nat) (f0 : bkA) : Option (Int32 × bkA) :=
  lt_ (f0 23 3) fun x1 =>
  ob3 (m7_loadFirst_L12 N N x1 0 0 0 f0) fun x38 x39 f40 =>
  lt_ (ur f40 23 (upd (f40 23) 3 x38)) fun f42 =>
  some (x39, f42)
def m7_passTicks_L4 (N : Nat) : Nat → (Int32) → (Int32) → (Int32) → (bkA) → Option (Int32 × bkA)
  | 0, _, _, _, _ => none
  | n+1, x2, x3, x4, f5 =>
    if x2 ≤ x4 then
      some (x3, f5)
    else
      ob1 (m7_growOlder N f5) fun f9 =>
      ob2 (m7_loadFirst N f9) fun x11 f12 =>
      ob1 (m7_heatLoaves N f12) fun f14 =>
      ob2 (m7_takeOutDone N f14) fun x16 f17 =>
      lt1 (m7_coolDown f17 x11 x16) fun f19 =>
      lt_ (ur f19 23 (upd (f19 23) 5 ((f19 23 5) + 1))) fun f21 =>
      lt_ (x3 + x16) fun x22 =>
      lt_ (x4 + 1) fun x23 =>
      m7_passTicks_L4 N n x2 x22 x23 f21
def m7_passTicks (N : Nat) (f0 : bkA) (a1 : Int32) : Option (Int32 × bkA) :=
  ob2 (m7_passTicks_L4 N N a1 0 0 f0) fun x24 f25 =>
  some (x24, f25)
def m0_length (c0 : bkA) : Int32 :=
  c0 2 0
def m0_refusalOfByte (c0 : bkA) (a1 : Int32) : Int32 :=
  if a1 < 0 then
    2
  else
    if a1 ≤ 127 then
      if (c0 2 0) < 150 then
        0
      else
        3
    else
      2
def m0_append (c0 : bkA) (a1 : Int32) : Int32 × bkA :=
  lt_ (ur c0 0 (rput 150 (c0 0) (c0 2 0) a1)) fun c1 =>
  lt_ (ur c1 2 (upd (c1 2) 0 ((c1 2 0) + 1))) fun c2 =>
  (c2 2 0, c2)
def m0_empty (c0 : bkA) : Int32 × bkA :=
  lt_ (c0 2 0) fun x1 =>
  lt_ (ur c0 2 (upd (c0 2) 0 0)) fun c2 =>
  (x1, c2)
def m0_word (c0 : bkA) : Int32 :=
  c0 2 2
def m0_number (c0 : bkA) (a1 : Int32) : Int32 :=
  rat 5 (c0 1) a1
def m0_rewind (c0 : bkA) : bkA :=
  lt_ (ur c0 2 (upd (c0 2) 1 0)) fun c1 =>
  lt_ (ur c1 2 (upd (c1 2) 3 (-1))) fun c2 =>
  c2
def m0_failAt (c0 : bkA) (a1 : Int32) : Int32 × bkA :=
  lt_ (ur c0 2 (upd (c0 2) 3 a1)) fun c1 =>
  (0, c1)
def m0_byteAtCursor (c0 : bkA) : Int32 :=
  if (c0 2 0) ≤ (c0 2 1) then
    (-1)
  else
    rat 150 (c0 0) (c0 2 1)
def m0_isLetter (a0 : Int32) : Int32 :=
  if a0 < 97 then
    0
  else
    if 122 < a0 then
      0
    else
      1
def m0_isDigit (a0 : Int32) : Int32 :=
  if a0 < 48 then
    0
  else
    if 57 < a0 then
      0
    else
      1
def m0_numbersOf (a0 : Int32) : Int32 :=
  if a0 = 0 then
    5
  else if a0 = 1 then
    0
  else if a0 = 2 then
    3
  else if a0 = 3 then
    2
  else if a0 = 4 then
    2
  else if a0 = 5 then
    1
  else if a0 = 6 then
    2
  else 
    0
def m0_skipSpaces_L0 (N : Nat) : Nat → (bkA) → Option (bkA)
  | 0, _ => none
  | n+1, c2 =>
    if (c2 2 0) ≤ (c2 2 1) then
      some c2
    else
      lt1 (m0_byteAtCursor c2) fun x5 =>
      if x5 = 32 then
        lt_ (ur c2 2 (upd (c2 2) 1 ((c2 2 1) + 1))) fun c8 =>
        m0_skipSpaces_L0 N n c8
      else
        some c2
def m0_skipSpaces (N : Nat) (c0 : bkA) : Option (bkA) :=
  ob1 (m0_skipSpaces_L0 N N c0) fun c9 =>
  some c9
def m0_readNumber_L26 (N : Nat) : Nat → (Int32) → (Int32) → (Int32) → (bkA) → Option (Int32 × Int32 × bkA)
  | 0, _, _, _, _ => none
  | n+1, x7, x8, x9, c10 =>
    if 3 ≤ x8 then
      some (x8, x9, c10)
    else
      lt1 (m0_byteAtCursor c10) fun x15 =>
      lt1 (m0_isDigit x15) fun x17 =>
      if x17 = 0 then
        some (x8, x9, c10)
      else
        lt1 (m0_byteAtCursor c10) fun x20 =>
        lt_ ((10 * x9) + (x20 - 48)) fun x22 =>
        lt_ (x8 + 1) fun x23 =>
        lt_ (ur c10 2 (upd (c10 2) 1 ((c10 2 1) + 1))) fun c24 =>
        m0_readNumber_L26 N n x7 x23 x22 c24
def m0_readNumber (N : Nat) (c0 : bkA) (a1 : Int32) : Option (Int32 × bkA) :=
  lt1 (m0_byteAtCursor c0) fun x1 =>
  if x1 = 32 then
    ob1 (m0_skipSpaces N c0) fun c4 =>
    ob3 (m0_readNumber_L26 N N a1 0 0 c4) fun x25 x26 c27 =>
    lt_ (ur c27 1 (rput 5 (c27 1) a1 x26)) fun c29 =>
    if 0 < x25 then
      some (1, c29)
    else
      lt2 (m0_failAt c29 (c29 2 1)) fun x31 c32 =>
      if x31 = 0 then
        some (0, c32)
      else
        some (1, c32)
  else
    lt2 (m0_failAt c0 (c0 2 1)) fun x35 c36 =>
    ckp (x35 = 0 ∨ x35 = 1) <|
    some (x35, c36)
def m9_in (a0 : Int32) (a1 : Int32) (a2 : Int32) : Int32 :=
  if a0 < a1 then
    0
  else
    if a2 < a0 then
      0
    else
      1
def m9_letterOf (a0 : Int32) (a1 : Int32) (a2 : Int32) (a3 : Int32) (a4 : Int32) (a5 : Int32) (a6 : Int32) : Int32 :=
  if a0 = 0 then
    a1
  else
    if a0 = 1 then
      a2
    else
      if a0 = 2 then
        a3
      else
        if a0 = 3 then
          a4
        else
          if a0 = 4 then
            a5
          else
            if a0 = 5 then
              a6
            else
              0
def m9_letterOfWord (a0 : Int32) (a1 : Int32) : Int32 :=
  if a0 = 0 then
    lt1 (m9_letterOf a1 107 105 110 100 0 0) fun x1 =>
    x1
  else if a0 = 1 then
    lt1 (m9_letterOf a1 104 111 117 115 101 0) fun x3 =>
    x3
  else if a0 = 2 then
    lt1 (m9_letterOf a1 100 111 117 103 104 0) fun x5 =>
    x5
  else if a0 = 3 then
    lt1 (m9_letterOf a1 98 114 105 110 103 0) fun x7 =>
    x7
  else if a0 = 4 then
    lt1 (m9_letterOf a1 115 116 111 107 101 0) fun x9 =>
    x9
  else if a0 = 5 then
    lt1 (m9_letterOf a1 112 97 115 115 0 0) fun x11 =>
    x11
  else if a0 = 6 then
    lt1 (m9_letterOf a1 115 119 97 112 0 0) fun x13 =>
    x13
  else 
    lt1 (m9_letterOf a1 115 101 116 116 108 101) fun x15 =>
    x15
def m9_numbersOf (a0 : Int32) : Int32 :=
  if a0 = 0 then
    5
  else
    if a0 = 2 then
      3
    else
      if a0 = 3 then
        2
      else
        if a0 = 4 then
          2
        else
          if a0 = 6 then
            2
          else
            if a0 = 5 then
              1
            else
              0
def m9_kindOf (r0 : Nat → Int32) (a1 : Int32) (a2 : Int32) : Option (Int32) :=
  ck ((12 + (5 * a1)) + a2) 265 <|
  some (r0 ((12 + (5 * a1)) + a2).toNatClampNeg)
def m9_of (r0 : Nat → Int32) (a1 : Int32) (a2 : Int32) : Option (Int32) :=
  ck ((85 + (8 * a1)) + a2) 265 <|
  some (r0 ((85 + (8 * a1)) + a2).toNatClampNeg)
def m9_put (r0 : Nat → Int32) (a1 : Int32) (a2 : Int32) (a3 : Int32) : Option ((Nat → Int32)) :=
  ck ((85 + (8 * a1)) + a2) 265 <|
  lt_ (upd r0 ((85 + (8 * a1)) + a2).toNatClampNeg a3) fun r2 =>
  some r2
def m9_byKind (r0 : Nat → Int32) (a1 : Int32) (a2 : Int32) : Option (Int32) :=
  ob1 (m9_of r0 a1 1) fun x1 =>
  ob1 (m9_kindOf r0 x1 a2) fun x3 =>
  some x3
def m9_at (r0 : Nat → Int32) (a1 : Int32) (a2 : Int32) : Option (Int32) :=
  ck ((229 + (3 * a1)) + a2) 265 <|
  some (r0 ((229 + (3 * a1)) + a2).toNatClampNeg)
def m9_heatAt (r0 : Nat → Int32) (a1 : Int32) : Option (Int32) :=
  ck 0 265 <|
  lt_ ((r0 (0 : Int32).toNatClampNeg) - (20 * (a1 / 4))) fun x2 =>
  if 0 ≤ x2 then
    some x2
  else
    some 0
def m9_placeInLine_L4 (N : Nat) : Nat → (Int32) → (Int32) → (Int32) → (Nat → Int32) → Option (Int32)
  | 0, _, _, _, _ => none
  | n+1, x2, x3, x4, r0 =>
    ck 5 265 <|
    if (r0 (5 : Int32).toNatClampNeg) ≤ x4 then
      some x3
    else
      ck (213 + x4) 265 <|
      lt1 (
          if (r0 (213 + x4).toNatClampNeg) = x2 then
            x4
          else
            x3) fun x10 =>
      lt_ (x4 + 1) fun x12 =>
      m9_placeInLine_L4 N n x2 x10 x12 r0
def m9_placeInLine (N : Nat) (r0 : Nat → Int32) (a1 : Int32) : Option (Int32) :=
  ob1 (m9_placeInLine_L4 N N a1 (-1) 0 r0) fun x13 =>
  some x13
def m9_leaveLine_L15 (N : Nat) : Nat → (Int32) → (Nat → Int32) → Option ((Nat → Int32))
  | 0, _, _ => none
  | n+1, x7, r8 =>
    ck 5 265 <|
    if (r8 (5 : Int32).toNatClampNeg) ≤ x7 then
      some r8
    else
      ck ((213 + x7) + 1) 265 <|
      ck (213 + x7) 265 <|
      lt_ (upd r8 (213 + x7).toNatClampNeg (r8 ((213 + x7) + 1).toNatClampNeg)) fun r14 =>
      lt_ (x7 + 1) fun x15 =>
      m9_leaveLine_L15 N n x15 r14
def m9_leaveLine (N : Nat) (r0 : Nat → Int32) (a1 : Int32) : Option ((Nat → Int32)) :=
  ob1 (m9_placeInLine N r0 a1) fun x1 =>
  ck 5 265 <|
  ck 5 265 <|
  lt_ (upd r0 (5 : Int32).toNatClampNeg ((r0 (5 : Int32).toNatClampNeg) - 1)) fun r5 =>
  ob1 (m9_leaveLine_L15 N N x1 r5) fun r16 =>
  some r16
def m9_age_L2 (N : Nat) : Nat → (Int32) → (Nat → Int32) → Option ((Nat → Int32))
  | 0, _, _ => none
  | n+1, x2, r3 =>
    ck 4 265 <|
    if (r3 (4 : Int32).toNatClampNeg) ≤ x2 then
      some r3
    else
      ob1 (m9_of r3 x2 4) fun x7 =>
      ob1 (
          if x7 = 0 then
            ob1 (m9_of r3 x2 3) fun x30 =>
            ob1 (m9_put r3 x2 3 (x30 + 1)) fun r32 =>
            ob1 (m9_of r32 x2 3) fun x34 =>
            ob1 (m9_byKind r32 x2 3) fun x36 =>
            ob1 (m9_byKind r32 x2 4) fun x38 =>
            if x34 ≤ (x36 + x38) then
              some r32
            else
              ob1 (m9_put r32 x2 4 3) fun r41 =>
              ob1 (m9_leaveLine N r41 x2) fun r43 =>
              ck 11 265 <|
              ck 11 265 <|
              lt_ (upd r43 (11 : Int32).toNatClampNeg ((r43 (11 : Int32).toNatClampNeg) + 1)) fun r47 =>
              some r47
          else
            some r3) fun r28 =>
      lt_ (x2 + 1) fun x48 =>
      m9_age_L2 N n x48 r28
def m9_age (N : Nat) (r0 : Nat → Int32) : Option ((Nat → Int32)) :=
  ob1 (m9_age_L2 N N 0 r0) fun r49 =>
  some r49
def m9_isFreeIn (r0 : Nat → Int32) (a1 : Int32) (a2 : Int32) (a3 : Int32) : Option (Int32) :=
  ob1 (m9_at r0 a1 0) fun x1 =>
  if x1 = (-1) then
    ob1 (m9_heatAt r0 a1) fun x4 =>
    lt1 (m9_in x4 a2 a3) fun x6 =>
    if x6 = 0 then
      some 0
    else
      some 1
  else
    some 0
def m9_freeIn_L5 (N : Nat) : Nat → (Int32) → (Int32) → (Int32) → (Int32) → (Nat → Int32) → Option (Int32)
  | 0, _, _, _, _, _ => none
  | n+1, x2, x3, x4, x5, r0 =>
    if 12 ≤ x5 then
      some x4
    else
      ob1 (m9_isFreeIn r0 x5 x2 x3) fun x8 =>
      lt1 (
          if x8 = 0 then
            (0 : Int32)
          else
            (1 : Int32)) fun x11 =>
      lt_ (x4 + x11) fun x13 =>
      lt_ (x5 + 1) fun x14 =>
      m9_freeIn_L5 N n x2 x3 x13 x14 r0
def m9_freeIn (N : Nat) (r0 : Nat → Int32) (a1 : Int32) (a2 : Int32) : Option (Int32) :=
  ob1 (m9_freeIn_L5 N N a1 a2 0 0 r0) fun x15 =>
  some x15
def m9_reasonOf (N : Nat) (r0 : Nat → Int32) (a1 : Int32) : Option (Int32) :=
  ob1 (m9_of r0 a1 2) fun x1 =>
  ob1 (m9_of r0 a1 3) fun x3 =>
  ob1 (m9_byKind r0 a1 3) fun x5 =>
  if x5 ≤ x3 then
    ob1 (m9_freeIn N r0 0 400) fun x8 =>
    if x1 ≤ x8 then
      ob1 (m9_byKind r0 a1 0) fun x11 =>
      ob1 (m9_freeIn N r0 x11 400) fun x13 =>
      if x1 ≤ x13 then
        ob1 (m9_byKind r0 a1 0) fun x16 =>
        ob1 (m9_byKind r0 a1 1) fun x18 =>
        ob1 (m9_freeIn N r0 x16 x18) fun x20 =>
        if x1 ≤ x20 then
          some 0
        else
          some 5
      else
        some 4
    else
      some 3
  else
    some 2
def m9_load_L31 (N : Nat) : Nat → (Int32) → (Int32) → (Int32) → (Nat → Int32) → Option ((Nat → Int32))
  | 0, _, _, _, _ => none
  | n+1, x11, x12, x13, r14 =>
    if 12 ≤ x13 then
      some r14
    else
      if x12 ≤ 0 then
        some r14
      else
        ob1 (m9_byKind r14 x11 0) fun x18 =>
        ob1 (m9_byKind r14 x11 1) fun x20 =>
        ob1 (m9_isFreeIn r14 x13 x18 x20) fun x22 =>
        ob2 (
            if x22 = 0 then
              some (x12, r14)
            else
              ck ((229 + (3 * x13)) + 0) 265 <|
              lt_ (upd r14 ((229 + (3 * x13)) + 0).toNatClampNeg x11) fun r36 =>
              ck ((229 + (3 * x13)) + 1) 265 <|
              lt_ (upd r36 ((229 + (3 * x13)) + 1).toNatClampNeg 0) fun r38 =>
              ck ((229 + (3 * x13)) + 2) 265 <|
              lt_ (upd r38 ((229 + (3 * x13)) + 2).toNatClampNeg 0) fun r40 =>
              lt_ (x12 + (-1)) fun x41 =>
              some (x41, r40)) fun x32 r33 =>
        lt_ (x13 + 1) fun x42 =>
        m9_load_L31 N n x11 x32 x42 r33
def m9_load (N : Nat) (r0 : Nat → Int32) (a1 : Int32) : Option ((Nat → Int32)) :=
  ob1 (m9_leaveLine N r0 a1) fun r1 =>
  ob1 (m9_put r1 a1 4 1) fun r3 =>
  ck 1 265 <|
  ob1 (m9_put r3 a1 6 (r3 (1 : Int32).toNatClampNeg)) fun r6 =>
  ob1 (m9_of r6 a1 2) fun x8 =>
  ob1 (m9_load_L31 N N a1 x8 0 r6) fun r43 =>
  ck 9 265 <|
  ck 9 265 <|
  lt_ (upd r43 (9 : Int32).toNatClampNeg ((r43 (9 : Int32).toNatClampNeg) + 1)) fun r47 =>
  some r47
def m9_lookAlong_L4 (N : Nat) : Nat → (Int32) → (Int32) → (Nat → Int32) → Option (Int32 × (Nat → Int32))
  | 0, _, _, _ => none
  | n+1, x2, x3, r4 =>
    ck 5 265 <|
    if (r4 (5 : Int32).toNatClampNeg) ≤ x3 then
      some (x2, r4)
    else
      ck (213 + x3) 265 <|
      lt_ (r4 (213 + x3).toNatClampNeg) fun x10 =>
      ob1 (
          if x2 ≤ 0 then
            ob1 (m9_reasonOf N r4 x10) fun x16 =>
            some x16
          else
            some (1 : Int32)) fun x14 =>
      ob3 (
          if x14 = 0 then
            ob1 (m9_of r4 x10 2) fun x33 =>
            ob1 (m9_load N r4 x10) fun r35 =>
            some (x33, x3, r35)
          else
            ob1 (m9_put r4 x10 5 x14) fun r30 =>
            lt_ (x3 + 1) fun x32 =>
            some (x2, x32, r30)) fun x26 x27 r28 =>
      m9_lookAlong_L4 N n x26 x27 r28
def m9_lookAlong (N : Nat) (r0 : Nat → Int32) : Option (Int32 × (Nat → Int32)) :=
  ob2 (m9_lookAlong_L4 N N 0 0 r0) fun x37 r38 =>
  some (x37, r38)
def m9_warm_L2 (N : Nat) : Nat → (Int32) → (Nat → Int32) → Option ((Nat → Int32))
  | 0, _, _ => none
  | n+1, x2, r3 =>
    if 12 ≤ x2 then
      some r3
    else
      ob1 (m9_at r3 x2 0) fun x6 =>
      ob1 (
          if x6 = (-1) then
            some r3
          else
            lt_ ((229 + (3 * x2)) + 1) fun x41 =>
            ck x41 265 <|
            ob1 (m9_heatAt r3 x2) fun x43 =>
            ob1 (m9_byKind r3 x6 0) fun x45 =>
            lt2 (
                if x43 < x45 then
                  (r3 x41.toNatClampNeg, (0 : Int32))
                else
                  (r3 x41.toNatClampNeg, (1 : Int32))) fun x48 x49 =>
            ck x41 265 <|
            lt_ (upd r3 x41.toNatClampNeg (x48 + x49)) fun r52 =>
            lt_ ((229 + (3 * x2)) + 2) fun x53 =>
            ck x53 265 <|
            ob1 (m9_heatAt r52 x2) fun x55 =>
            ob1 (m9_byKind r52 x6 1) fun x57 =>
            lt2 (
                if x55 ≤ x57 then
                  (r52 x53.toNatClampNeg, (0 : Int32))
                else
                  (r52 x53.toNatClampNeg, (1 : Int32))) fun x60 x61 =>
            ck x53 265 <|
            lt_ (upd r52 x53.toNatClampNeg (x60 + x61)) fun r64 =>
            ob1 (m9_of r64 x6 0) fun x65 =>
            lt_ ((37 + (6 * x65)) + 1) fun x67 =>
            ck x67 265 <|
            ck x67 265 <|
            lt_ (upd r64 x67.toNatClampNeg ((r64 x67.toNatClampNeg) + 1)) fun r70 =>
            some r70) fun r39 =>
      lt_ (x2 + 1) fun x71 =>
      m9_warm_L2 N n x71 r39
def m9_warm (N : Nat) (r0 : Nat → Int32) : Option ((Nat → Int32)) :=
  ob1 (m9_warm_L2 N N 0 r0) fun r72 =>
  some r72
def m9_isBaked_L18 (N : Nat) : Nat → (Int32) → (Int32) → (Int32) → (Nat → Int32) → Option (Int32)
  | 0, _, _, _, _ => none
  | n+1, x7, x8, x9, r0 =>
    if 12 ≤ x9 then
      some x8
    else
      ob1 (
          if x8 = 0 then
            some (0 : Int32)
          else
            ob1 (m9_at r0 x9 0) fun x23 =>
            if x23 = x7 then
              ob1 (m9_at r0 x9 1) fun x26 =>
              ob1 (m9_byKind r0 x7 2) fun x28 =>
              if x26 < x28 then
                some (0 : Int32)
              else
                some (1 : Int32)
            else
              some (1 : Int32)) fun x21 =>
      lt_ (x9 + 1) fun x31 =>
      m9_isBaked_L18 N n x7 x21 x31 r0
def m9_isBaked (N : Nat) (r0 : Nat → Int32) (a1 : Int32) : Option (Int32) :=
  ob1 (m9_of r0 a1 4) fun x1 =>
  lt1 (
      if x1 = 1 then
        (1 : Int32)
      else
        (0 : Int32)) fun x4 =>
  ob1 (m9_isBaked_L18 N N a1 x4 0 r0) fun x32 =>
  ckp (x32 = 0 ∨ x32 = 1) <|
  some x32
def m9_takeOut_L4 (N : Nat) : Nat → (Int32) → (Int32) → (Int32) → (Nat → Int32) → Option (Int32 × (Nat → Int32))
  | 0, _, _, _, _ => none
  | n+1, x2, x3, x4, r5 =>
    if 12 ≤ x4 then
      some (x3, r5)
    else
      ob1 (m9_at r5 x4 0) fun x9 =>
      ob2 (
          if x9 = x2 then
            ob1 (m9_at r5 x4 2) fun x27 =>
            lt1 (
                if x27 < 3 then
                  (0 : Int32)
                else
                  (1 : Int32)) fun x30 =>
            lt_ (x3 + x30) fun x32 =>
            ck ((229 + (3 * x4)) + 0) 265 <|
            lt_ (upd r5 ((229 + (3 * x4)) + 0).toNatClampNeg (-1)) fun r34 =>
            ck ((229 + (3 * x4)) + 1) 265 <|
            lt_ (upd r34 ((229 + (3 * x4)) + 1).toNatClampNeg 0) fun r36 =>
            ck ((229 + (3 * x4)) + 2) 265 <|
            lt_ (upd r36 ((229 + (3 * x4)) + 2).toNatClampNeg 0) fun r38 =>
            some (x32, r38)
          else
            some (x3, r5)) fun x24 r25 =>
      lt_ (x4 + 1) fun x39 =>
      m9_takeOut_L4 N n x2 x24 x39 r25
def m9_takeOut (N : Nat) (r0 : Nat → Int32) (a1 : Int32) : Option ((Nat → Int32)) :=
  ob2 (m9_takeOut_L4 N N a1 0 0 r0) fun x40 r41 =>
  ob1 (m9_put r41 a1 4 2) fun r43 =>
  ob1 (m9_put r43 a1 7 x40) fun r45 =>
  ob1 (m9_of r45 a1 0) fun x47 =>
  lt_ (37 + (6 * x47)) fun x49 =>
  lt_ (x49 + 4) fun x50 =>
  ck x50 265 <|
  ob1 (m9_of r45 a1 2) fun x52 =>
  ck x50 265 <|
  lt_ (upd r45 x50.toNatClampNeg ((r45 x50.toNatClampNeg) + x52)) fun r55 =>
  lt_ (x49 + 5) fun x56 =>
  ck x56 265 <|
  ck x56 265 <|
  lt_ (upd r55 x56.toNatClampNeg ((r55 x56.toNatClampNeg) + x40)) fun r59 =>
  ck 10 265 <|
  ob1 (m9_of r59 a1 2) fun x61 =>
  ck 10 265 <|
  lt_ (upd r59 (10 : Int32).toNatClampNeg ((r59 (10 : Int32).toNatClampNeg) + x61)) fun r64 =>
  ck 9 265 <|
  ck 9 265 <|
  lt_ (upd r64 (9 : Int32).toNatClampNeg ((r64 (9 : Int32).toNatClampNeg) + 1)) fun r67 =>
  some r67
def m9_tick_L23 (N : Nat) : Nat → (Int32) → (Int32) → (Int32) → (Int32) → (Nat → Int32) → Option (Int32 × (Nat → Int32))
  | 0, _, _, _, _, _ => none
  | n+1, x11, x12, x13, x14, r15 =>
    ck 4 265 <|
    if (r15 (4 : Int32).toNatClampNeg) ≤ x14 then
      some (x13, r15)
    else
      ob1 (m9_isBaked N r15 x14) fun x20 =>
      ob2 (
          if x20 = 0 then
            some (x13, r15)
          else
            ob1 (m9_takeOut N r15 x14) fun r29 =>
            lt_ (x13 + 1) fun x31 =>
            some (x31, r29)) fun x26 r27 =>
      lt_ (x14 + 1) fun x32 =>
      m9_tick_L23 N n x11 x12 x26 x32 r27
def m9_tick (N : Nat) (r0 : Nat → Int32) : Option (Int32 × (Nat → Int32)) :=
  ob1 (m9_age N r0) fun r1 =>
  ck 9 265 <|
  lt_ (r1 (9 : Int32).toNatClampNeg) fun x4 =>
  ob2 (m9_lookAlong N r1) fun x5 r6 =>
  ob1 (m9_warm N r6) fun r8 =>
  ob2 (m9_tick_L23 N N x4 x5 0 0 r8) fun x33 r34 =>
  ck 0 265 <|
  ck 9 265 <|
  ck 0 265 <|
  lt_ (upd r34 (0 : Int32).toNatClampNeg ((r34 (0 : Int32).toNatClampNeg) - ((2 + (4 * ((r34 (9 : Int32).toNatClampNeg) - x4))) + (x5 / 2)))) fun r39 =>
  ck 0 265 <|
  ob1 (
      if 0 ≤ (r39 (0 : Int32).toNatClampNeg) then
        ck 0 265 <|
        some (r39 (0 : Int32).toNatClampNeg)
      else
        some (0 : Int32)) fun x43 =>
  ck 0 265 <|
  lt_ (upd r39 (0 : Int32).toNatClampNeg x43) fun r47 =>
  ck 1 265 <|
  ck 1 265 <|
  lt_ (upd r47 (1 : Int32).toNatClampNeg ((r47 (1 : Int32).toNatClampNeg) + 1)) fun r50 =>
  some (x33, r50)
def m9_thrown (q0 : Nat → Int32) : Int32 :=
  q0 0
def m9_save_L10 (N : Nat) : Nat → (Int32) → (Nat → Int32) → Option ((Nat → Int32))
  | 0, _, _ => none
  | n+1, x18, sv19 =>
    if 795 ≤ x18 then
      some sv19
    else
      ck (x18 + 265) 1060 <|
      ck x18 1060 <|
      lt_ (upd sv19 x18.toNatClampNeg (sv19 (x18 + 265).toNatClampNeg)) fun sv24 =>
      lt_ (x18 + 1) fun x25 =>
      m9_save_L10 N n x25 sv24
def m9_save_L51 (N : Nat) : Nat → (Int32) → (Nat → Int32) → (Nat → Int32) → (Nat → Int32) → Option ((Nat → Int32))
  | 0, _, _, _, _ => none
  | n+1, x30, s0, sv31, q15 =>
    if 265 ≤ x30 then
      some sv31
    else
      ck x30 265 <|
      ck ((265 * (q15 1)) + x30) 1060 <|
      lt_ (upd sv31 ((265 * (q15 1)) + x30).toNatClampNeg (s0 x30.toNatClampNeg)) fun sv36 =>
      lt_ (x30 + 1) fun x37 =>
      m9_save_L51 N n x37 s0 sv36 q15
def m9_save (N : Nat) (s0 : Nat → Int32) (sv0 : Nat → Int32) (q0 : Nat → Int32) : Option ((Nat → Int32) × (Nat → Int32)) :=
  ob2 (
      if (q0 1) = 4 then
        ob1 (m9_save_L10 N N 0 sv0) fun sv26 =>
        lt_ (upd q0 1 ((q0 1) - 1)) fun q28 =>
        some (sv26, q28)
      else
        some (sv0, q0)) fun sv14 q15 =>
  ob1 (m9_save_L51 N N 0 s0 sv14 q15) fun sv38 =>
  lt_ (upd q15 1 ((q15 1) + 1)) fun q40 =>
  some (sv38, q40)
def m9_isKind (s0 : Nat → Int32) (a1 : Int32) : Option (Int32) :=
  ck 2 265 <|
  lt1 (m9_in a1 0 ((s0 (2 : Int32).toNatClampNeg) - 1)) fun x2 =>
  ckp (x2 = 0 ∨ x2 = 1) <|
  some x2
def m9_isHouse (s0 : Nat → Int32) (a1 : Int32) : Option (Int32) :=
  ck 3 265 <|
  lt1 (m9_in a1 0 ((s0 (3 : Int32).toNatClampNeg) - 1)) fun x2 =>
  ckp (x2 = 0 ∨ x2 = 1) <|
  some x2
def m9_isDough (s0 : Nat → Int32) (a1 : Int32) : Option (Int32) :=
  ck 4 265 <|
  lt1 (m9_in a1 0 ((s0 (4 : Int32).toNatClampNeg) - 1)) fun x2 =>
  ckp (x2 = 0 ∨ x2 = 1) <|
  some x2
def m9_passNow_L4 (N : Nat) : Nat → (Int32) → (Int32) → (Int32) → (Nat → Int32) → Option (Int32 × (Nat → Int32))
  | 0, _, _, _, _ => none
  | n+1, x2, x3, x4, s5 =>
    if x2 ≤ x4 then
      some (x3, s5)
    else
      ob2 (m9_tick N s5) fun x9 s10 =>
      lt_ (x3 + x9) fun x12 =>
      lt_ (x4 + 1) fun x13 =>
      m9_passNow_L4 N n x2 x12 x13 s10
def m9_passNow (N : Nat) (s0 : Nat → Int32) (a1 : Int32) : Option (Int32 × (Nat → Int32)) :=
  ob2 (m9_passNow_L4 N N a1 0 0 s0) fun x14 s15 =>
  some (x14, s15)
def m9_kindCode (s0 : Nat → Int32) (a1 : Int32) (a2 : Int32) (a3 : Int32) (a4 : Int32) (a5 : Int32) : Option (Int32) :=
  lt1 (m9_in a1 50 350) fun x1 =>
  if x1 = 0 then
    some 1
  else
    lt1 (m9_in a2 a1 400) fun x4 =>
    if x4 = 0 then
      some 1
    else
      lt1 (m9_in a3 1 20) fun x7 =>
      if x7 = 0 then
        some 1
      else
        lt1 (m9_in a4 0 30) fun x10 =>
        if x10 = 0 then
          some 1
        else
          lt1 (m9_in a5 1 40) fun x13 =>
          if x13 = 0 then
            some 1
          else
            ck 2 265 <|
            if (s0 (2 : Int32).toNatClampNeg) = 5 then
              some 2
            else
              some 0
def m9_addKindNow (s0 : Nat → Int32) (a1 : Int32) (a2 : Int32) (a3 : Int32) (a4 : Int32) (a5 : Int32) : Option (Int32 × (Nat → Int32)) :=
  ck 2 265 <|
  lt_ (12 + (5 * (s0 (2 : Int32).toNatClampNeg))) fun x2 =>
  ck (x2 + 0) 265 <|
  lt_ (upd s0 (x2 + 0).toNatClampNeg a1) fun s4 =>
  ck (x2 + 1) 265 <|
  lt_ (upd s4 (x2 + 1).toNatClampNeg a2) fun s6 =>
  ck (x2 + 2) 265 <|
  lt_ (upd s6 (x2 + 2).toNatClampNeg a3) fun s8 =>
  ck (x2 + 3) 265 <|
  lt_ (upd s8 (x2 + 3).toNatClampNeg a4) fun s10 =>
  ck (x2 + 4) 265 <|
  lt_ (upd s10 (x2 + 4).toNatClampNeg a5) fun s12 =>
  ck 2 265 <|
  ck 2 265 <|
  lt_ (upd s12 (2 : Int32).toNatClampNeg ((s12 (2 : Int32).toNatClampNeg) + 1)) fun s15 =>
  ck 2 265 <|
  some ((s15 (2 : Int32).toNatClampNeg) - 1, s15)
def m9_addKind (N : Nat) (s0 : Nat → Int32) (sv0 : Nat → Int32) (q0 : Nat → Int32) (a1 : Int32) (a2 : Int32) (a3 : Int32) (a4 : Int32) (a5 : Int32) : Option (Int32 × (Nat → Int32) × (Nat → Int32) × (Nat → Int32)) :=
  ob1 (m9_kindCode s0 a1 a2 a3 a4 a5) fun x1 =>
  lt_ (upd q0 0 x1) fun q3 =>
  if (q3 0) ≤ 0 then
    ob2 (m9_save N s0 sv0 q3) fun sv5 q6 =>
    ob2 (m9_addKindNow s0 a1 a2 a3 a4 a5) fun x8 s9 =>
    some (x8, s9, sv5, q6)
  else
    some (0, s0, sv0, q3)
def m9_addHouseNow_L2 (N : Nat) : Nat → (Int32) → (Nat → Int32) → Option ((Nat → Int32))
  | 0, _, _ => none
  | n+1, x2, s3 =>
    if 6 ≤ x2 then
      some s3
    else
      ck 3 265 <|
      ck ((37 + (6 * (s3 (3 : Int32).toNatClampNeg))) + x2) 265 <|
      lt_ (upd s3 ((37 + (6 * (s3 (3 : Int32).toNatClampNeg))) + x2).toNatClampNeg 0) fun s8 =>
      lt_ (x2 + 1) fun x9 =>
      m9_addHouseNow_L2 N n x9 s8
def m9_addHouseNow (N : Nat) (s0 : Nat → Int32) : Option (Int32 × (Nat → Int32)) :=
  ob1 (m9_addHouseNow_L2 N N 0 s0) fun s10 =>
  ck 3 265 <|
  ck 3 265 <|
  lt_ (upd s10 (3 : Int32).toNatClampNeg ((s10 (3 : Int32).toNatClampNeg) + 1)) fun s14 =>
  ck 3 265 <|
  some ((s14 (3 : Int32).toNatClampNeg) - 1, s14)
def m9_addHouse (N : Nat) (s0 : Nat → Int32) (sv0 : Nat → Int32) (q0 : Nat → Int32) : Option (Int32 × (Nat → Int32) × (Nat → Int32) × (Nat → Int32)) :=
  ck 3 265 <|
  lt1 (
      if (s0 (3 : Int32).toNatClampNeg) = 8 then
        (1 : Int32)
      else
        (0 : Int32)) fun x3 =>
  lt_ (upd q0 0 x3) fun q5 =>
  if (q5 0) ≤ 0 then
    ob2 (m9_save N s0 sv0 q5) fun sv7 q8 =>
    ob2 (m9_addHouseNow N s0) fun x10 s11 =>
    some (x10, s11, sv7, q8)
  else
    some (0, s0, sv0, q5)
def m9_doughCode (s0 : Nat → Int32) (a1 : Int32) (a2 : Int32) (a3 : Int32) : Option (Int32) :=
  ob1 (m9_isHouse s0 a1) fun x1 =>
  if x1 = 0 then
    some 1
  else
    ob1 (m9_isKind s0 a2) fun x4 =>
    if x4 = 0 then
      some 1
    else
      lt1 (m9_in a3 1 4) fun x7 =>
      if x7 = 0 then
        some 2
      else
        ck 4 265 <|
        if (s0 (4 : Int32).toNatClampNeg) = 16 then
          some 3
        else
          some 0
def m9_addDoughNow (s0 : Nat → Int32) (a1 : Int32) (a2 : Int32) (a3 : Int32) : Option (Int32 × (Nat → Int32)) :=
  ck 4 265 <|
  lt_ (s0 (4 : Int32).toNatClampNeg) fun x2 =>
  ck 4 265 <|
  ck 4 265 <|
  lt_ (upd s0 (4 : Int32).toNatClampNeg ((s0 (4 : Int32).toNatClampNeg) + 1)) fun s5 =>
  ob1 (m9_put s5 x2 0 a1) fun s6 =>
  ob1 (m9_put s6 x2 1 a2) fun s8 =>
  ob1 (m9_put s8 x2 2 a3) fun s10 =>
  ob1 (m9_put s10 x2 3 0) fun s12 =>
  ob1 (m9_put s12 x2 4 0) fun s14 =>
  ob1 (m9_put s14 x2 5 0) fun s16 =>
  ob1 (m9_put s16 x2 6 (-1)) fun s18 =>
  ob1 (m9_put s18 x2 7 0) fun s20 =>
  ck 5 265 <|
  ck (213 + (s20 (5 : Int32).toNatClampNeg)) 265 <|
  lt_ (upd s20 (213 + (s20 (5 : Int32).toNatClampNeg)).toNatClampNeg x2) fun s24 =>
  ck 5 265 <|
  ck 5 265 <|
  lt_ (upd s24 (5 : Int32).toNatClampNeg ((s24 (5 : Int32).toNatClampNeg) + 1)) fun s27 =>
  some (x2, s27)
def m9_addDough (N : Nat) (s0 : Nat → Int32) (sv0 : Nat → Int32) (q0 : Nat → Int32) (a1 : Int32) (a2 : Int32) (a3 : Int32) : Option (Int32 × (Nat → Int32) × (Nat → Int32) × (Nat → Int32)) :=
  ob1 (m9_doughCode s0 a1 a2 a3) fun x1 =>
  lt_ (upd q0 0 x1) fun q3 =>
  if (q3 0) ≤ 0 then
    ob2 (m9_save N s0 sv0 q3) fun sv5 q6 =>
    ob2 (m9_addDoughNow s0 a1 a2 a3) fun x8 s9 =>
    some (x8, s9, sv5, q6)
  else
    some (0, s0, sv0, q3)
def m9_clearDoughs_L60 (N : Nat) : Nat → (Int32) → (Int32) → (Int32) → (Int32) → (Nat → Int32) → Option ((Nat → Int32))
  | 0, _, _, _, _, _ => none
  | n+1, x26, x27, x28, x29, s30 =>
    if 8 ≤ x29 then
      some s30
    else
      if x28 = 0 then
        some s30
      else
        ob1 (m9_of s30 x27 x29) fun x34 =>
        ob1 (m9_put s30 x26 x29 x34) fun s36 =>
        lt_ (x29 + 1) fun x38 =>
        m9_clearDoughs_L60 N n x26 x27 x28 x38 s36
def m9_clearDoughs_L13 (N : Nat) : Nat → (Int32) → (Int32) → (Nat → Int32) → (Nat → Int32) → Option (Int32 × (Nat → Int32) × (Nat → Int32))
  | 0, _, _, _, _ => none
  | n+1, x6, x7, s8, rn9 =>
    ck 4 265 <|
    if (s8 (4 : Int32).toNatClampNeg) ≤ x7 then
      some (x6, s8, rn9)
    else
      ob1 (m9_of s8 x7 4) fun x15 =>
      lt1 (
          if 2 ≤ x15 then
            (0 : Int32)
          else
            (1 : Int32)) fun x18 =>
      lt1 (
          if x18 = 0 then
            ((-1) : Int32)
          else
            x6) fun x21 =>
      ck x7 16 <|
      lt_ (upd rn9 x7.toNatClampNeg x21) fun rn24 =>
      ob1 (m9_clearDoughs_L60 N N x6 x7 x18 0 s8) fun s39 =>
      lt1 (
          if x18 = 0 then
            (0 : Int32)
          else
            (1 : Int32)) fun x42 =>
      lt_ (x6 + x42) fun x44 =>
      lt_ (x7 + 1) fun x45 =>
      m9_clearDoughs_L13 N n x44 x45 s39 rn24
def m9_clearDoughs_L117 (N : Nat) : Nat → (Int32) → (Int32) → (Nat → Int32) → (Nat → Int32) → Option ((Nat → Int32))
  | 0, _, _, _, _ => none
  | n+1, x51, x52, s53, rn48 =>
    ck 5 265 <|
    if (s53 (5 : Int32).toNatClampNeg) ≤ x52 then
      some s53
    else
      ck (213 + x52) 265 <|
      ck (s53 (213 + x52).toNatClampNeg) 16 <|
      ck (213 + x52) 265 <|
      lt_ (upd s53 (213 + x52).toNatClampNeg (rn48 (s53 (213 + x52).toNatClampNeg).toNatClampNeg)) fun s60 =>
      lt_ (x52 + 1) fun x61 =>
      m9_clearDoughs_L117 N n x51 x61 s60 rn48
def m9_clearDoughs_L160 (N : Nat) : Nat → (Int32) → (Int32) → (Nat → Int32) → (Nat → Int32) → Option ((Nat → Int32))
  | 0, _, _, _, _ => none
  | n+1, x65, x66, s67, rn48 =>
    if 12 ≤ x66 then
      some s67
    else
      ob1 (m9_at s67 x66 0) fun x70 =>
      ob2 (
          if x70 = (-1) then
            some ((229 + (3 * x66)) + 0, ((-1) : Int32))
          else
            ck x70 16 <|
            some ((229 + (3 * x66)) + 0, rn48 x70.toNatClampNeg)) fun x74 x75 =>
      ck x74 265 <|
      lt_ (upd s67 x74.toNatClampNeg x75) fun s79 =>
      lt_ (x66 + 1) fun x80 =>
      m9_clearDoughs_L160 N n x65 x80 s79 rn48
def m9_clearDoughs (N : Nat) (s0 : Nat → Int32) (sv0 : Nat → Int32) (rn0 : Nat → Int32) (q0 : Nat → Int32) : Option (Int32 × (Nat → Int32) × (Nat → Int32) × (Nat → Int32) × (Nat → Int32)) :=
  lt_ (upd q0 0 0) fun q1 =>
  ob2 (m9_save N s0 sv0 q1) fun sv2 q3 =>
  ob3 (m9_clearDoughs_L13 N N 0 0 s0 rn0) fun x46 s47 rn48 =>
  ob1 (m9_clearDoughs_L117 N N x46 0 s47 rn48) fun s62 =>
  ob1 (m9_clearDoughs_L160 N N x46 0 s62 rn48) fun s81 =>
  ck 4 265 <|
  lt_ (upd s81 (4 : Int32).toNatClampNeg x46) fun s84 =>
  some (x46, s84, sv2, rn48, q3)
def m9_swapCode (s0 : Nat → Int32) (a1 : Int32) (a2 : Int32) : Option (Int32) :=
  ob1 (m9_isDough s0 a1) fun x1 =>
  if x1 = 0 then
    some 1
  else
    ob1 (m9_isDough s0 a2) fun x4 =>
    if x4 = 0 then
      some 1
    else
      if a1 = a2 then
        some 2
      else
        ob1 (m9_of s0 a1 4) fun x8 =>
        if x8 = 0 then
          ob1 (m9_of s0 a2 4) fun x11 =>
          if x11 = 0 then
            some 0
          else
            some 3
        else
          some 3
def m9_swapNow (N : Nat) (s0 : Nat → Int32) (a1 : Int32) (a2 : Int32) : Option (Int32 × (Nat → Int32)) :=
  ob1 (m9_placeInLine N s0 a1) fun x1 =>
  ob1 (m9_placeInLine N s0 a2) fun x3 =>
  ck (213 + x1) 265 <|
  lt_ (upd s0 (213 + x1).toNatClampNeg a2) fun s6 =>
  ck (213 + x3) 265 <|
  lt_ (upd s6 (213 + x3).toNatClampNeg a1) fun s8 =>
  some (x3, s8)
def m9_swap (N : Nat) (s0 : Nat → Int32) (sv0 : Nat → Int32) (q0 : Nat → Int32) (a1 : Int32) (a2 : Int32) : Option (Int32 × (Nat → Int32) × (Nat → Int32) × (Nat → Int32)) :=
  ob1 (m9_swapCode s0 a1 a2) fun x1 =>
  lt_ (upd q0 0 x1) fun q3 =>
  if (q3 0) ≤ 0 then
    ob2 (m9_save N s0 sv0 q3) fun sv5 q6 =>
    ob2 (m9_swapNow N s0 a1 a2) fun x8 s9 =>
    some (x8, s9, sv5, q6)
  else
    some (0, s0, sv0, q3)
def m9_grow (s0 : Nat → Int32) (a1 : Int32) (a2 : Int32) (a3 : Int32) : Option (Int32 × (Nat → Int32)) :=
  lt_ ((37 + (6 * a1)) + a2) fun x1 =>
  ck x1 265 <|
  ck x1 265 <|
  lt_ (upd s0 x1.toNatClampNeg ((s0 x1.toNatClampNeg) + a3)) fun s4 =>
  ck x1 265 <|
  some (s4 x1.toNatClampNeg, s4)
def m9_balance (s0 : Nat → Int32) (a1 : Int32) : Option (Int32) :=
  ck ((37 + (6 * a1)) + 0) 265 <|
  some (s0 ((37 + (6 * a1)) + 0).toNatClampNeg)
def m9_bringCode (s0 : Nat → Int32) (a1 : Int32) (a2 : Int32) : Option (Int32) :=
  ob1 (m9_isHouse s0 a1) fun x1 =>
  if x1 = 0 then
    some 1
  else
    lt1 (m9_in a2 1 99) fun x4 =>
    if x4 = 0 then
      some 2
    else
      ob1 (m9_balance s0 a1) fun x7 =>
      if (x7 + a2) ≤ 999 then
        some 0
      else
        some 3
def m9_bringNow (s0 : Nat → Int32) (a1 : Int32) (a2 : Int32) : Option (Int32 × (Nat → Int32)) :=
  ob2 (m9_grow s0 a1 3 a2) fun x1 s2 =>
  ck 8 265 <|
  ck 8 265 <|
  lt_ (upd s2 (8 : Int32).toNatClampNeg ((s2 (8 : Int32).toNatClampNeg) + a2)) fun s6 =>
  ob2 (m9_grow s6 a1 0 a2) fun x7 s8 =>
  some (x7, s8)
def m9_bring (N : Nat) (s0 : Nat → Int32) (sv0 : Nat → Int32) (q0 : Nat → Int32) (a1 : Int32) (a2 : Int32) : Option (Int32 × (Nat → Int32) × (Nat → Int32) × (Nat → Int32)) :=
  ob1 (m9_bringCode s0 a1 a2) fun x1 =>
  lt_ (upd q0 0 x1) fun q3 =>
  if (q3 0) ≤ 0 then
    ob2 (m9_save N s0 sv0 q3) fun sv5 q6 =>
    ob2 (m9_bringNow s0 a1 a2) fun x8 s9 =>
    some (x8, s9, sv5, q6)
  else
    some (0, s0, sv0, q3)
def m9_stokeCode (s0 : Nat → Int32) (a1 : Int32) (a2 : Int32) : Option (Int32) :=
  ob1 (m9_isHouse s0 a1) fun x1 =>
  if x1 = 0 then
    some 1
  else
    lt1 (m9_in a2 1 16) fun x4 =>
    if x4 = 0 then
      some 2
    else
      ob1 (m9_balance s0 a1) fun x7 =>
      if (x7 - a2) < (-20) then
        some 3
      else
        ck 0 265 <|
        if ((s0 (0 : Int32).toNatClampNeg) + (25 * a2)) ≤ 400 then
          some 0
        else
          some 3
def m9_stokeNow (s0 : Nat → Int32) (a1 : Int32) (a2 : Int32) : Option (Int32 × (Nat → Int32)) :=
  ob2 (m9_grow s0 a1 0 (-a2)) fun x1 s2 =>
  ob2 (m9_grow s2 a1 2 a2) fun x4 s5 =>
  ck 6 265 <|
  ck 6 265 <|
  lt_ (upd s5 (6 : Int32).toNatClampNeg ((s5 (6 : Int32).toNatClampNeg) + a2)) fun s9 =>
  ck 7 265 <|
  ck 7 265 <|
  lt_ (upd s9 (7 : Int32).toNatClampNeg ((s9 (7 : Int32).toNatClampNeg) + a2)) fun s12 =>
  ck 0 265 <|
  ck 0 265 <|
  lt_ (upd s12 (0 : Int32).toNatClampNeg ((s12 (0 : Int32).toNatClampNeg) + (25 * a2))) fun s15 =>
  ck 0 265 <|
  some (s15 (0 : Int32).toNatClampNeg, s15)
def m9_stoke (N : Nat) (s0 : Nat → Int32) (sv0 : Nat → Int32) (q0 : Nat → Int32) (a1 : Int32) (a2 : Int32) : Option (Int32 × (Nat → Int32) × (Nat → Int32) × (Nat → Int32)) :=
  ob1 (m9_stokeCode s0 a1 a2) fun x1 =>
  lt_ (upd q0 0 x1) fun q3 =>
  if (q3 0) ≤ 0 then
    ob2 (m9_save N s0 sv0 q3) fun sv5 q6 =>
    ob2 (m9_stokeNow s0 a1 a2) fun x8 s9 =>
    some (x8, s9, sv5, q6)
  else
    some (0, s0, sv0, q3)
def m9_useOfAll_L4 (N : Nat) : Nat → (Int32) → (Int32) → (Nat → Int32) → Option (Int32)
  | 0, _, _, _ => none
  | n+1, x2, x3, s0 =>
    ck 3 265 <|
    if (s0 (3 : Int32).toNatClampNeg) ≤ x3 then
      some x2
    else
      ck ((37 + (6 * x3)) + 1) 265 <|
      lt_ (x2 + (s0 ((37 + (6 * x3)) + 1).toNatClampNeg)) fun x8 =>
      lt_ (x3 + 1) fun x9 =>
      m9_useOfAll_L4 N n x8 x9 s0
def m9_useOfAll (N : Nat) (s0 : Nat → Int32) : Option (Int32) :=
  ob1 (m9_useOfAll_L4 N N 0 0 s0) fun x10 =>
  some x10
def m9_share_L17 (N : Nat) : Nat → (Int64) → (Int32) → (Int32) → (Nat → Int32) → (Nat → Int32) → (Nat → Int64) → Option (Int32 × (Nat → Int32) × (Nat → Int64))
  | 0, _, _, _, _, _, _ => none
  | n+1, x7, x8, x9, s0, ow10, rs11 =>
    ck 3 265 <|
    if (s0 (3 : Int32).toNatClampNeg) ≤ x9 then
      some (x8, ow10, rs11)
    else
      ck 6 265 <|
      ck ((37 + (6 * x9)) + 1) 265 <|
      lt_ (((s0 (6 : Int32).toNatClampNeg).toInt64) * ((s0 ((37 + (6 * x9)) + 1).toNatClampNeg).toInt64)) fun x19 =>
      ob1 (
          if (lg_cmp x7 0) = 0 then
            some (0 : Int32)
          else
            ckp (¬ x7 = 0) <|
            some ((x19 / x7).toInt32)) fun x22 =>
      ck x9 8 <|
      lt_ (upd ow10 x9.toNatClampNeg x22) fun ow26 =>
      ob1 (
          if (lg_cmp x7 0) = 0 then
            some (0 : Int64)
          else
            ckp (¬ x7 = 0) <|
            some (x19 - x19 / x7 * x7)) fun x29 =>
      ck x9 8 <|
      lt_ (vp_updL rs11 x9.toNatClampNeg x29) fun rs33 =>
      ck x9 8 <|
      lt_ (x8 - (ow26 x9.toNatClampNeg)) fun x35 =>
      lt_ (x9 + 1) fun x36 =>
      m9_share_L17 N n x7 x35 x36 s0 ow26 rs33
def m9_share_L135 (N : Nat) : Nat → (Int64) → (Int32) → (Int32) → (Int32) → (Int32) → (Nat → Int32) → (Nat → Int64) → Option (Int32)
  | 0, _, _, _, _, _, _, _ => none
  | n+1, x52, x53, x54, x55, x56, s0, rs46 =>
    ck 3 265 <|
    if (s0 (3 : Int32).toNatClampNeg) ≤ x56 then
      some x55
    else
      ck x56 8 <|
      ck x55 8 <|
      lt1 (
          if (lg_cmp (rs46 x56.toNatClampNeg) (rs46 x55.toNatClampNeg)) ≤ 0 then
            x55
          else
            x56) fun x63 =>
      lt_ (x56 + 1) fun x65 =>
      m9_share_L135 N n x52 x53 x54 x63 x65 s0 rs46
def m9_share_L117 (N : Nat) : Nat → (Int64) → (Int32) → (Int32) → (Nat → Int32) → (Nat → Int32) → (Nat → Int64) → Option ((Nat → Int32) × (Nat → Int64))
  | 0, _, _, _, _, _, _ => none
  | n+1, x42, x43, x44, s0, ow45, rs46 =>
    if x43 ≤ x44 then
      some (ow45, rs46)
    else
      if (lg_cmp x42 0) ≤ 0 then
        some (ow45, rs46)
      else
        ob1 (m9_share_L135 N N x42 x43 x44 0 1 s0 rs46) fun x66 =>
        ck x66 8 <|
        ck x66 8 <|
        lt_ (upd ow45 x66.toNatClampNeg ((ow45 x66.toNatClampNeg) + 1)) fun ow70 =>
        ck x66 8 <|
        lt_ (vp_updL rs46 x66.toNatClampNeg (-1)) fun rs72 =>
        lt_ (x44 + 1) fun x73 =>
        m9_share_L117 N n x42 x43 x73 s0 ow70 rs72
def m9_share (N : Nat) (s0 : Nat → Int32) (ow0 : Nat → Int32) (rs0 : Nat → Int64) : Option ((Nat → Int32) × (Nat → Int64)) :=
  ob1 (m9_useOfAll N s0) fun x1 =>
  lt_ (x1.toInt64) fun x3 =>
  ck 6 265 <|
  lt_ (s0 (6 : Int32).toNatClampNeg) fun x5 =>
  ob3 (m9_share_L17 N N x3 x5 0 s0 ow0 rs0) fun x37 ow38 rs39 =>
  ob2 (m9_share_L117 N N x3 x37 0 s0 ow38 rs39) fun ow74 rs75 =>
  some (ow74, rs75)
def m9_settleNow_L23 (N : Nat) : Nat → (Int32) → (Int32) → (Nat → Int32) → (Nat → Int32) → Option ((Nat → Int32))
  | 0, _, _, _, _ => none
  | n+1, x10, x11, s12, ow4 =>
    ck 3 265 <|
    if (s12 (3 : Int32).toNatClampNeg) ≤ x11 then
      some s12
    else
      lt_ (37 + (6 * x11)) fun x16 =>
      lt_ (x16 + 0) fun x17 =>
      ck x17 265 <|
      ck (x16 + 2) 265 <|
      ck x11 8 <|
      ck x17 265 <|
      lt_ (upd s12 x17.toNatClampNeg ((s12 x17.toNatClampNeg) + ((s12 (x16 + 2).toNatClampNeg) - (ow4 x11.toNatClampNeg)))) fun s22 =>
      ck (x16 + 1) 265 <|
      lt_ (upd s22 (x16 + 1).toNatClampNeg 0) fun s24 =>
      ck (x16 + 2) 265 <|
      lt_ (upd s24 (x16 + 2).toNatClampNeg 0) fun s26 =>
      lt_ (x11 + 1) fun x27 =>
      m9_settleNow_L23 N n x10 x27 s26 ow4
def m9_settleNow (N : Nat) (s0 : Nat → Int32) (ow0 : Nat → Int32) (rs0 : Nat → Int64) : Option (Int32 × (Nat → Int32) × (Nat → Int32) × (Nat → Int64)) :=
  ob1 (m9_useOfAll N s0) fun x1 =>
  if x1 = 0 then
    some (0, s0, ow0, rs0)
  else
    ob2 (m9_share N s0 ow0 rs0) fun ow4 rs5 =>
    ck 6 265 <|
    lt_ (s0 (6 : Int32).toNatClampNeg) fun x8 =>
    ob1 (m9_settleNow_L23 N N x8 0 s0 ow4) fun s28 =>
    ck 6 265 <|
    lt_ (upd s28 (6 : Int32).toNatClampNeg 0) fun s31 =>
    some (x8, s31, ow4, rs5)
def m9_settle (N : Nat) (s0 : Nat → Int32) (sv0 : Nat → Int32) (ow0 : Nat → Int32) (rs0 : Nat → Int64) (q0 : Nat → Int32) : Option (Int32 × (Nat → Int32) × (Nat → Int32) × (Nat → Int32) × (Nat → Int64) × (Nat → Int32)) :=
  lt_ (upd q0 0 0) fun q1 =>
  ob2 (m9_save N s0 sv0 q1) fun sv2 q3 =>
  ob4 (m9_settleNow N s0 ow0 rs0) fun x5 s6 ow7 rs8 =>
  some (x5, s6, sv2, ow7, rs8, q3)
def m9_passCode (s0 : Nat → Int32) (a1 : Int32) : Option (Int32) :=
  lt1 (m9_in a1 1 100) fun x1 =>
  if x1 = 0 then
    some 1
  else
    ck 1 265 <|
    if ((s0 (1 : Int32).toNatClampNeg) + a1) ≤ 100000 then
      some 0
    else
      some 2
def m9_pass (N : Nat) (s0 : Nat → Int32) (sv0 : Nat → Int32) (q0 : Nat → Int32) (a1 : Int32) : Option (Int32 × (Nat → Int32) × (Nat → Int32) × (Nat → Int32)) :=
  ob1 (m9_passCode s0 a1) fun x1 =>
  lt_ (upd q0 0 x1) fun q3 =>
  if (q3 0) ≤ 0 then
    ob2 (m9_save N s0 sv0 q3) fun sv5 q6 =>
    ob2 (m9_passNow N s0 a1) fun x8 s9 =>
    some (x8, s9, sv5, q6)
  else
    some (0, s0, sv0, q3)
def m9_kind (s0 : Nat → Int32) (q0 : Nat → Int32) (a1 : Int32) (a2 : Int32) : Option (Int32 × (Nat → Int32)) :=
  ob1 (m9_isKind s0 a1) fun x1 =>
  lt1 (
      if x1 = 0 then
        (1 : Int32)
      else
        lt1 (m9_in a2 0 4) fun x9 =>
        if x9 = 0 then
          (2 : Int32)
        else
          (0 : Int32)) fun x7 =>
  lt_ (upd q0 0 x7) fun q12 =>
  if (q12 0) ≤ 0 then
    ob1 (m9_kindOf s0 a1 a2) fun x14 =>
    some (x14, q12)
  else
    some (0, q12)
def m9_doughsOf_L4 (N : Nat) : Nat → (Int32) → (Int32) → (Int32) → (Nat → Int32) → Option (Int32)
  | 0, _, _, _, _ => none
  | n+1, x2, x3, x4, s0 =>
    ck 4 265 <|
    if (s0 (4 : Int32).toNatClampNeg) ≤ x4 then
      some x3
    else
      ob1 (m9_of s0 x4 0) fun x8 =>
      lt1 (
          if x8 = x2 then
            (1 : Int32)
          else
            (0 : Int32)) fun x11 =>
      lt_ (x3 + x11) fun x13 =>
      lt_ (x4 + 1) fun x14 =>
      m9_doughsOf_L4 N n x2 x13 x14 s0
def m9_doughsOf (N : Nat) (s0 : Nat → Int32) (a1 : Int32) : Option (Int32) :=
  ob1 (m9_doughsOf_L4 N N a1 0 0 s0) fun x15 =>
  some x15
def m9_houseValue (N : Nat) (s0 : Nat → Int32) (a1 : Int32) (a2 : Int32) : Option (Int32) :=
  if a2 = 4 then
    ob1 (m9_doughsOf N s0 a1) fun x7 =>
    some x7
  else
    lt2 (
        if 4 ≤ a2 then
          (37 + (6 * a1), a2 - 1)
        else
          (37 + (6 * a1), a2)) fun x3 x4 =>
    ck (x3 + x4) 265 <|
    some (s0 (x3 + x4).toNatClampNeg)
def m9_house (N : Nat) (s0 : Nat → Int32) (q0 : Nat → Int32) (a1 : Int32) (a2 : Int32) : Option (Int32 × (Nat → Int32)) :=
  ob1 (m9_isHouse s0 a1) fun x1 =>
  lt1 (
      if x1 = 0 then
        (1 : Int32)
      else
        lt1 (m9_in a2 0 6) fun x9 =>
        if x9 = 0 then
          (2 : Int32)
        else
          (0 : Int32)) fun x7 =>
  lt_ (upd q0 0 x7) fun q12 =>
  if (q12 0) ≤ 0 then
    ob1 (m9_houseValue N s0 a1 a2) fun x14 =>
    some (x14, q12)
  else
    some (0, q12)
def m9_placesOf_L4 (N : Nat) : Nat → (Int32) → (Int32) → (Int32) → (Nat → Int32) → Option (Int32)
  | 0, _, _, _, _ => none
  | n+1, x2, x3, x4, s0 =>
    if 12 ≤ x4 then
      some x3
    else
      ob1 (m9_at s0 x4 0) fun x7 =>
      lt1 (
          if x7 = x2 then
            1 <<< (x4 &&& 31)
          else
            (0 : Int32)) fun x10 =>
      lt_ (x3 ||| x10) fun x12 =>
      lt_ (x4 + 1) fun x13 =>
      m9_placesOf_L4 N n x2 x12 x13 s0
def m9_placesOf (N : Nat) (s0 : Nat → Int32) (a1 : Int32) : Option (Int32) :=
  ob1 (m9_placesOf_L4 N N a1 0 0 s0) fun x14 =>
  some x14
def m9_doughValue (N : Nat) (s0 : Nat → Int32) (a1 : Int32) (a2 : Int32) : Option (Int32) :=
  if 7 ≤ a2 then
    if a2 = 7 then
      ob1 (m9_placeInLine N s0 a1) fun x8 =>
      some x8
    else
      if a2 = 8 then
        ob1 (m9_placesOf N s0 a1) fun x6 =>
        some x6
      else
        ob1 (m9_of s0 a1 7) fun x4 =>
        some x4
  else
    ob1 (m9_of s0 a1 a2) fun x10 =>
    some x10
def m9_dough (N : Nat) (s0 : Nat → Int32) (q0 : Nat → Int32) (a1 : Int32) (a2 : Int32) : Option (Int32 × (Nat → Int32)) :=
  ob1 (m9_isDough s0 a1) fun x1 =>
  lt1 (
      if x1 = 0 then
        (1 : Int32)
      else
        lt1 (m9_in a2 0 9) fun x9 =>
        if x9 = 0 then
          (2 : Int32)
        else
          (0 : Int32)) fun x7 =>
  lt_ (upd q0 0 x7) fun q12 =>
  if (q12 0) ≤ 0 then
    ob1 (m9_doughValue N s0 a1 a2) fun x14 =>
    some (x14, q12)
  else
    some (0, q12)
def m9_placeValue (s0 : Nat → Int32) (a1 : Int32) (a2 : Int32) : Option (Int32) :=
  if a2 = 0 then
    ob1 (m9_heatAt s0 a1) fun x7 =>
    some x7
  else
    ob1 (m9_at s0 a1 0) fun x2 =>
    if x2 = (-1) then
      some (-1)
    else
      ob1 (m9_at s0 a1 (a2 - 1)) fun x5 =>
      some x5
def m9_place (s0 : Nat → Int32) (q0 : Nat → Int32) (a1 : Int32) (a2 : Int32) : Option (Int32 × (Nat → Int32)) :=
  lt1 (m9_in a1 0 11) fun x1 =>
  lt1 (
      if x1 = 0 then
        (1 : Int32)
      else
        lt1 (m9_in a2 0 3) fun x9 =>
        if x9 = 0 then
          (2 : Int32)
        else
          (0 : Int32)) fun x7 =>
  lt_ (upd q0 0 x7) fun q12 =>
  if (q12 0) ≤ 0 then
    ob1 (m9_placeValue s0 a1 a2) fun x14 =>
    some (x14, q12)
  else
    some (0, q12)
def m9_wholeValue (N : Nat) (s0 : Nat → Int32) (q0 : Nat → Int32) (a1 : Int32) : Option (Int32) :=
  if a1 = 0 then
    ck 2 265 <|
    some (s0 (2 : Int32).toNatClampNeg)
  else if a1 = 1 then
    ck 3 265 <|
    some (s0 (3 : Int32).toNatClampNeg)
  else if a1 = 2 then
    ck 4 265 <|
    some (s0 (4 : Int32).toNatClampNeg)
  else if a1 = 3 then
    ck 0 265 <|
    some (s0 (0 : Int32).toNatClampNeg)
  else if a1 = 4 then
    ck 1 265 <|
    some (s0 (1 : Int32).toNatClampNeg)
  else if a1 = 5 then
    ck 5 265 <|
    some (s0 (5 : Int32).toNatClampNeg)
  else if a1 = 6 then
    ob1 (m9_freeIn N s0 0 400) fun x7 =>
    some x7
  else if a1 = 7 then
    ck 6 265 <|
    some (s0 (6 : Int32).toNatClampNeg)
  else if a1 = 8 then
    ob1 (m9_useOfAll N s0) fun x10 =>
    some x10
  else if a1 = 9 then
    ck 7 265 <|
    some (s0 (7 : Int32).toNatClampNeg)
  else if a1 = 10 then
    ck 8 265 <|
    some (s0 (8 : Int32).toNatClampNeg)
  else if a1 = 11 then
    ck 9 265 <|
    some (s0 (9 : Int32).toNatClampNeg)
  else if a1 = 12 then
    ck 10 265 <|
    some (s0 (10 : Int32).toNatClampNeg)
  else if a1 = 13 then
    ck 11 265 <|
    some (s0 (11 : Int32).toNatClampNeg)
  else 
    some (q0 2)
def m9_whole (N : Nat) (s0 : Nat → Int32) (q0 : Nat → Int32) (a1 : Int32) : Option (Int32 × (Nat → Int32)) :=
  lt1 (m9_in a1 0 14) fun x1 =>
  lt1 (
      if x1 = 0 then
        (1 : Int32)
      else
        (0 : Int32)) fun x4 =>
  lt_ (upd q0 0 x4) fun q6 =>
  if (q6 0) ≤ 0 then
    ob1 (m9_wholeValue N s0 q6 a1) fun x8 =>
    some (x8, q6)
  else
    some (0, q6)
def m9_line (s0 : Nat → Int32) (q0 : Nat → Int32) (a1 : Int32) : Option (Int32 × (Nat → Int32)) :=
  lt1 (
      if 0 ≤ a1 then
        (0 : Int32)
      else
        (1 : Int32)) fun x2 =>
  lt_ (upd q0 0 x2) fun q4 =>
  if (q4 0) ≤ 0 then
    ck 5 265 <|
    if (s0 (5 : Int32).toNatClampNeg) ≤ a1 then
      some ((-1), q4)
    else
      ck (213 + a1) 265 <|
      some (s0 (213 + a1).toNatClampNeg, q4)
  else
    some (0, q4)
def m9_reasonNow (N : Nat) (s0 : Nat → Int32) (a1 : Int32) : Option (Int32) :=
  ob1 (m9_of s0 a1 4) fun x1 =>
  if x1 = 0 then
    ob1 (m9_reasonOf N s0 a1) fun x4 =>
    some x4
  else
    some (-1)
def m9_reason (N : Nat) (s0 : Nat → Int32) (q0 : Nat → Int32) (a1 : Int32) : Option (Int32 × (Nat → Int32)) :=
  ob1 (m9_isDough s0 a1) fun x1 =>
  lt1 (
      if x1 = 0 then
        (1 : Int32)
      else
        (0 : Int32)) fun x4 =>
  lt_ (upd q0 0 x4) fun q6 =>
  if (q6 0) ≤ 0 then
    ob1 (m9_reasonNow N s0 a1) fun x8 =>
    some (x8, q6)
  else
    some (0, q6)
def m9_tryNow_L2 (N : Nat) : Nat → (Int32) → (Nat → Int32) → (Nat → Int32) → Option ((Nat → Int32))
  | 0, _, _, _ => none
  | n+1, x2, s0, u3 =>
    if 265 ≤ x2 then
      some u3
    else
      ck x2 265 <|
      ck x2 265 <|
      lt_ (upd u3 x2.toNatClampNeg (s0 x2.toNatClampNeg)) fun u8 =>
      lt_ (x2 + 1) fun x9 =>
      m9_tryNow_L2 N n x9 s0 u8
def m9_tryNow (N : Nat) (s0 : Nat → Int32) (u0 : Nat → Int32) : Option ((Nat → Int32)) :=
  ob1 (m9_tryNow_L2 N N 0 s0 u0) fun u10 =>
  some u10
def m9_loadedIn_L32 (N : Nat) : Nat → (Int32) → (Int32) → (Nat → Int32) → (Nat → Int32) → Option (Int32 × (Nat → Int32) × (Nat → Int32))
  | 0, _, _, _, _ => none
  | n+1, x11, x12, u13, q6 =>
    if 60 < x12 then
      some ((-1), u13, q6)
    else
      ob1 (m9_of u13 x11 4) fun x15 =>
      if x15 = 0 then
        ob2 (m9_tick N u13) fun x18 u19 =>
        ob1 (m9_of u19 x11 6) fun x21 =>
        if x21 = (-1) then
          lt_ (x12 + 1) fun x24 =>
          m9_loadedIn_L32 N n x11 x24 u19 q6
        else
          some (x12, u19, q6)
      else
        some ((-1), u13, q6)
def m9_loadedIn (N : Nat) (s0 : Nat → Int32) (u0 : Nat → Int32) (q0 : Nat → Int32) (a1 : Int32) : Option (Int32 × (Nat → Int32) × (Nat → Int32)) :=
  ob1 (m9_isDough s0 a1) fun x1 =>
  lt1 (
      if x1 = 0 then
        (1 : Int32)
      else
        (0 : Int32)) fun x4 =>
  lt_ (upd q0 0 x4) fun q6 =>
  if (q6 0) ≤ 0 then
    ob1 (m9_tryNow N s0 u0) fun u8 =>
    m9_loadedIn_L32 N N a1 1 u8 q6
  else
    some (0, u0, q6)
def m9_neededLogs_L55 (N : Nat) : Nat → (Int32) → (Int32) → (Nat → Int32) → (Nat → Int32) → (Nat → Int32) → Option (Int32 × (Nat → Int32) × (Nat → Int32))
  | 0, _, _, _, _, _ => none
  | n+1, x15, x16, s0, u17, q6 =>
    if 16 < x16 then
      some ((-1), u17, q6)
    else
      ck 0 265 <|
      if 400 < ((s0 (0 : Int32).toNatClampNeg) + (25 * x16)) then
        some ((-1), u17, q6)
      else
        ck 0 265 <|
        ck 0 265 <|
        lt_ (upd u17 (0 : Int32).toNatClampNeg ((s0 (0 : Int32).toNatClampNeg) + (25 * x16))) fun u23 =>
        ob1 (m9_reasonOf N u23 x15) fun x24 =>
        if x24 = 0 then
          some (x16, u23, q6)
        else
          lt_ (x16 + 1) fun x27 =>
          m9_neededLogs_L55 N n x15 x27 s0 u23 q6
def m9_neededLogs (N : Nat) (s0 : Nat → Int32) (u0 : Nat → Int32) (q0 : Nat → Int32) (a1 : Int32) : Option (Int32 × (Nat → Int32) × (Nat → Int32)) :=
  ob1 (m9_isDough s0 a1) fun x1 =>
  lt1 (
      if x1 = 0 then
        (1 : Int32)
      else
        (0 : Int32)) fun x4 =>
  lt_ (upd q0 0 x4) fun q6 =>
  if 0 < (q6 0) then
    if (q6 0) ≤ 0 then
      some ((-1), u0, q6)
    else
      some (0, u0, q6)
  else
    ob1 (m9_of s0 a1 4) fun x9 =>
    if x9 = 0 then
      ob1 (m9_tryNow N s0 u0) fun u12 =>
      m9_neededLogs_L55 N N a1 0 s0 u12 q6
    else
      if (q6 0) ≤ 0 then
        some ((-1), u0, q6)
      else
        some (0, u0, q6)
def m9_tryTicks_L8 (N : Nat) : Nat → (Int32) → (Int32) → (Int32) → (Nat → Int32) → Option ((Nat → Int32))
  | 0, _, _, _, _ => none
  | n+1, x4, x5, x6, u7 =>
    if x4 ≤ x6 then
      some u7
    else
      ob2 (m9_tick N u7) fun x10 u11 =>
      lt_ (x5 + x10) fun x13 =>
      lt_ (x6 + 1) fun x14 =>
      m9_tryTicks_L8 N n x4 x13 x14 u11
def m9_tryTicks (N : Nat) (s0 : Nat → Int32) (u0 : Nat → Int32) (a1 : Int32) : Option ((Nat → Int32)) :=
  ob1 (m9_tryNow N s0 u0) fun u1 =>
  ob1 (m9_tryTicks_L8 N N a1 0 0 u1) fun u15 =>
  some u15
def m9_heatBehind (N : Nat) (s0 : Nat → Int32) (u0 : Nat → Int32) (a1 : Int32) : Option (Int32 × (Nat → Int32)) :=
  ob1 (m9_tryTicks N s0 u0 a1) fun u1 =>
  ck 0 265 <|
  some (u1 (0 : Int32).toNatClampNeg, u1)
def m9_heatIn (N : Nat) (s0 : Nat → Int32) (u0 : Nat → Int32) (q0 : Nat → Int32) (a1 : Int32) : Option (Int32 × (Nat → Int32) × (Nat → Int32)) :=
  lt1 (m9_in a1 0 100) fun x1 =>
  lt1 (
      if x1 = 0 then
        (1 : Int32)
      else
        (0 : Int32)) fun x4 =>
  lt_ (upd q0 0 x4) fun q6 =>
  if (q6 0) ≤ 0 then
    ob2 (m9_heatBehind N s0 u0 a1) fun x8 u9 =>
    some (x8, u9, q6)
  else
    some (0, u0, q6)
def m9_spoiledIn_L37 (N : Nat) : Nat → (Int32) → (Int32) → (Nat → Int32) → (Nat → Int32) → Option (Int32)
  | 0, _, _, _, _ => none
  | n+1, x11, x12, s0, u8 =>
    ck 4 265 <|
    if (s0 (4 : Int32).toNatClampNeg) ≤ x12 then
      some x11
    else
      ob1 (m9_of s0 x12 4) fun x16 =>
      ob1 (
          if x16 = 0 then
            ob1 (m9_of u8 x12 4) fun x24 =>
            if x24 = 3 then
              some (1 <<< (x12 &&& 31))
            else
              some (0 : Int32)
          else
            some (0 : Int32)) fun x22 =>
      lt_ (x11 ||| x22) fun x27 =>
      lt_ (x12 + 1) fun x28 =>
      m9_spoiledIn_L37 N n x27 x28 s0 u8
def m9_spoiledIn (N : Nat) (s0 : Nat → Int32) (u0 : Nat → Int32) (q0 : Nat → Int32) (a1 : Int32) : Option (Int32 × (Nat → Int32) × (Nat → Int32)) :=
  lt1 (m9_in a1 0 100) fun x1 =>
  lt1 (
      if x1 = 0 then
        (1 : Int32)
      else
        (0 : Int32)) fun x4 =>
  lt_ (upd q0 0 x4) fun q6 =>
  if (q6 0) ≤ 0 then
    ob1 (m9_tryTicks N s0 u0 a1) fun u8 =>
    ob1 (m9_spoiledIn_L37 N N 0 0 s0 u8) fun x29 =>
    some (x29, u8, q6)
  else
    some (0, u0, q6)
def m9_owesNow (N : Nat) (s0 : Nat → Int32) (ow0 : Nat → Int32) (rs0 : Nat → Int64) (a1 : Int32) : Option (Int32 × (Nat → Int32) × (Nat → Int64)) :=
  ob2 (m9_share N s0 ow0 rs0) fun ow1 rs2 =>
  ck a1 8 <|
  some (ow1 a1.toNatClampNeg, ow1, rs2)
def m9_owes (N : Nat) (s0 : Nat → Int32) (ow0 : Nat → Int32) (rs0 : Nat → Int64) (q0 : Nat → Int32) (a1 : Int32) : Option (Int32 × (Nat → Int32) × (Nat → Int64) × (Nat → Int32)) :=
  ob1 (m9_isHouse s0 a1) fun x1 =>
  lt1 (
      if x1 = 0 then
        (1 : Int32)
      else
        (0 : Int32)) fun x4 =>
  lt_ (upd q0 0 x4) fun q6 =>
  if (q6 0) ≤ 0 then
    ob3 (m9_owesNow N s0 ow0 rs0 a1) fun x8 ow9 rs10 =>
    some (x8, ow9, rs10, q6)
  else
    some (0, ow0, rs0, q6)
def m9_type (tx0 : Nat → Int32) (q0 : Nat → Int32) (a1 : Int32) : Option (Int32 × (Nat → Int32) × (Nat → Int32)) :=
  lt1 (m9_in a1 0 127) fun x1 =>
  lt1 (
      if x1 = 0 then
        (1 : Int32)
      else
        if (q0 2) = 150 then
          (2 : Int32)
        else
          (0 : Int32)) fun x5 =>
  lt_ (upd q0 0 x5) fun q8 =>
  if (q8 0) ≤ 0 then
    ck (q8 2) 150 <|
    lt_ (upd tx0 (q8 2).toNatClampNeg a1) fun tx11 =>
    lt_ (upd q8 2 ((q8 2) + 1)) fun q12 =>
    some (q12 2, tx11, q12)
  else
    some (0, tx0, q8)
def m9_clearCommands (q0 : Nat → Int32) : Int32 × (Nat → Int32) :=
  lt_ (upd q0 0 0) fun q1 =>
  lt_ (q1 2) fun x2 =>
  lt_ (upd q1 2 0) fun q3 =>
  (x2, q3)
def m9_here (tx0 : Nat → Int32) (q0 : Nat → Int32) : Option (Int32) :=
  if (q0 2) ≤ (q0 3) then
    some (-1)
  else
    ck (q0 3) 150 <|
    some (tx0 (q0 3).toNatClampNeg)
def m9_isLetter (tx0 : Nat → Int32) (q0 : Nat → Int32) : Option (Int32) :=
  ob1 (m9_here tx0 q0) fun x1 =>
  lt1 (m9_in x1 97 122) fun x3 =>
  ckp (x3 = 0 ∨ x3 = 1) <|
  some x3
def m9_isDigit (tx0 : Nat → Int32) (q0 : Nat → Int32) : Option (Int32) :=
  ob1 (m9_here tx0 q0) fun x1 =>
  lt1 (m9_in x1 48 57) fun x3 =>
  ckp (x3 = 0 ∨ x3 = 1) <|
  some x3
def m9_skip_L0 (N : Nat) : Nat → (Nat → Int32) → (Nat → Int32) → Option ((Nat → Int32))
  | 0, _, _ => none
  | n+1, tx0, q2 =>
    ob1 (m9_here tx0 q2) fun x4 =>
    if x4 = 32 then
      lt_ (upd q2 3 ((q2 3) + 1)) fun q7 =>
      m9_skip_L0 N n tx0 q7
    else
      some q2
def m9_skip (N : Nat) (tx0 : Nat → Int32) (q0 : Nat → Int32) : Option ((Nat → Int32)) :=
  ob1 (m9_skip_L0 N N tx0 q0) fun q8 =>
  some q8
def m9_isWord_L5 (N : Nat) : Nat → (Int32) → (Int32) → (Int32) → (Int32) → (Nat → Int32) → (Nat → Int32) → Option (Int32)
  | 0, _, _, _, _, _, _ => none
  | n+1, x2, x3, x4, x5, tx0, q0 =>
    if ((q0 3) - x3) < x5 then
      some x4
    else
      if x4 = 0 then
        some x4
      else
        lt1 (m9_letterOfWord x2 x5) fun x9 =>
        ob1 (
            if ((q0 3) - x3) ≤ x5 then
              some (0 : Int32)
            else
              ck (x3 + x5) 150 <|
              some (tx0 (x3 + x5).toNatClampNeg)) fun x13 =>
        lt1 (
            if x9 = x13 then
              (1 : Int32)
            else
              (0 : Int32)) fun x17 =>
        lt_ (x5 + 1) fun x19 =>
        m9_isWord_L5 N n x2 x3 x17 x19 tx0 q0
def m9_isWord (N : Nat) (tx0 : Nat → Int32) (q0 : Nat → Int32) (a1 : Int32) (a2 : Int32) : Option (Int32) :=
  ob1 (m9_isWord_L5 N N a1 a2 1 0 tx0 q0) fun x20 =>
  ckp (x20 = 0 ∨ x20 = 1) <|
  some x20
def m9_fail (q0 : Nat → Int32) (a1 : Int32) : (Nat → Int32) :=
  lt1 (
      if 0 ≤ (q0 4) then
        q0 4
      else
        a1) fun x2 =>
  lt_ (upd q0 4 x2) fun q4 =>
  q4
def m9_readWord_L5 (N : Nat) : Nat → (Int32) → (Nat → Int32) → (Nat → Int32) → Option ((Nat → Int32))
  | 0, _, _, _ => none
  | n+1, x3, tx0, q4 =>
    ob1 (m9_isLetter tx0 q4) fun x6 =>
    if x6 = 0 then
      some q4
    else
      lt_ (upd q4 3 ((q4 3) + 1)) fun q9 =>
      m9_readWord_L5 N n x3 tx0 q9
def m9_readWord_L27 (N : Nat) : Nat → (Int32) → (Int32) → (Nat → Int32) → (Nat → Int32) → Option (Int32 × (Nat → Int32))
  | 0, _, _, _, _ => none
  | n+1, x13, x14, tx0, q10 =>
    if 7 < x14 then
      lt1 (m9_fail q10 x13) fun q16 =>
      some ((-1), q16)
    else
      if (q10 3) ≤ x13 then
        lt1 (m9_fail q10 x13) fun q19 =>
        some ((-1), q19)
      else
        ob1 (m9_isWord N tx0 q10 x14 x13) fun x21 =>
        if x21 = 0 then
          lt_ (x14 + 1) fun x24 =>
          m9_readWord_L27 N n x13 x24 tx0 q10
        else
          some (x14, q10)
def m9_readWord (N : Nat) (tx0 : Nat → Int32) (q0 : Nat → Int32) : Option (Int32 × (Nat → Int32)) :=
  lt_ (q0 3) fun x1 =>
  ob1 (m9_readWord_L5 N N x1 tx0 q0) fun q10 =>
  m9_readWord_L27 N N x1 0 tx0 q10
def m9_readNumber_L28 (N : Nat) : Nat → (Int32) → (Int32) → (Int32) → (Nat → Int32) → (Nat → Int32) → Option (Int32 × (Nat → Int32))
  | 0, _, _, _, _, _ => none
  | n+1, x14, x15, x16, tx0, q17 =>
    ob1 (m9_isDigit tx0 q17) fun x20 =>
    if x20 = 0 then
      some (x16, q17)
    else
      if 3 ≤ ((q17 3) - x15) then
        some (x16, q17)
      else
        ob1 (m9_here tx0 q17) fun x24 =>
        lt_ (((10 * x16) + x24) - 48) fun x26 =>
        lt_ (upd q17 3 ((q17 3) + 1)) fun q27 =>
        m9_readNumber_L28 N n x14 x15 x26 tx0 q27
def m9_readNumber (N : Nat) (tx0 : Nat → Int32) (nu0 : Nat → Int32) (q0 : Nat → Int32) (a1 : Int32) : Option ((Nat → Int32) × (Nat → Int32)) :=
  ob1 (m9_here tx0 q0) fun x1 =>
  lt1 (
      if x1 = 32 then
        q0
      else
        lt1 (m9_fail q0 (q0 3)) fun q8 =>
        q8) fun q6 =>
  ob1 (m9_skip N tx0 q6) fun q10 =>
  lt_ (q10 3) fun x12 =>
  ob2 (m9_readNumber_L28 N N a1 x12 0 tx0 q10) fun x28 q29 =>
  ob1 (
      if (q29 3) = x12 then
        lt1 (m9_fail q29 (q29 3)) fun q41 =>
        some q41
      else
        ob1 (m9_isDigit tx0 q29) fun x43 =>
        if x43 = 0 then
          some q29
        else
          lt1 (m9_fail q29 (q29 3)) fun q46 =>
          some q46) fun q39 =>
  ck a1 5 <|
  lt_ (upd nu0 a1.toNatClampNeg x28) fun nu49 =>
  some (nu49, q39)
def m9_readCommand_L7 (N : Nat) : Nat → (Int32) → (Int32) → (Nat → Int32) → (Nat → Int32) → (Nat → Int32) → Option ((Nat → Int32) × (Nat → Int32))
  | 0, _, _, _, _, _ => none
  | n+1, x5, x6, tx0, nu7, q8 =>
    if 0 ≤ (q8 4) then
      some (nu7, q8)
    else
      lt1 (m9_numbersOf x5) fun x12 =>
      if x12 ≤ x6 then
        some (nu7, q8)
      else
        ob2 (m9_readNumber N tx0 nu7 q8 x6) fun nu15 q16 =>
        lt_ (x6 + 1) fun x18 =>
        m9_readCommand_L7 N n x5 x18 tx0 nu15 q16
def m9_readCommand (N : Nat) (tx0 : Nat → Int32) (nu0 : Nat → Int32) (q0 : Nat → Int32) : Option (Int32 × (Nat → Int32) × (Nat → Int32)) :=
  ob2 (m9_readWord N tx0 q0) fun x1 q2 =>
  ob2 (m9_readCommand_L7 N N x1 0 tx0 nu0 q2) fun nu19 q20 =>
  ob1 (m9_skip N tx0 q20) fun q22 =>
  ob1 (
      if 0 ≤ (q22 4) then
        some q22
      else
        ob1 (m9_here tx0 q22) fun x32 =>
        if x32 = 59 then
          some q22
        else
          lt1 (m9_fail q22 (q22 3)) fun q35 =>
          some q35) fun q30 =>
  lt_ (upd q30 3 ((q30 3) + 1)) fun q37 =>
  ob1 (m9_skip N tx0 q37) fun q38 =>
  some (x1, nu19, q38)
def m9_check_L14 (N : Nat) : Nat → (Nat → Int32) → (Nat → Int32) → (Nat → Int32) → Option ((Nat → Int32) × (Nat → Int32))
  | 0, _, _, _ => none
  | n+1, tx0, nu6, q7 =>
    if 0 ≤ (q7 4) then
      some (nu6, q7)
    else
      if (q7 2) ≤ (q7 3) then
        some (nu6, q7)
      else
        ob3 (m9_readCommand N tx0 nu6 q7) fun x12 nu13 q14 =>
        m9_check_L14 N n tx0 nu13 q14
def m9_check (N : Nat) (tx0 : Nat → Int32) (nu0 : Nat → Int32) (q0 : Nat → Int32) : Option ((Nat → Int32) × (Nat → Int32)) :=
  lt_ (upd q0 3 0) fun q1 =>
  lt_ (upd q1 4 (-1)) fun q2 =>
  ob1 (m9_skip N tx0 q2) fun q3 =>
  ob2 (m9_check_L14 N N tx0 nu0 q3) fun nu16 q17 =>
  some (nu16, q17)
def m9_carryOut (N : Nat) (s0 : Nat → Int32) (ow0 : Nat → Int32) (rs0 : Nat → Int64) (nu0 : Nat → Int32) (a1 : Int32) : Option (Int32 × (Nat → Int32) × (Nat → Int32) × (Nat → Int64)) :=
  ck 0 5 <|
  lt_ (nu0 (0 : Int32).toNatClampNeg) fun x2 =>
  ck 1 5 <|
  lt_ (nu0 (1 : Int32).toNatClampNeg) fun x4 =>
  ck 2 5 <|
  lt_ (nu0 (2 : Int32).toNatClampNeg) fun x6 =>
  ob4 (
      if a1 = 0 then
        ck 3 5 <|
        ck 4 5 <|
        ob1 (m9_kindCode s0 x2 x4 x6 (nu0 (3 : Int32).toNatClampNeg) (nu0 (4 : Int32).toNatClampNeg)) fun x111 =>
        ob2 (
            if x111 ≤ 0 then
              ck 3 5 <|
              ck 4 5 <|
              ob2 (m9_addKindNow s0 x2 x4 x6 (nu0 (3 : Int32).toNatClampNeg) (nu0 (4 : Int32).toNatClampNeg)) fun x124 s125 =>
              some (x124, s125)
            else
              some ((0 : Int32), s0)) fun x119 s120 =>
        some (x111, s120, ow0, rs0)
      else if a1 = 1 then
        ck 3 265 <|
        lt1 (
            if (s0 (3 : Int32).toNatClampNeg) = 8 then
              (1 : Int32)
            else
              (0 : Int32)) fun x129 =>
        ob2 (
            if x129 ≤ 0 then
              ob2 (m9_addHouseNow N s0) fun x138 s139 =>
              some (x138, s139)
            else
              some ((0 : Int32), s0)) fun x135 s136 =>
        some (x129, s136, ow0, rs0)
      else if a1 = 2 then
        ob1 (m9_doughCode s0 x2 x4 x6) fun x141 =>
        ob2 (
            if x141 ≤ 0 then
              ob2 (m9_addDoughNow s0 x2 x4 x6) fun x150 s151 =>
              some (x150, s151)
            else
              some ((0 : Int32), s0)) fun x147 s148 =>
        some (x141, s148, ow0, rs0)
      else if a1 = 3 then
        ob1 (m9_bringCode s0 x2 x4) fun x153 =>
        ob2 (
            if x153 ≤ 0 then
              ob2 (m9_bringNow s0 x2 x4) fun x162 s163 =>
              some (x162, s163)
            else
              some ((0 : Int32), s0)) fun x159 s160 =>
        some (x153, s160, ow0, rs0)
      else if a1 = 4 then
        ob1 (m9_stokeCode s0 x2 x4) fun x165 =>
        ob2 (
            if x165 ≤ 0 then
              ob2 (m9_stokeNow s0 x2 x4) fun x174 s175 =>
              some (x174, s175)
            else
              some ((0 : Int32), s0)) fun x171 s172 =>
        some (x165, s172, ow0, rs0)
      else if a1 = 5 then
        ob1 (m9_passCode s0 x2) fun x177 =>
        ob2 (
            if x177 ≤ 0 then
              ob2 (m9_passNow N s0 x2) fun x186 s187 =>
              some (x186, s187)
            else
              some ((0 : Int32), s0)) fun x183 s184 =>
        some (x177, s184, ow0, rs0)
      else if a1 = 6 then
        ob1 (m9_swapCode s0 x2 x4) fun x189 =>
        ob2 (
            if x189 ≤ 0 then
              ob2 (m9_swapNow N s0 x2 x4) fun x198 s199 =>
              some (x198, s199)
            else
              some ((0 : Int32), s0)) fun x195 s196 =>
        some (x189, s196, ow0, rs0)
      else 
        ob4 (m9_settleNow N s0 ow0 rs0) fun x201 s202 ow203 rs204 =>
        some ((0 : Int32), s202, ow203, rs204)) fun x104 s105 ow106 rs107 =>
  if x104 = 0 then
    some (1, s105, ow106, rs107)
  else
    some (0, s105, ow106, rs107)
def m9_runCommands_L41 (N : Nat) : Nat → (Int32) → (Int32) → (Nat → Int32) → (Nat → Int32) → (Nat → Int32) → (Nat → Int64) → (Nat → Int32) → (Nat → Int32) → Option (Int32 × (Nat → Int32) × (Nat → Int32) × (Nat → Int64) × (Nat → Int32) × (Nat → Int32))
  | 0, _, _, _, _, _, _, _, _ => none
  | n+1, x13, x14, s15, tx0, ow16, rs17, nu18, q19 =>
    if x14 = 0 then
      some (x13, s15, ow16, rs17, nu18, q19)
    else
      if (q19 2) ≤ (q19 3) then
        some (x13, s15, ow16, rs17, nu18, q19)
      else
        ob3 (m9_readCommand N tx0 nu18 q19) fun x28 nu29 q30 =>
        ob4 (m9_carryOut N s15 ow16 rs17 nu29 x28) fun x32 s33 ow34 rs35 =>
        lt1 (
            if x32 = 0 then
              (0 : Int32)
            else
              (1 : Int32)) fun x38 =>
        lt_ (x13 + x38) fun x40 =>
        m9_runCommands_L41 N n x40 x32 s33 tx0 ow34 rs35 nu29 q30
def m9_runCommands (N : Nat) (s0 : Nat → Int32) (sv0 : Nat → Int32) (tx0 : Nat → Int32) (ow0 : Nat → Int32) (rs0 : Nat → Int64) (nu0 : Nat → Int32) (q0 : Nat → Int32) : Option (Int32 × (Nat → Int32) × (Nat → Int32) × (Nat → Int32) × (Nat → Int64) × (Nat → Int32) × (Nat → Int32)) :=
  lt_ (upd q0 0 0) fun q1 =>
  ob2 (m9_check N tx0 nu0 q1) fun nu2 q3 =>
  if (q3 4) < 0 then
    ob2 (m9_save N s0 sv0 q3) fun sv6 q7 =>
    lt_ (upd q7 3 0) fun q9 =>
    ob1 (m9_skip N tx0 q9) fun q10 =>
    ob6 (m9_runCommands_L41 N N 0 1 s0 tx0 ow0 rs0 nu2 q10) fun x41 s42 ow43 rs44 nu45 q46 =>
    some (x41, s42, sv6, ow43, rs44, nu45, q46)
  else
    some ((-10) - (q3 4), s0, sv0, ow0, rs0, nu2, q3)
def m9_undo_L37 (N : Nat) : Nat → (Int32) → (Nat → Int32) → (Nat → Int32) → (Nat → Int32) → Option ((Nat → Int32))
  | 0, _, _, _, _ => none
  | n+1, x8, s9, sv0, q6 =>
    if 265 ≤ x8 then
      some s9
    else
      ck ((265 * (q6 1)) + x8) 1060 <|
      ck x8 265 <|
      lt_ (upd s9 x8.toNatClampNeg (sv0 ((265 * (q6 1)) + x8).toNatClampNeg)) fun s14 =>
      lt_ (x8 + 1) fun x15 =>
      m9_undo_L37 N n x15 s14 sv0 q6
def m9_undo (N : Nat) (s0 : Nat → Int32) (sv0 : Nat → Int32) (q0 : Nat → Int32) : Option (Int32 × (Nat → Int32) × (Nat → Int32)) :=
  lt1 (
      if (q0 1) = 0 then
        (1 : Int32)
      else
        (0 : Int32)) fun x2 =>
  lt_ (upd q0 0 x2) fun q4 =>
  if (q4 0) ≤ 0 then
    lt_ (upd q4 1 ((q4 1) - 1)) fun q6 =>
    ob1 (m9_undo_L37 N N 0 s0 sv0 q6) fun s16 =>
    some (q6 1, s16, q6)
  else
    some (0, s0, q4)
def m9_digest_L17 (N : Nat) : Nat → (Int64) → (Int32) → (Nat → Int32) → (Nat → Int32) → Option (Int64)
  | 0, _, _, _, _ => none
  | n+1, x4, x5, s0, q1 =>
    if 15 ≤ x5 then
      some x4
    else
      ob1 (m9_wholeValue N s0 q1 x5) fun x8 =>
      lt_ ((31 * x4) + (x8.toInt64)) fun x10 =>
      lt_ (x5 + 1) fun x11 =>
      m9_digest_L17 N n x10 x11 s0 q1
def m9_digest_L57 (N : Nat) : Nat → (Int64) → (Int32) → (Int32) → (Nat → Int32) → Option (Int64)
  | 0, _, _, _, _ => none
  | n+1, x21, x22, x23, s0 =>
    if 5 ≤ x23 then
      some x21
    else
      ob1 (m9_kindOf s0 x22 x23) fun x26 =>
      lt_ ((31 * x21) + (x26.toInt64)) fun x28 =>
      lt_ (x23 + 1) fun x29 =>
      m9_digest_L57 N n x28 x22 x29 s0
def m9_digest_L44 (N : Nat) : Nat → (Int64) → (Int32) → (Nat → Int32) → Option (Int64)
  | 0, _, _, _ => none
  | n+1, x15, x16, s0 =>
    ck 2 265 <|
    if (s0 (2 : Int32).toNatClampNeg) ≤ x16 then
      some x15
    else
      ob1 (m9_digest_L57 N N x15 x16 0 s0) fun x30 =>
      lt_ (x16 + 1) fun x32 =>
      m9_digest_L44 N n x30 x32 s0
def m9_digest_L108 (N : Nat) : Nat → (Int64) → (Int32) → (Int32) → (Nat → Int32) → Option (Int64)
  | 0, _, _, _, _ => none
  | n+1, x46, x47, x48, s0 =>
    if 7 ≤ x48 then
      some x46
    else
      ob1 (m9_houseValue N s0 x47 x48) fun x51 =>
      lt_ ((31 * x46) + (x51.toInt64)) fun x53 =>
      lt_ (x48 + 1) fun x54 =>
      m9_digest_L108 N n x53 x47 x54 s0
def m9_digest_L95 (N : Nat) : Nat → (Int64) → (Int32) → (Nat → Int32) → (Nat → Int32) → (Nat → Int64) → Option (Int64 × (Nat → Int32) × (Nat → Int64))
  | 0, _, _, _, _, _ => none
  | n+1, x36, x37, s0, ow38, rs39 =>
    ck 3 265 <|
    if (s0 (3 : Int32).toNatClampNeg) ≤ x37 then
      some (x36, ow38, rs39)
    else
      ob1 (m9_digest_L108 N N x36 x37 0 s0) fun x55 =>
      ob3 (m9_owesNow N s0 ow38 rs39 x37) fun x57 ow58 rs59 =>
      lt_ ((31 * x55) + (x57.toInt64)) fun x61 =>
      lt_ (x37 + 1) fun x62 =>
      m9_digest_L95 N n x61 x62 s0 ow58 rs59
def m9_digest_L170 (N : Nat) : Nat → (Int64) → (Int32) → (Int32) → (Nat → Int32) → Option (Int64)
  | 0, _, _, _, _ => none
  | n+1, x74, x75, x76, s0 =>
    if 10 ≤ x76 then
      some x74
    else
      ob1 (m9_doughValue N s0 x75 x76) fun x79 =>
      lt_ ((31 * x74) + (x79.toInt64)) fun x81 =>
      lt_ (x76 + 1) fun x82 =>
      m9_digest_L170 N n x81 x75 x82 s0
def m9_digest_L157 (N : Nat) : Nat → (Int64) → (Int32) → (Nat → Int32) → Option (Int64)
  | 0, _, _, _ => none
  | n+1, x68, x69, s0 =>
    ck 4 265 <|
    if (s0 (4 : Int32).toNatClampNeg) ≤ x69 then
      some x68
    else
      ob1 (m9_digest_L170 N N x68 x69 0 s0) fun x83 =>
      ob1 (m9_reasonNow N s0 x69) fun x85 =>
      lt_ ((31 * x83) + (x85.toInt64)) fun x87 =>
      lt_ (x69 + 1) fun x88 =>
      m9_digest_L157 N n x87 x88 s0
def m9_digest_L228 (N : Nat) : Nat → (Int64) → (Int32) → (Int32) → (Nat → Int32) → Option (Int64)
  | 0, _, _, _, _ => none
  | n+1, x97, x98, x99, s0 =>
    if 4 ≤ x99 then
      some x97
    else
      ob1 (m9_placeValue s0 x98 x99) fun x102 =>
      lt_ ((31 * x97) + (x102.toInt64)) fun x104 =>
      lt_ (x99 + 1) fun x105 =>
      m9_digest_L228 N n x104 x98 x105 s0
def m9_digest_L219 (N : Nat) : Nat → (Int64) → (Int32) → (Nat → Int32) → Option (Int64)
  | 0, _, _, _ => none
  | n+1, x92, x93, s0 =>
    if 12 ≤ x93 then
      some x92
    else
      ob1 (m9_digest_L228 N N x92 x93 0 s0) fun x106 =>
      lt_ (x93 + 1) fun x108 =>
      m9_digest_L219 N n x106 x108 s0
def m9_digest_L263 (N : Nat) : Nat → (Int64) → (Int32) → (Nat → Int32) → Option (Int64)
  | 0, _, _, _ => none
  | n+1, x112, x113, s0 =>
    ck 5 265 <|
    if (s0 (5 : Int32).toNatClampNeg) ≤ x113 then
      some x112
    else
      ck (213 + x113) 265 <|
      lt_ ((31 * x112) + ((s0 (213 + x113).toNatClampNeg).toInt64)) fun x118 =>
      lt_ (x113 + 1) fun x119 =>
      m9_digest_L263 N n x118 x119 s0
def m9_digest (N : Nat) (s0 : Nat → Int32) (u0 : Nat → Int32) (ow0 : Nat → Int32) (rs0 : Nat → Int64) (q0 : Nat → Int32) : Option (Int64 × (Nat → Int32) × (Nat → Int32) × (Nat → Int64) × (Nat → Int32)) :=
  lt_ (upd q0 0 0) fun q1 =>
  lt_ (1343850 + ((q1 1).toInt64)) fun x2 =>
  ob1 (m9_digest_L17 N N x2 0 s0 q1) fun x12 =>
  ob1 (m9_digest_L44 N N x12 0 s0) fun x33 =>
  ob3 (m9_digest_L95 N N x33 0 s0 ow0 rs0) fun x63 ow64 rs65 =>
  ob1 (m9_digest_L157 N N x63 0 s0) fun x89 =>
  ob1 (m9_digest_L219 N N x89 0 s0) fun x109 =>
  ob1 (m9_digest_L263 N N x109 0 s0) fun x120 =>
  ob2 (m9_heatBehind N s0 u0 10) fun x122 u123 =>
  some ((31 * x120) + (x122.toInt64), u123, ow64, rs65, q1)
