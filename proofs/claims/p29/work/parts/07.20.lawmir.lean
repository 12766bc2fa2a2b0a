/-! the law's methods -/
theorem HW.grown {X : bkX} {w : bkW} {H H1 : Heap} (h : HW X w H) (hq : ∀ q : Nat, q < H.size → H1[q]? = H[q]?) : HW X w H1 := fun k q hk => (h k q hk).kept (hq q.1 (h k q hk).lt)
def mL_cell (L : Nat) (xs : Nat → Int32) (a1 : Int32) : Option Int32 :=
  if Int32.ofNat L ≤ a1 then some ((7919 * (a1 + 3)) * (a1 + 11)) else ck a1 L <| some (xs a1.toNatClampNeg)
def mL_low (a0 : Int32) (a1 : Int32) : Option (Int32) :=
  ckp (¬ a1 = 0) <|
  some ((a0 &&& 2147483647) - (a0 &&& 2147483647) / a1 * a1)
def mL_many_L4 (N : Nat) : Nat → (Int32) → (Int32) → (Int32) → Option (Int32)
  | 0, _, _, _ => none
  | n+1, x2, x3, x4 =>
    if 31 ≤ x4 then
      some x3
    else
      lt_ (x3 + ((x2 >>> (x4 &&& 31)) &&& 1)) fun x7 =>
      lt_ (x4 + 1) fun x8 =>
      mL_many_L4 N n x2 x7 x8
def mL_many (N : Nat) (a0 : Int32) : Option (Int32) :=
  ob1 (mL_many_L4 N N a0 0 0 ) fun x9 =>
  some x9
def mL_act (N : Nat) (f0 : bkA) (c0 : bkA) (y0 : Nat → bkA) (o0 : Nat → Int32) (a1 : Int32) : Option (Int32 × bkA × (Nat → bkA) × (Nat → Int32)) :=
  ob1 (m8_whole N f0 c0 1) fun x1 =>
  ob1 (m8_whole N f0 c0 0) fun x3 =>
  ob1 (mL_low (a1 >>> (4 &&& 31)) x1) fun x5 =>
  ob1 (mL_low (a1 >>> (8 &&& 31)) 14) fun x7 =>
  lt_ (1 + x7) fun x9 =>
  ob1 (m8_whole N f0 c0 5) fun x10 =>
  if (a1 &&& 15) = 0 then
    if x3 = 5 then
      some (0, f0, y0, o0)
    else
      ob1 (mL_low (a1 >>> (4 &&& 31)) 200) fun x13 =>
      ob1 (mL_low (a1 >>> (12 &&& 31)) 150) fun x15 =>
      ob1 (mL_low (a1 >>> (20 &&& 31)) 6) fun x17 =>
      ob1 (mL_low (a1 >>> (16 &&& 31)) 4) fun x19 =>
      ob1 (mL_low (a1 >>> (23 &&& 31)) 20) fun x21 =>
      ob4 (m8_addKind f0 y0 o0 (50 + x13) (250 + x15) (1 + x17) x19 (1 + x21)) fun x23 f24 y25 o26 =>
      some (1, f24, y25, o26)
  else if (a1 &&& 15) = 1 then
    if x1 = 8 then
      some (0, f0, y0, o0)
    else
      ob4 (m8_addHouse f0 y0 o0) fun x29 f30 y31 o32 =>
      some (1, f30, y31, o32)
  else if (a1 &&& 15) = 2 then
    ob1 (m8_whole N f0 c0 2) fun x34 =>
    if x34 = 16 then
      some (0, f0, y0, o0)
    else
      ob1 (mL_low (a1 >>> (8 &&& 31)) x3) fun x37 =>
      ob1 (mL_low (a1 >>> (12 &&& 31)) 4) fun x39 =>
      ob4 (m8_addDough f0 y0 o0 x5 x37 (1 + x39)) fun x41 f42 y43 o44 =>
      some (1, f42, y43, o44)
  else if (a1 &&& 15) = 3 then
    ob1 (m8_whole N f0 c0 2) fun x46 =>
    if x46 = 16 then
      some (0, f0, y0, o0)
    else
      ob1 (mL_low (a1 >>> (8 &&& 31)) x3) fun x49 =>
      ob1 (mL_low (a1 >>> (12 &&& 31)) 4) fun x51 =>
      ob4 (m8_addDough f0 y0 o0 x5 x49 (1 + x51)) fun x53 f54 y55 o56 =>
      some (1, f54, y55, o56)
  else if (a1 &&& 15) = 4 then
    ob1 (m8_whole N f0 c0 2) fun x58 =>
    if x58 = 16 then
      some (0, f0, y0, o0)
    else
      ob1 (mL_low (a1 >>> (8 &&& 31)) x3) fun x61 =>
      ob1 (mL_low (a1 >>> (12 &&& 31)) 4) fun x63 =>
      ob4 (m8_addDough f0 y0 o0 x5 x61 (1 + x63)) fun x65 f66 y67 o68 =>
      some (1, f66, y67, o68)
  else if (a1 &&& 15) = 5 then
    ob1 (m8_whole N f0 c0 2) fun x70 =>
    if x70 = 16 then
      some (0, f0, y0, o0)
    else
      ob1 (mL_low (a1 >>> (8 &&& 31)) x3) fun x73 =>
      ob1 (mL_low (a1 >>> (12 &&& 31)) 4) fun x75 =>
      ob4 (m8_addDough f0 y0 o0 x5 x73 (1 + x75)) fun x77 f78 y79 o80 =>
      some (1, f78, y79, o80)
  else if (a1 &&& 15) = 6 then
    ob4 (m8_clearDoughs N f0 y0 o0) fun x82 f83 y84 o85 =>
    some (1, f83, y84, o85)
  else if (a1 &&& 15) = 7 then
    if 2 ≤ x10 then
      ob1 (m8_line f0 0) fun x88 =>
      ob1 (mL_low (a1 >>> (4 &&& 31)) (x10 - 1)) fun x90 =>
      ob1 (m8_line f0 (1 + x90)) fun x92 =>
      ob4 (m8_swap N f0 y0 o0 x88 x92) fun x94 f95 y96 o97 =>
      some (1, f95, y96, o97)
    else
      some (0, f0, y0, o0)
  else if (a1 &&& 15) = 8 then
    ob1 (m8_house N f0 x5 0) fun x99 =>
    if (x99 + x9) ≤ 999 then
      ob4 (m8_bring f0 y0 o0 x5 x9) fun x102 f103 y104 o105 =>
      some (1, f103, y104, o105)
    else
      some (0, f0, y0, o0)
  else if (a1 &&& 15) = 9 then
    ob1 (m8_house N f0 x5 0) fun x107 =>
    if (x107 - x9) < (-20) then
      some (0, f0, y0, o0)
    else
      ob1 (m8_whole N f0 c0 3) fun x110 =>
      if (x110 + (25 * x9)) ≤ 400 then
        ob4 (m8_stoke f0 y0 o0 x5 x9) fun x113 f114 y115 o116 =>
        some (1, f114, y115, o116)
      else
        some (0, f0, y0, o0)
  else if (a1 &&& 15) = 10 then
    ob1 (m8_house N f0 x5 0) fun x118 =>
    if (x118 - x9) < (-20) then
      some (0, f0, y0, o0)
    else
      ob1 (m8_whole N f0 c0 3) fun x121 =>
      if (x121 + (25 * x9)) ≤ 400 then
        ob4 (m8_stoke f0 y0 o0 x5 x9) fun x124 f125 y126 o127 =>
        some (1, f125, y126, o127)
      else
        some (0, f0, y0, o0)
  else if (a1 &&& 15) = 11 then
    ob1 (m8_house N f0 x5 0) fun x129 =>
    if (x129 - x9) < (-20) then
      some (0, f0, y0, o0)
    else
      ob1 (m8_whole N f0 c0 3) fun x132 =>
      if (x132 + (25 * x9)) ≤ 400 then
        ob4 (m8_stoke f0 y0 o0 x5 x9) fun x135 f136 y137 o138 =>
        some (1, f136, y137, o138)
      else
        some (0, f0, y0, o0)
  else if (a1 &&& 15) = 12 then
    ob4 (m8_settle N f0 y0 o0) fun x140 f141 y142 o143 =>
    some (1, f141, y142, o143)
  else 
    ob1 (mL_low (a1 >>> (4 &&& 31)) 9) fun x145 =>
    ob4 (m8_pass N f0 y0 o0 (1 + x145)) fun x147 f148 y149 o150 =>
    some (1, f148, y149, o150)
def mL_addsUp_L22 (N : Nat) : Nat → (Int32) → (Int32) → (Int32) → (Int32) → (Int32) → (Int32) → (Int32) → (Int32) → (Int32) → (bkA) → (bkA) → Option (Int32)
  | 0, _, _, _, _, _, _, _, _, _, _, _ => none
  | n+1, x2, x3, x4, x5, x6, x7, x8, x9, x10, f0, c0 =>
    ob1 (m8_whole N f0 c0 1) fun x11 =>
    if x11 ≤ x10 then
      ob1 (m8_whole N f0 c0 10) fun x14 =>
      if ((x3 + x4) + x2) = x14 then
        ob1 (m8_whole N f0 c0 10) fun x17 =>
        if x7 = x17 then
          ob1 (m8_whole N f0 c0 7) fun x20 =>
          if x4 = x20 then
            ob1 (m8_whole N f0 c0 8) fun x23 =>
            if x5 = x23 then
              ob1 (m8_whole N f0 c0 9) fun x26 =>
              ob1 (m8_whole N f0 c0 7) fun x28 =>
              if (x26 - x28) = x2 then
                lt1 (
                    if x5 ≤ 0 then
                      (0 : Int32)
                    else
                      x4) fun x32 =>
                if x6 = x32 then
                  ob1 (m8_whole N f0 c0 2) fun x35 =>
                  if x8 = x35 then
                    ob1 (m8_whole N f0 c0 12) fun x38 =>
                    if x9 = x38 then
                      some 1
                    else
                      some 0
                  else
                    some 0
                else
                  some 0
              else
                some 0
            else
              some 0
          else
            some 0
        else
          some 0
      else
        some 0
    else
      ob1 (m8_house N f0 x10 0) fun x41 =>
      lt_ (x3 + x41) fun x43 =>
      ob1 (m8_house N f0 x10 1) fun x44 =>
      lt_ (x5 + x44) fun x46 =>
      ob1 (m8_house N f0 x10 2) fun x47 =>
      lt_ (x4 + x47) fun x49 =>
      ob1 (m8_house N f0 x10 3) fun x50 =>
      lt_ (x7 + x50) fun x52 =>
      ob1 (m8_house N f0 x10 4) fun x53 =>
      lt_ (x8 + x53) fun x55 =>
      ob1 (m8_house N f0 x10 5) fun x56 =>
      lt_ (x9 + x56) fun x58 =>
      ob1 (m8_owes N f0 x10) fun x59 =>
      lt_ (x6 + x59) fun x61 =>
      ob1 (m8_house N f0 x10 6) fun x62 =>
      ob1 (m8_house N f0 x10 5) fun x64 =>
      if x64 < x62 then
        some 0
      else
        ob1 (m8_owes N f0 x10) fun x67 =>
        if x67 ≤ 0 then
          lt_ (x10 + 1) fun x70 =>
          mL_addsUp_L22 N n x2 x43 x49 x46 x61 x52 x55 x58 x70 f0 c0
        else
          ob1 (m8_house N f0 x10 1) fun x71 =>
          if x71 = 0 then
            ob1 (m8_whole N f0 c0 7) fun x75 =>
            ob1 (m8_whole N f0 c0 1) fun x77 =>
            if x77 ≤ x75 then
              lt_ (x10 + 1) fun x80 =>
              mL_addsUp_L22 N n x2 x43 x49 x46 x61 x52 x55 x58 x80 f0 c0
            else
              some 0
          else
            lt_ (x10 + 1) fun x74 =>
            mL_addsUp_L22 N n x2 x43 x49 x46 x61 x52 x55 x58 x74 f0 c0
def mL_addsUp (N : Nat) (f0 : bkA) (c0 : bkA) (a1 : Int32) : Option (Int32) :=
  mL_addsUp_L22 N N a1 0 0 0 0 0 0 0 0 f0 c0
def mL_isHearthRight_L217 (N : Nat) : Nat → (Int32) → (Int32) → (Int32) → (bkA) → (bkA) → Option (Int32)
  | 0, _, _, _, _, _ => none
  | n+1, x9, x10, x11, f0, c0 =>
    if 12 ≤ x11 then
      ob1 (m8_whole N f0 c0 5) fun x13 =>
      if x10 = x13 then
        ob1 (m8_whole N f0 c0 6) fun x16 =>
        ob1 (mL_many N x9) fun x18 =>
        if x16 = (12 - x18) then
          ob1 (m8_place f0 0 0) fun x21 =>
          ob1 (m8_whole N f0 c0 3) fun x23 =>
          if x21 = x23 then
            ob1 (m8_line f0 x10) fun x26 =>
            if x26 = (-1) then
              some 1
            else
              some 0
          else
            some 0
        else
          some 0
      else
        some 0
    else
      ob1 (m8_place f0 x11 1) fun x29 =>
      lt1 (
          if x29 < 0 then
            (0 : Int32)
          else
            (1 : Int32)) fun x32 =>
      lt1 (
          if ((x9 >>> (x11 &&& 31)) &&& 1) = 1 then
            (1 : Int32)
          else
            (0 : Int32)) fun x35 =>
      if x32 = x35 then
        if x29 < 0 then
          if x11 ≤ 0 then
            lt1 (
                if x29 < 0 then
                  (0 : Int32)
                else
                  (1 : Int32)) fun x41 =>
            ob1 (m8_place f0 x11 2) fun x43 =>
            lt1 (
                if x43 < 0 then
                  (0 : Int32)
                else
                  (1 : Int32)) fun x46 =>
            if x41 = x46 then
              ob1 (m8_place f0 x11 3) fun x49 =>
              if x49 ≤ 0 then
                lt_ (x11 + 1) fun x52 =>
                mL_isHearthRight_L217 N n x9 x10 x52 f0 c0
              else
                ob1 (m8_place f0 x11 3) fun x53 =>
                ob1 (m8_place f0 x11 2) fun x55 =>
                if x53 ≤ x55 then
                  lt_ (x11 + 1) fun x58 =>
                  mL_isHearthRight_L217 N n x9 x10 x58 f0 c0
                else
                  some 0
            else
              some 0
          else
            ob1 (m8_place f0 x11 0) fun x59 =>
            ob1 (m8_place f0 (x11 - 1) 0) fun x61 =>
            if x61 < x59 then
              some 0
            else
              lt1 (
                  if x29 < 0 then
                    (0 : Int32)
                  else
                    (1 : Int32)) fun x65 =>
              ob1 (m8_place f0 x11 2) fun x67 =>
              lt1 (
                  if x67 < 0 then
                    (0 : Int32)
                  else
                    (1 : Int32)) fun x70 =>
              if x65 = x70 then
                ob1 (m8_place f0 x11 3) fun x73 =>
                if x73 ≤ 0 then
                  lt_ (x11 + 1) fun x76 =>
                  mL_isHearthRight_L217 N n x9 x10 x76 f0 c0
                else
                  ob1 (m8_place f0 x11 3) fun x77 =>
                  ob1 (m8_place f0 x11 2) fun x79 =>
                  if x77 ≤ x79 then
                    lt_ (x11 + 1) fun x82 =>
                    mL_isHearthRight_L217 N n x9 x10 x82 f0 c0
                  else
                    some 0
              else
                some 0
        else
          ob1 (m8_dough N f0 x29 8) fun x83 =>
          if ((x83 >>> (x11 &&& 31)) &&& 1) = 0 then
            some 0
          else
            if x11 ≤ 0 then
              lt1 (
                  if x29 < 0 then
                    (0 : Int32)
                  else
                    (1 : Int32)) fun x88 =>
              ob1 (m8_place f0 x11 2) fun x90 =>
              lt1 (
                  if x90 < 0 then
                    (0 : Int32)
                  else
                    (1 : Int32)) fun x93 =>
              if x88 = x93 then
                ob1 (m8_place f0 x11 3) fun x96 =>
                if x96 ≤ 0 then
                  lt_ (x11 + 1) fun x99 =>
                  mL_isHearthRight_L217 N n x9 x10 x99 f0 c0
                else
                  ob1 (m8_place f0 x11 3) fun x100 =>
                  ob1 (m8_place f0 x11 2) fun x102 =>
                  if x100 ≤ x102 then
                    lt_ (x11 + 1) fun x105 =>
                    mL_isHearthRight_L217 N n x9 x10 x105 f0 c0
                  else
                    some 0
              else
                some 0
            else
              ob1 (m8_place f0 x11 0) fun x106 =>
              ob1 (m8_place f0 (x11 - 1) 0) fun x108 =>
              if x108 < x106 then
                some 0
              else
                lt1 (
                    if x29 < 0 then
                      (0 : Int32)
                    else
                      (1 : Int32)) fun x112 =>
                ob1 (m8_place f0 x11 2) fun x114 =>
                lt1 (
                    if x114 < 0 then
                      (0 : Int32)
                    else
                      (1 : Int32)) fun x117 =>
                if x112 = x117 then
                  ob1 (m8_place f0 x11 3) fun x120 =>
                  if x120 ≤ 0 then
                    lt_ (x11 + 1) fun x123 =>
                    mL_isHearthRight_L217 N n x9 x10 x123 f0 c0
                  else
                    ob1 (m8_place f0 x11 3) fun x124 =>
                    ob1 (m8_place f0 x11 2) fun x126 =>
                    if x124 ≤ x126 then
                      lt_ (x11 + 1) fun x129 =>
                      mL_isHearthRight_L217 N n x9 x10 x129 f0 c0
                    else
                      some 0
                else
                  some 0
      else
        some 0
def mL_isHearthRight_L6 (N : Nat) : Nat → (Int32) → (Int32) → (Int32) → (bkA) → (bkA) → Option (Int32)
  | 0, _, _, _, _, _ => none
  | n+1, x2, x3, x4, f0, c0 =>
    ob1 (m8_whole N f0 c0 2) fun x5 =>
    if x5 ≤ x4 then
      mL_isHearthRight_L217 N N x2 x3 0 f0 c0
    else
      ob1 (m8_dough N f0 x4 8) fun x130 =>
      ob1 (m8_dough N f0 x4 4) fun x132 =>
      ob1 (m8_dough N f0 x4 7) fun x134 =>
      if (x130 &&& x2) = 0 then
        ob1 (mL_many N x130) fun x137 =>
        ob1 (
            if x132 = 1 then
              ob1 (m8_dough N f0 x4 2) fun x144 =>
              some x144
            else
              some (0 : Int32)) fun x142 =>
        if x137 = x142 then
          lt1 (
              if x132 = 0 then
                (1 : Int32)
              else
                (0 : Int32)) fun x148 =>
          lt1 (
              if x134 < 0 then
                (0 : Int32)
              else
                (1 : Int32)) fun x151 =>
          if x148 = x151 then
            lt1 (
                if x132 = 0 then
                  (1 : Int32)
                else
                  (0 : Int32)) fun x155 =>
            ob1 (m8_reason N f0 x4) fun x157 =>
            lt1 (
                if x157 < 0 then
                  (0 : Int32)
                else
                  (1 : Int32)) fun x160 =>
            if x155 = x160 then
              ob1 (m8_dough N f0 x4 9) fun x163 =>
              ob1 (m8_dough N f0 x4 2) fun x165 =>
              if x163 ≤ x165 then
                if x132 = 0 then
                  ob1 (m8_line f0 x134) fun x186 =>
                  if x186 = x4 then
                    lt1 (
                        if x132 = 1 then
                          (1 : Int32)
                        else
                          if x132 = 2 then
                            (1 : Int32)
                          else
                            (0 : Int32)) fun x191 =>
                    ob1 (m8_dough N f0 x4 6) fun x194 =>
                    lt1 (
                        if x194 < 0 then
                          (0 : Int32)
                        else
                          (1 : Int32)) fun x197 =>
                    if x191 = x197 then
                      lt_ (x2 ||| x130) fun x200 =>
                      lt1 (
                          if x132 = 0 then
                            (1 : Int32)
                          else
                            (0 : Int32)) fun x202 =>
                      lt_ (x3 + x202) fun x204 =>
                      lt_ (x4 + 1) fun x205 =>
                      mL_isHearthRight_L6 N n x200 x204 x205 f0 c0
                    else
                      some 0
                  else
                    some 0
                else
                  lt1 (
                      if x132 = 1 then
                        (1 : Int32)
                      else
                        if x132 = 2 then
                          (1 : Int32)
                        else
                          (0 : Int32)) fun x171 =>
                  ob1 (m8_dough N f0 x4 6) fun x174 =>
                  lt1 (
                      if x174 < 0 then
                        (0 : Int32)
                      else
                        (1 : Int32)) fun x177 =>
                  if x171 = x177 then
                    lt_ (x2 ||| x130) fun x180 =>
                    lt1 (
                        if x132 = 0 then
                          (1 : Int32)
                        else
                          (0 : Int32)) fun x182 =>
                    lt_ (x3 + x182) fun x184 =>
                    lt_ (x4 + 1) fun x185 =>
                    mL_isHearthRight_L6 N n x180 x184 x185 f0 c0
                  else
                    some 0
              else
                some 0
            else
              some 0
          else
            some 0
        else
          some 0
      else
        some 0
def mL_isHearthRight (N : Nat) (f0 : bkA) (c0 : bkA) : Option (Int32) :=
  mL_isHearthRight_L6 N N 0 0 0 f0 c0
def mL_comesTrue_L220 (N : Nat) : Nat → (Int32) → (Int32) → (Int32) → (Int32) → (Int32) → (bkA) → (bkA) → (bkA) → (Nat → bkA) → (Nat → Int32) → Option (Int32 × bkA × bkA × (Nat → bkA) × (Nat → Int32))
  | 0, _, _, _, _, _, _, _, _, _, _ => none
  | n+1, x41, x42, x43, x44, x45, f36, g32, c0, y37, o38 =>
    ob1 (m8_whole N f36 c0 2) fun x46 =>
    if x46 ≤ x45 then
      ob1 (m8_whole N f36 c0 3) fun x49 =>
      if x49 = x41 then
        some (1, f36, g32, y37, o38)
      else
        some (0, f36, g32, y37, o38)
    else
      lt1 (
          if ((x42 >>> (x45 &&& 31)) &&& 1) = 1 then
            (1 : Int32)
          else
            (0 : Int32)) fun x53 =>
      lt1 (
          if ((x43 >>> (x45 &&& 31)) &&& 1) = 1 then
            (1 : Int32)
          else
            (0 : Int32)) fun x56 =>
      ob1 (m8_dough N f36 x45 4) fun x58 =>
      if ((x44 >>> (x45 &&& 31)) &&& 1) = 0 then
        lt1 (
            if x58 = 3 then
              (1 : Int32)
            else
              (0 : Int32)) fun x63 =>
        if x53 = x63 then
          lt1 (
              if x58 = 1 then
                (1 : Int32)
              else
                if x58 = 2 then
                  (1 : Int32)
                else
                  (0 : Int32)) fun x68 =>
          if x56 = x68 then
            lt_ (x45 + 1) fun x72 =>
            mL_comesTrue_L220 N n x41 x42 x43 x44 x72 f36 g32 c0 y37 o38
          else
            some (0, f36, g32, y37, o38)
        else
          some (0, f36, g32, y37, o38)
      else
        lt_ (x45 + 1) fun x61 =>
        mL_comesTrue_L220 N n x41 x42 x43 x44 x61 f36 g32 c0 y37 o38
def mL_comesTrue_L30 (N : Nat) : Nat → (Int32) → (Int32) → (Int32) → (Int32) → (Int32) → (Int32) → (Int32) → (bkA) → (bkA) → (bkA) → (Nat → bkA) → (Nat → Int32) → Option (Int32 × bkA × bkA × (Nat → bkA) × (Nat → Int32))
  | 0, _, _, _, _, _, _, _, _, _, _, _, _ => none
  | n+1, x11, x12, x13, x14, x15, x16, x17, f0, g18, c0, y0, o0 =>
    ob1 (m8_whole N f0 c0 2) fun x19 =>
    if x19 ≤ x17 then
      if (x14 &&& (x13 ^^^ (-1))) = 0 then
        if (x13 &&& x16) = 0 then
          if (x13 &&& x15) = 0 then
            ob2 (m8_heatIn N f0 g18 0) fun x25 g26 =>
            ob1 (m8_whole N f0 c0 3) fun x28 =>
            if x25 = x28 then
              ob2 (m8_heatIn N f0 g26 (x11 - 1)) fun x31 g32 =>
              if x12 ≤ x31 then
                ob4 (m8_pass N f0 y0 o0 x11) fun x35 f36 y37 o38 =>
                mL_comesTrue_L220 N N x12 x13 x15 x16 0 f36 g32 c0 y37 o38
              else
                some (0, f0, g32, y0, o0)
            else
              some (0, f0, g26, y0, o0)
          else
            some (0, f0, g18, y0, o0)
        else
          some (0, f0, g18, y0, o0)
      else
        some (0, f0, g18, y0, o0)
    else
      ob2 (m8_loadedIn N f0 g18 x17) fun x73 g74 =>
      lt1 (
          if x73 ≤ 0 then
            (0 : Int32)
          else
            if x11 < x73 then
              (0 : Int32)
            else
              1 <<< (x17 &&& 31)) fun x78 =>
      lt_ (x15 ||| x78) fun x81 =>
      ob1 (m8_dough N f0 x17 4) fun x82 =>
      lt1 (
          if x82 ≤ 0 then
            (0 : Int32)
          else
            1 <<< (x17 &&& 31)) fun x85 =>
      lt_ (x16 ||| x85) fun x87 =>
      ob1 (m8_neededLogs N f0 x17) fun x88 =>
      if 16 < x88 then
        some (0, f0, g74, y0, o0)
      else
        lt1 (
            if x88 = 0 then
              (1 : Int32)
            else
              (0 : Int32)) fun x92 =>
        ob1 (m8_reason N f0 x17) fun x94 =>
        lt1 (
            if x94 = 0 then
              (1 : Int32)
            else
              (0 : Int32)) fun x97 =>
        if x92 = x97 then
          ob1 (m8_whole N f0 c0 3) fun x100 =>
          if (x100 + (25 * x88)) ≤ 400 then
            lt_ (x17 + 1) fun x103 =>
            mL_comesTrue_L30 N n x11 x12 x13 x14 x81 x87 x103 f0 g74 c0 y0 o0
          else
            some (0, f0, g74, y0, o0)
        else
          some (0, f0, g74, y0, o0)
def mL_comesTrue (N : Nat) (f0 : bkA) (g0 : bkA) (c0 : bkA) (y0 : Nat → bkA) (o0 : Nat → Int32) (a1 : Int32) : Option (Int32 × bkA × bkA × (Nat → bkA) × (Nat → Int32)) :=
  ob2 (m8_heatIn N f0 g0 a1) fun x1 g2 =>
  ob2 (m8_spoiledIn N f0 g2 a1) fun x4 g5 =>
  ob2 (m8_spoiledIn N f0 g5 (a1 - 1)) fun x7 g8 =>
  mL_comesTrue_L30 N N a1 x1 x4 x7 0 0 0 f0 g8 c0 y0 o0
def mL_law_L103 (N : Nat) (L : Nat) (xs : Nat → Int32) : Nat → (Int32) → (Int32) → (Int32) → (Int32) → (bkA) → (bkA) → (bkA) → (Nat → bkA) → (Nat → Int32) → Option (Int32)
  | 0, _, _, _, _, _, _, _, _, _ => none
  | n+1, x36, x37, x38, x39, f40, g41, c0, y42, o43 =>
    if 16 ≤ x39 then
      ob1 (mL_low (x36 >>> (9 &&& 31)) 9) fun x45 =>
      ob5 (mL_comesTrue N f40 g41 c0 y42 o43 (1 + x45)) fun x47 f48 g49 y50 o51 =>
      if x47 = 0 then
        some 0
      else
        ob1 (mL_isHearthRight N f48 c0) fun x54 =>
        if x54 = 0 then
          some 0
        else
          ob1 (mL_addsUp N f48 c0 x38) fun x57 =>
          if x57 = 0 then
            some 0
          else
            some 1
    else
      ob1 (mL_cell L xs x39) fun x60 =>
      ob2 (m8_digest N f40 g41 c0 o43) fun x62 g63 =>
      ob1 (m8_whole N f40 c0 8) fun x65 =>
      ob1 (
          if x65 ≤ 0 then
            some (0 : Int32)
          else
            ob1 (m8_whole N f40 c0 7) fun x72 =>
            some x72) fun x70 =>
      ob4 (mL_act N f40 c0 y42 o43 x60) fun x74 f75 y76 o77 =>
      if x74 = 0 then
        ob2 (m8_digest N f75 g63 c0 o77) fun x138 g139 =>
        if (lg_cmp x138 x62) = 0 then
          lt1 (
              if x74 = 0 then
                x37
              else
                if 4 ≤ x37 then
                  x37
                else
                  lt_ (x37 + 1) fun x148 =>
                  x148) fun x145 =>
          lt1 (
              if x74 = 0 then
                x38
              else
                if (x60 &&& 15) = 12 then
                  lt_ (x38 + x70) fun x155 =>
                  x155
                else
                  x38) fun x152 =>
          if x74 = 0 then
            ob1 (mL_addsUp N f75 c0 x152) fun x157 =>
            if x157 = 0 then
              some 0
            else
              if (x39 &&& 1) = 0 then
                ob1 (mL_isHearthRight N f75 c0) fun x162 =>
                if x162 = 0 then
                  some 0
                else
                  lt_ (x39 + 1) fun x165 =>
                  mL_law_L103 N L xs n x36 x145 x152 x165 f75 g139 c0 y76 o77
              else
                lt_ (x39 + 1) fun x161 =>
                mL_law_L103 N L xs n x36 x145 x152 x161 f75 g139 c0 y76 o77
          else
            ob1 (mL_low (x60 >>> (24 &&& 31)) 4) fun x166 =>
            if x166 = 0 then
              ob3 (m8_undo f75 y76 o77) fun x178 f179 o180 =>
              if x178 = (x145 - 1) then
                lt_ (x145 + (-1)) fun x183 =>
                ob4 (mL_act N f179 c0 y76 o180 x60) fun x184 f185 y186 o187 =>
                if x184 = 0 then
                  some 0
                else
                  lt_ (x183 + 1) fun x190 =>
                  ob1 (mL_addsUp N f185 c0 x152) fun x191 =>
                  if x191 = 0 then
                    some 0
                  else
                    if (x39 &&& 1) = 0 then
                      ob1 (mL_isHearthRight N f185 c0) fun x196 =>
                      if x196 = 0 then
                        some 0
                      else
                        lt_ (x39 + 1) fun x199 =>
                        mL_law_L103 N L xs n x36 x190 x152 x199 f185 g139 c0 y186 o187
                    else
                      lt_ (x39 + 1) fun x195 =>
                      mL_law_L103 N L xs n x36 x190 x152 x195 f185 g139 c0 y186 o187
              else
                some 0
            else
              ob1 (mL_addsUp N f75 c0 x152) fun x169 =>
              if x169 = 0 then
                some 0
              else
                if (x39 &&& 1) = 0 then
                  ob1 (mL_isHearthRight N f75 c0) fun x174 =>
                  if x174 = 0 then
                    some 0
                  else
                    lt_ (x39 + 1) fun x177 =>
                    mL_law_L103 N L xs n x36 x145 x152 x177 f75 g139 c0 y76 o77
                else
                  lt_ (x39 + 1) fun x173 =>
                  mL_law_L103 N L xs n x36 x145 x152 x173 f75 g139 c0 y76 o77
        else
          some 0
      else
        lt1 (
            if x74 = 0 then
              x37
            else
              if 4 ≤ x37 then
                x37
              else
                lt_ (x37 + 1) fun x86 =>
                x86) fun x83 =>
        lt1 (
            if x74 = 0 then
              x38
            else
              if (x60 &&& 15) = 12 then
                lt_ (x38 + x70) fun x93 =>
                x93
              else
                x38) fun x90 =>
        if x74 = 0 then
          ob1 (mL_addsUp N f75 c0 x90) fun x95 =>
          if x95 = 0 then
            some 0
          else
            if (x39 &&& 1) = 0 then
              ob1 (mL_isHearthRight N f75 c0) fun x100 =>
              if x100 = 0 then
                some 0
              else
                lt_ (x39 + 1) fun x103 =>
                mL_law_L103 N L xs n x36 x83 x90 x103 f75 g63 c0 y76 o77
            else
              lt_ (x39 + 1) fun x99 =>
              mL_law_L103 N L xs n x36 x83 x90 x99 f75 g63 c0 y76 o77
        else
          ob1 (mL_low (x60 >>> (24 &&& 31)) 4) fun x104 =>
          if x104 = 0 then
            ob3 (m8_undo f75 y76 o77) fun x116 f117 o118 =>
            if x116 = (x83 - 1) then
              lt_ (x83 + (-1)) fun x121 =>
              ob4 (mL_act N f117 c0 y76 o118 x60) fun x122 f123 y124 o125 =>
              if x122 = 0 then
                some 0
              else
                lt_ (x121 + 1) fun x128 =>
                ob1 (mL_addsUp N f123 c0 x90) fun x129 =>
                if x129 = 0 then
                  some 0
                else
                  if (x39 &&& 1) = 0 then
                    ob1 (mL_isHearthRight N f123 c0) fun x134 =>
                    if x134 = 0 then
                      some 0
                    else
                      lt_ (x39 + 1) fun x137 =>
                      mL_law_L103 N L xs n x36 x128 x90 x137 f123 g63 c0 y124 o125
                  else
                    lt_ (x39 + 1) fun x133 =>
                    mL_law_L103 N L xs n x36 x128 x90 x133 f123 g63 c0 y124 o125
            else
              some 0
          else
            ob1 (mL_addsUp N f75 c0 x90) fun x107 =>
            if x107 = 0 then
              some 0
            else
              if (x39 &&& 1) = 0 then
                ob1 (mL_isHearthRight N f75 c0) fun x112 =>
                if x112 = 0 then
                  some 0
                else
                  lt_ (x39 + 1) fun x115 =>
                  mL_law_L103 N L xs n x36 x83 x90 x115 f75 g63 c0 y76 o77
              else
                lt_ (x39 + 1) fun x111 =>
                mL_law_L103 N L xs n x36 x83 x90 x111 f75 g63 c0 y76 o77
def mL_law (N : Nat) (L : Nat) (xs : Nat → Int32) (f0 : bkA) (g0 : bkA) (c0 : bkA) (y0 : Nat → bkA) (o0 : Nat → Int32) : Option Int32 :=
  ob1 (mL_cell L xs 0) fun x1 =>
  ob1 (mL_low x1 100) fun x3 =>
  ob1 (mL_low (x1 >>> (7 &&& 31)) 200) fun x5 =>
  ob1 (mL_low (x1 >>> (15 &&& 31)) 5) fun x7 =>
  ob1 (mL_low (x1 >>> (18 &&& 31)) 3) fun x9 =>
  ob1 (mL_low (x1 >>> (20 &&& 31)) 20) fun x11 =>
  ob4 (m8_addKind f0 y0 o0 (50 + x3) (160 + x5) (1 + x7) x9 (3 + x11)) fun x13 f14 y15 o16 =>
  ob4 (m8_addHouse f14 y15 o16) fun x18 f19 y20 o21 =>
  ob4 (m8_addHouse f19 y20 o21) fun x23 f24 y25 o26 =>
  ob1 (mL_low (x1 >>> (4 &&& 31)) 2) fun x28 =>
  ob4 (m8_bring f24 y25 o26 x28 40) fun x30 f31 y32 o33 =>
  mL_law_L103 N L xs N x1 4 0 1 f31 g0 c0 y32 o33
