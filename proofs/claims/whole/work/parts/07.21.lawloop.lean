def ob7 {α α2 α3 α4 α5 α6 α7 β : Type} (a : Option (α × α2 × α3 × α4 × α5 × α6 × α7)) (k : α → α2 → α3 → α4 → α5 → α6 → α7 → Option β) : Option β := a.bind fun x => k x.1 x.2.1 x.2.2.1 x.2.2.2.1 x.2.2.2.2.1 x.2.2.2.2.2.1 x.2.2.2.2.2.2
theorem ob7_e {α α2 α3 α4 α5 α6 α7 β : Type} {a : Option (α × α2 × α3 × α4 × α5 × α6 × α7)} {k : α → α2 → α3 → α4 → α5 → α6 → α7 → Option β} {r : β} (hf : ob7 a k = some r) : ∃ x y z u v t s, a = some (x, y, z, u, v, t, s) ∧ k x y z u v t s = some r := by
  cases a with
  | none => cases hf
  | some x => exact ⟨x.1, x.2.1, x.2.2.1, x.2.2.2.1, x.2.2.2.2.1, x.2.2.2.2.2.1, x.2.2.2.2.2.2, rfl, hf⟩
def mL_law_L23 (N : Nat) (L : Nat) (xs : Nat → Int32) : Nat → (Int32) → (bkA) → (bkA) → (bkA) → (Nat → bkA) → (Nat → Int32) → (Nat → Int64) → (Nat → Int32) → (Nat → Int32) → (Nat → Int32) → (Nat → Int32) → (Nat → Int32) → (Nat → Int64) → (Nat → Int32) → (Nat → Int32) → (Nat → Int32) → Option (Int32)
  | 0, _, _, _, _, _, _, _, _, _, _, _, _, _, _, _, _ => none
  | n+1, x2, f3, g4, c5, y6, o7, z8, s9, u10, sv11, tx12, ow13, rs14, rn15, nu16, q17 =>
    if ((Int32.ofNat L) - 6) < x2 then
      some 1
    else
      ck x2 L <|
      if ((xs x2.toNatClampNeg) &&& 31) = 0 then
        ck (x2 + 1) L <|
        ck (x2 + 2) L <|
        ck (x2 + 3) L <|
        ck (x2 + 4) L <|
        ck (x2 + 5) L <|
        ob5 (m8_addKind f3 y6 o7 (xs (x2 + 1).toNatClampNeg) (xs (x2 + 2).toNatClampNeg) (xs (x2 + 3).toNatClampNeg) (xs (x2 + 4).toNatClampNeg) (xs (x2 + 5).toNatClampNeg)) fun k25 x26 f27 y28 o29 =>
        ckp (k25 = 0 ∨ k25 = 2 ∨ k25 = 3) <|
        lt_ ((if k25 = 0 then vp_updL z8 0 x26.toInt64 else z8)) fun z32 =>
        lt_ ((if k25 = 0 then (0 : Int32) else if k25 = 2 then 1 else 2)) fun x33 =>
        ck (x2 + 1) L <|
        ck (x2 + 2) L <|
        ck (x2 + 3) L <|
        ck (x2 + 4) L <|
        ck (x2 + 5) L <|
        ob4 (m9_addKind N s9 sv11 q17 (xs (x2 + 1).toNatClampNeg) (xs (x2 + 2).toNatClampNeg) (xs (x2 + 3).toNatClampNeg) (xs (x2 + 4).toNatClampNeg) (xs (x2 + 5).toNatClampNeg)) fun x39 s40 sv41 q42 =>
        lt1 (m9_thrown q42) fun x44 =>
        if x44 = x33 then
          if x33 = 0 then
            ck 0 1 <|
            if (lg_cmp (z32 (0 : Int32).toNatClampNeg) (x39.toInt64)) = 0 then
              lt_ (x2 + 6) fun x51 =>
              mL_law_L23 N L xs n x51 f27 g4 c5 y28 o29 z32 s40 u10 sv41 tx12 ow13 rs14 rn15 nu16 q42
            else
              some 0
          else
            lt_ (x2 + 6) fun x48 =>
            mL_law_L23 N L xs n x48 f27 g4 c5 y28 o29 z32 s40 u10 sv41 tx12 ow13 rs14 rn15 nu16 q42
        else
          some 0
      else if ((xs x2.toNatClampNeg) &&& 31) = 1 then
        ob5 (m8_addHouse f3 y6 o7) fun k52 x53 f54 y55 o56 =>
        ckp (k52 = 0 ∨ k52 = 3) <|
        lt_ ((if k52 = 0 then vp_updL z8 0 x53.toInt64 else z8)) fun z59 =>
        lt_ ((if k52 = 0 then (0 : Int32) else 1)) fun x60 =>
        ob4 (m9_addHouse N s9 sv11 q17) fun x61 s62 sv63 q64 =>
        lt1 (m9_thrown q64) fun x66 =>
        if x66 = x60 then
          if x60 = 0 then
            ck 0 1 <|
            if (lg_cmp (z59 (0 : Int32).toNatClampNeg) (x61.toInt64)) = 0 then
              lt_ (x2 + 6) fun x73 =>
              mL_law_L23 N L xs n x73 f54 g4 c5 y55 o56 z59 s62 u10 sv63 tx12 ow13 rs14 rn15 nu16 q64
            else
              some 0
          else
            lt_ (x2 + 6) fun x70 =>
            mL_law_L23 N L xs n x70 f54 g4 c5 y55 o56 z59 s62 u10 sv63 tx12 ow13 rs14 rn15 nu16 q64
        else
          some 0
      else if ((xs x2.toNatClampNeg) &&& 31) = 2 then
        ck (x2 + 1) L <|
        ck (x2 + 2) L <|
        ck (x2 + 3) L <|
        ob5 (m8_addDough f3 y6 o7 (xs (x2 + 1).toNatClampNeg) (xs (x2 + 2).toNatClampNeg) (xs (x2 + 3).toNatClampNeg)) fun k77 x78 f79 y80 o81 =>
        ckp (k77 = 0 ∨ k77 = 1 ∨ k77 = 2 ∨ k77 = 3) <|
        lt_ ((if k77 = 0 then vp_updL z8 0 x78.toInt64 else z8)) fun z84 =>
        lt_ ((if k77 = 0 then (0 : Int32) else if k77 = 1 then 1 else if k77 = 2 then 2 else 3)) fun x85 =>
        ck (x2 + 1) L <|
        ck (x2 + 2) L <|
        ck (x2 + 3) L <|
        ob4 (m9_addDough N s9 sv11 q17 (xs (x2 + 1).toNatClampNeg) (xs (x2 + 2).toNatClampNeg) (xs (x2 + 3).toNatClampNeg)) fun x89 s90 sv91 q92 =>
        lt1 (m9_thrown q92) fun x94 =>
        if x94 = x85 then
          if x85 = 0 then
            ck 0 1 <|
            if (lg_cmp (z84 (0 : Int32).toNatClampNeg) (x89.toInt64)) = 0 then
              lt_ (x2 + 6) fun x101 =>
              mL_law_L23 N L xs n x101 f79 g4 c5 y80 o81 z84 s90 u10 sv91 tx12 ow13 rs14 rn15 nu16 q92
            else
              some 0
          else
            lt_ (x2 + 6) fun x98 =>
            mL_law_L23 N L xs n x98 f79 g4 c5 y80 o81 z84 s90 u10 sv91 tx12 ow13 rs14 rn15 nu16 q92
        else
          some 0
      else if ((xs x2.toNatClampNeg) &&& 31) = 3 then
        ob4 (m8_clearDoughs N f3 y6 o7) fun x102 f103 y104 o105 =>
        ob5 (m9_clearDoughs N s9 sv11 rn15 q17) fun x107 s108 sv109 rn110 q111 =>
        if x102 = x107 then
          lt_ (x2 + 6) fun x114 =>
          mL_law_L23 N L xs n x114 f103 g4 c5 y104 o105 z8 s108 u10 sv109 tx12 ow13 rs14 rn110 nu16 q111
        else
          some 0
      else if ((xs x2.toNatClampNeg) &&& 31) = 4 then
        ck (x2 + 1) L <|
        ck (x2 + 2) L <|
        ob5 (m8_swap N f3 y6 o7 (xs (x2 + 1).toNatClampNeg) (xs (x2 + 2).toNatClampNeg)) fun k117 x118 f119 y120 o121 =>
        ckp (k117 = 0 ∨ k117 = 1 ∨ k117 = 2 ∨ k117 = 3) <|
        lt_ ((if k117 = 0 then vp_updL z8 0 x118.toInt64 else z8)) fun z124 =>
        lt_ ((if k117 = 0 then (0 : Int32) else if k117 = 1 then 1 else if k117 = 2 then 2 else 3)) fun x125 =>
        ck (x2 + 1) L <|
        ck (x2 + 2) L <|
        ob4 (m9_swap N s9 sv11 q17 (xs (x2 + 1).toNatClampNeg) (xs (x2 + 2).toNatClampNeg)) fun x128 s129 sv130 q131 =>
        lt1 (m9_thrown q131) fun x133 =>
        if x133 = x125 then
          if x125 = 0 then
            ck 0 1 <|
            if (lg_cmp (z124 (0 : Int32).toNatClampNeg) (x128.toInt64)) = 0 then
              lt_ (x2 + 6) fun x140 =>
              mL_law_L23 N L xs n x140 f119 g4 c5 y120 o121 z124 s129 u10 sv130 tx12 ow13 rs14 rn15 nu16 q131
            else
              some 0
          else
            lt_ (x2 + 6) fun x137 =>
            mL_law_L23 N L xs n x137 f119 g4 c5 y120 o121 z124 s129 u10 sv130 tx12 ow13 rs14 rn15 nu16 q131
        else
          some 0
      else if ((xs x2.toNatClampNeg) &&& 31) = 5 then
        ck (x2 + 1) L <|
        ck (x2 + 2) L <|
        ob5 (m8_bring f3 y6 o7 (xs (x2 + 1).toNatClampNeg) (xs (x2 + 2).toNatClampNeg)) fun k143 x144 f145 y146 o147 =>
        ckp (k143 = 0 ∨ k143 = 1 ∨ k143 = 2 ∨ k143 = 3) <|
        lt_ ((if k143 = 0 then vp_updL z8 0 x144.toInt64 else z8)) fun z150 =>
        lt_ ((if k143 = 0 then (0 : Int32) else if k143 = 1 then 1 else if k143 = 2 then 2 else 3)) fun x151 =>
        ck (x2 + 1) L <|
        ck (x2 + 2) L <|
        ob4 (m9_bring N s9 sv11 q17 (xs (x2 + 1).toNatClampNeg) (xs (x2 + 2).toNatClampNeg)) fun x154 s155 sv156 q157 =>
        lt1 (m9_thrown q157) fun x159 =>
        if x159 = x151 then
          if x151 = 0 then
            ck 0 1 <|
            if (lg_cmp (z150 (0 : Int32).toNatClampNeg) (x154.toInt64)) = 0 then
              lt_ (x2 + 6) fun x166 =>
              mL_law_L23 N L xs n x166 f145 g4 c5 y146 o147 z150 s155 u10 sv156 tx12 ow13 rs14 rn15 nu16 q157
            else
              some 0
          else
            lt_ (x2 + 6) fun x163 =>
            mL_law_L23 N L xs n x163 f145 g4 c5 y146 o147 z150 s155 u10 sv156 tx12 ow13 rs14 rn15 nu16 q157
        else
          some 0
      else if ((xs x2.toNatClampNeg) &&& 31) = 6 then
        ck (x2 + 1) L <|
        ck (x2 + 2) L <|
        ob5 (m8_stoke f3 y6 o7 (xs (x2 + 1).toNatClampNeg) (xs (x2 + 2).toNatClampNeg)) fun k169 x170 f171 y172 o173 =>
        ckp (k169 = 0 ∨ k169 = 1 ∨ k169 = 2 ∨ k169 = 3) <|
        lt_ ((if k169 = 0 then vp_updL z8 0 x170.toInt64 else z8)) fun z176 =>
        lt_ ((if k169 = 0 then (0 : Int32) else if k169 = 1 then 1 else if k169 = 2 then 2 else 3)) fun x177 =>
        ck (x2 + 1) L <|
        ck (x2 + 2) L <|
        ob4 (m9_stoke N s9 sv11 q17 (xs (x2 + 1).toNatClampNeg) (xs (x2 + 2).toNatClampNeg)) fun x180 s181 sv182 q183 =>
        lt1 (m9_thrown q183) fun x185 =>
        if x185 = x177 then
          if x177 = 0 then
            ck 0 1 <|
            if (lg_cmp (z176 (0 : Int32).toNatClampNeg) (x180.toInt64)) = 0 then
              lt_ (x2 + 6) fun x192 =>
              mL_law_L23 N L xs n x192 f171 g4 c5 y172 o173 z176 s181 u10 sv182 tx12 ow13 rs14 rn15 nu16 q183
            else
              some 0
          else
            lt_ (x2 + 6) fun x189 =>
            mL_law_L23 N L xs n x189 f171 g4 c5 y172 o173 z176 s181 u10 sv182 tx12 ow13 rs14 rn15 nu16 q183
        else
          some 0
      else if ((xs x2.toNatClampNeg) &&& 31) = 7 then
        ob4 (m8_settle N f3 y6 o7) fun x193 f194 y195 o196 =>
        ob6 (m9_settle N s9 sv11 ow13 rs14 q17) fun x198 s199 sv200 ow201 rs202 q203 =>
        if x193 = x198 then
          lt_ (x2 + 6) fun x206 =>
          mL_law_L23 N L xs n x206 f194 g4 c5 y195 o196 z8 s199 u10 sv200 tx12 ow201 rs202 rn15 nu16 q203
        else
          some 0
      else if ((xs x2.toNatClampNeg) &&& 31) = 8 then
        ck (x2 + 1) L <|
        ob5 (m8_pass N f3 y6 o7 (xs (x2 + 1).toNatClampNeg)) fun k208 x209 f210 y211 o212 =>
        ckp (k208 = 0 ∨ k208 = 2 ∨ k208 = 3) <|
        lt_ ((if k208 = 0 then vp_updL z8 0 x209.toInt64 else z8)) fun z215 =>
        lt_ ((if k208 = 0 then (0 : Int32) else if k208 = 2 then 1 else 2)) fun x216 =>
        ck (x2 + 1) L <|
        ob4 (m9_pass N s9 sv11 q17 (xs (x2 + 1).toNatClampNeg)) fun x218 s219 sv220 q221 =>
        lt1 (m9_thrown q221) fun x223 =>
        if x223 = x216 then
          if x216 = 0 then
            ck 0 1 <|
            if (lg_cmp (z215 (0 : Int32).toNatClampNeg) (x218.toInt64)) = 0 then
              lt_ (x2 + 6) fun x230 =>
              mL_law_L23 N L xs n x230 f210 g4 c5 y211 o212 z215 s219 u10 sv220 tx12 ow13 rs14 rn15 nu16 q221
            else
              some 0
          else
            lt_ (x2 + 6) fun x227 =>
            mL_law_L23 N L xs n x227 f210 g4 c5 y211 o212 z215 s219 u10 sv220 tx12 ow13 rs14 rn15 nu16 q221
        else
          some 0
      else if ((xs x2.toNatClampNeg) &&& 31) = 9 then
        ck (x2 + 1) L <|
        ck (x2 + 2) L <|
        ob2 (m8_kind f3 (xs (x2 + 1).toNatClampNeg) (xs (x2 + 2).toNatClampNeg)) fun k233 x234 =>
        ckp (k233 = 0 ∨ k233 = 1 ∨ k233 = 2) <|
        lt_ ((if k233 = 0 then vp_updL z8 0 x234.toInt64 else z8)) fun z237 =>
        lt_ ((if k233 = 0 then (0 : Int32) else if k233 = 1 then 1 else 2)) fun x238 =>
        ck (x2 + 1) L <|
        ck (x2 + 2) L <|
        ob2 (m9_kind s9 q17 (xs (x2 + 1).toNatClampNeg) (xs (x2 + 2).toNatClampNeg)) fun x241 q242 =>
        lt1 (m9_thrown q242) fun x244 =>
        if x244 = x238 then
          if x238 = 0 then
            ck 0 1 <|
            if (lg_cmp (z237 (0 : Int32).toNatClampNeg) (x241.toInt64)) = 0 then
              lt_ (x2 + 6) fun x251 =>
              mL_law_L23 N L xs n x251 f3 g4 c5 y6 o7 z237 s9 u10 sv11 tx12 ow13 rs14 rn15 nu16 q242
            else
              some 0
          else
            lt_ (x2 + 6) fun x248 =>
            mL_law_L23 N L xs n x248 f3 g4 c5 y6 o7 z237 s9 u10 sv11 tx12 ow13 rs14 rn15 nu16 q242
        else
          some 0
      else if ((xs x2.toNatClampNeg) &&& 31) = 10 then
        ck (x2 + 1) L <|
        ck (x2 + 2) L <|
        ob2 (m8_house N f3 (xs (x2 + 1).toNatClampNeg) (xs (x2 + 2).toNatClampNeg)) fun k254 x255 =>
        ckp (k254 = 0 ∨ k254 = 1 ∨ k254 = 2) <|
        lt_ ((if k254 = 0 then vp_updL z8 0 x255.toInt64 else z8)) fun z258 =>
        lt_ ((if k254 = 0 then (0 : Int32) else if k254 = 1 then 1 else 2)) fun x259 =>
        ck (x2 + 1) L <|
        ck (x2 + 2) L <|
        ob2 (m9_house N s9 q17 (xs (x2 + 1).toNatClampNeg) (xs (x2 + 2).toNatClampNeg)) fun x262 q263 =>
        lt1 (m9_thrown q263) fun x265 =>
        if x265 = x259 then
          if x259 = 0 then
            ck 0 1 <|
            if (lg_cmp (z258 (0 : Int32).toNatClampNeg) (x262.toInt64)) = 0 then
              lt_ (x2 + 6) fun x272 =>
              mL_law_L23 N L xs n x272 f3 g4 c5 y6 o7 z258 s9 u10 sv11 tx12 ow13 rs14 rn15 nu16 q263
            else
              some 0
          else
            lt_ (x2 + 6) fun x269 =>
            mL_law_L23 N L xs n x269 f3 g4 c5 y6 o7 z258 s9 u10 sv11 tx12 ow13 rs14 rn15 nu16 q263
        else
          some 0
      else if ((xs x2.toNatClampNeg) &&& 31) = 11 then
        ck (x2 + 1) L <|
        ck (x2 + 2) L <|
        ob2 (m8_dough N f3 (xs (x2 + 1).toNatClampNeg) (xs (x2 + 2).toNatClampNeg)) fun k275 x276 =>
        ckp (k275 = 0 ∨ k275 = 1 ∨ k275 = 2) <|
        lt_ ((if k275 = 0 then vp_updL z8 0 x276.toInt64 else z8)) fun z279 =>
        lt_ ((if k275 = 0 then (0 : Int32) else if k275 = 1 then 1 else 2)) fun x280 =>
        ck (x2 + 1) L <|
        ck (x2 + 2) L <|
        ob2 (m9_dough N s9 q17 (xs (x2 + 1).toNatClampNeg) (xs (x2 + 2).toNatClampNeg)) fun x283 q284 =>
        lt1 (m9_thrown q284) fun x286 =>
        if x286 = x280 then
          if x280 = 0 then
            ck 0 1 <|
            if (lg_cmp (z279 (0 : Int32).toNatClampNeg) (x283.toInt64)) = 0 then
              lt_ (x2 + 6) fun x293 =>
              mL_law_L23 N L xs n x293 f3 g4 c5 y6 o7 z279 s9 u10 sv11 tx12 ow13 rs14 rn15 nu16 q284
            else
              some 0
          else
            lt_ (x2 + 6) fun x290 =>
            mL_law_L23 N L xs n x290 f3 g4 c5 y6 o7 z279 s9 u10 sv11 tx12 ow13 rs14 rn15 nu16 q284
        else
          some 0
      else if ((xs x2.toNatClampNeg) &&& 31) = 12 then
        ck (x2 + 1) L <|
        ck (x2 + 2) L <|
        ob2 (m8_place f3 (xs (x2 + 1).toNatClampNeg) (xs (x2 + 2).toNatClampNeg)) fun k296 x297 =>
        ckp (k296 = 0 ∨ k296 = 1 ∨ k296 = 2) <|
        lt_ ((if k296 = 0 then vp_updL z8 0 x297.toInt64 else z8)) fun z300 =>
        lt_ ((if k296 = 0 then (0 : Int32) else if k296 = 1 then 1 else 2)) fun x301 =>
        ck (x2 + 1) L <|
        ck (x2 + 2) L <|
        ob2 (m9_place s9 q17 (xs (x2 + 1).toNatClampNeg) (xs (x2 + 2).toNatClampNeg)) fun x304 q305 =>
        lt1 (m9_thrown q305) fun x307 =>
        if x307 = x301 then
          if x301 = 0 then
            ck 0 1 <|
            if (lg_cmp (z300 (0 : Int32).toNatClampNeg) (x304.toInt64)) = 0 then
              lt_ (x2 + 6) fun x314 =>
              mL_law_L23 N L xs n x314 f3 g4 c5 y6 o7 z300 s9 u10 sv11 tx12 ow13 rs14 rn15 nu16 q305
            else
              some 0
          else
            lt_ (x2 + 6) fun x311 =>
            mL_law_L23 N L xs n x311 f3 g4 c5 y6 o7 z300 s9 u10 sv11 tx12 ow13 rs14 rn15 nu16 q305
        else
          some 0
      else if ((xs x2.toNatClampNeg) &&& 31) = 13 then
        ck (x2 + 1) L <|
        ob2 (m8_whole N f3 c5 (xs (x2 + 1).toNatClampNeg)) fun k316 x317 =>
        ckp (k316 = 0 ∨ k316 = 2) <|
        lt_ ((if k316 = 0 then vp_updL z8 0 x317.toInt64 else z8)) fun z320 =>
        lt_ ((if k316 = 0 then (0 : Int32) else 1)) fun x321 =>
        ck (x2 + 1) L <|
        ob2 (m9_whole N s9 q17 (xs (x2 + 1).toNatClampNeg)) fun x323 q324 =>
        lt1 (m9_thrown q324) fun x326 =>
        if x326 = x321 then
          if x321 = 0 then
            ck 0 1 <|
            if (lg_cmp (z320 (0 : Int32).toNatClampNeg) (x323.toInt64)) = 0 then
              lt_ (x2 + 6) fun x333 =>
              mL_law_L23 N L xs n x333 f3 g4 c5 y6 o7 z320 s9 u10 sv11 tx12 ow13 rs14 rn15 nu16 q324
            else
              some 0
          else
            lt_ (x2 + 6) fun x330 =>
            mL_law_L23 N L xs n x330 f3 g4 c5 y6 o7 z320 s9 u10 sv11 tx12 ow13 rs14 rn15 nu16 q324
        else
          some 0
      else if ((xs x2.toNatClampNeg) &&& 31) = 14 then
        ck (x2 + 1) L <|
        ob2 (m8_line f3 (xs (x2 + 1).toNatClampNeg)) fun k335 x336 =>
        ckp (k335 = 0 ∨ k335 = 2) <|
        lt_ ((if k335 = 0 then vp_updL z8 0 x336.toInt64 else z8)) fun z339 =>
        lt_ ((if k335 = 0 then (0 : Int32) else 1)) fun x340 =>
        ck (x2 + 1) L <|
        ob2 (m9_line s9 q17 (xs (x2 + 1).toNatClampNeg)) fun x342 q343 =>
        lt1 (m9_thrown q343) fun x345 =>
        if x345 = x340 then
          if x340 = 0 then
            ck 0 1 <|
            if (lg_cmp (z339 (0 : Int32).toNatClampNeg) (x342.toInt64)) = 0 then
              lt_ (x2 + 6) fun x352 =>
              mL_law_L23 N L xs n x352 f3 g4 c5 y6 o7 z339 s9 u10 sv11 tx12 ow13 rs14 rn15 nu16 q343
            else
              some 0
          else
            lt_ (x2 + 6) fun x349 =>
            mL_law_L23 N L xs n x349 f3 g4 c5 y6 o7 z339 s9 u10 sv11 tx12 ow13 rs14 rn15 nu16 q343
        else
          some 0
      else if ((xs x2.toNatClampNeg) &&& 31) = 15 then
        ck (x2 + 1) L <|
        ob2 (m8_reason N f3 (xs (x2 + 1).toNatClampNeg)) fun k354 x355 =>
        ckp (k354 = 0 ∨ k354 = 1) <|
        lt_ ((if k354 = 0 then vp_updL z8 0 x355.toInt64 else z8)) fun z358 =>
        lt_ ((if k354 = 0 then (0 : Int32) else 1)) fun x359 =>
        ck (x2 + 1) L <|
        ob2 (m9_reason N s9 q17 (xs (x2 + 1).toNatClampNeg)) fun x361 q362 =>
        lt1 (m9_thrown q362) fun x364 =>
        if x364 = x359 then
          if x359 = 0 then
            ck 0 1 <|
            if (lg_cmp (z358 (0 : Int32).toNatClampNeg) (x361.toInt64)) = 0 then
              lt_ (x2 + 6) fun x371 =>
              mL_law_L23 N L xs n x371 f3 g4 c5 y6 o7 z358 s9 u10 sv11 tx12 ow13 rs14 rn15 nu16 q362
            else
              some 0
          else
            lt_ (x2 + 6) fun x368 =>
            mL_law_L23 N L xs n x368 f3 g4 c5 y6 o7 z358 s9 u10 sv11 tx12 ow13 rs14 rn15 nu16 q362
        else
          some 0
      else if ((xs x2.toNatClampNeg) &&& 31) = 16 then
        ck (x2 + 1) L <|
        ob3 (m8_loadedIn N f3 g4 (xs (x2 + 1).toNatClampNeg)) fun k373 x374 g375 =>
        ckp (k373 = 0 ∨ k373 = 1) <|
        lt_ ((if k373 = 0 then vp_updL z8 0 x374.toInt64 else z8)) fun z378 =>
        lt_ ((if k373 = 0 then (0 : Int32) else 1)) fun x379 =>
        ck (x2 + 1) L <|
        ob3 (m9_loadedIn N s9 u10 q17 (xs (x2 + 1).toNatClampNeg)) fun x381 u382 q383 =>
        lt1 (m9_thrown q383) fun x385 =>
        if x385 = x379 then
          if x379 = 0 then
            ck 0 1 <|
            if (lg_cmp (z378 (0 : Int32).toNatClampNeg) (x381.toInt64)) = 0 then
              lt_ (x2 + 6) fun x392 =>
              mL_law_L23 N L xs n x392 f3 g375 c5 y6 o7 z378 s9 u382 sv11 tx12 ow13 rs14 rn15 nu16 q383
            else
              some 0
          else
            lt_ (x2 + 6) fun x389 =>
            mL_law_L23 N L xs n x389 f3 g375 c5 y6 o7 z378 s9 u382 sv11 tx12 ow13 rs14 rn15 nu16 q383
        else
          some 0
      else if ((xs x2.toNatClampNeg) &&& 31) = 17 then
        ck (x2 + 1) L <|
        ob2 (m8_neededLogs N f3 (xs (x2 + 1).toNatClampNeg)) fun k394 x395 =>
        ckp (k394 = 0 ∨ k394 = 1) <|
        lt_ ((if k394 = 0 then vp_updL z8 0 x395.toInt64 else z8)) fun z398 =>
        lt_ ((if k394 = 0 then (0 : Int32) else 1)) fun x399 =>
        ck (x2 + 1) L <|
        ob3 (m9_neededLogs N s9 u10 q17 (xs (x2 + 1).toNatClampNeg)) fun x401 u402 q403 =>
        lt1 (m9_thrown q403) fun x405 =>
        if x405 = x399 then
          if x399 = 0 then
            ck 0 1 <|
            if (lg_cmp (z398 (0 : Int32).toNatClampNeg) (x401.toInt64)) = 0 then
              lt_ (x2 + 6) fun x412 =>
              mL_law_L23 N L xs n x412 f3 g4 c5 y6 o7 z398 s9 u402 sv11 tx12 ow13 rs14 rn15 nu16 q403
            else
              some 0
          else
            lt_ (x2 + 6) fun x409 =>
            mL_law_L23 N L xs n x409 f3 g4 c5 y6 o7 z398 s9 u402 sv11 tx12 ow13 rs14 rn15 nu16 q403
        else
          some 0
      else if ((xs x2.toNatClampNeg) &&& 31) = 18 then
        ck (x2 + 1) L <|
        ob3 (m8_heatIn N f3 g4 (xs (x2 + 1).toNatClampNeg)) fun k414 x415 g416 =>
        ckp (k414 = 0 ∨ k414 = 2) <|
        lt_ ((if k414 = 0 then vp_updL z8 0 x415.toInt64 else z8)) fun z419 =>
        lt_ ((if k414 = 0 then (0 : Int32) else 1)) fun x420 =>
        ck (x2 + 1) L <|
        ob3 (m9_heatIn N s9 u10 q17 (xs (x2 + 1).toNatClampNeg)) fun x422 u423 q424 =>
        lt1 (m9_thrown q424) fun x426 =>
        if x426 = x420 then
          if x420 = 0 then
            ck 0 1 <|
            if (lg_cmp (z419 (0 : Int32).toNatClampNeg) (x422.toInt64)) = 0 then
              lt_ (x2 + 6) fun x433 =>
              mL_law_L23 N L xs n x433 f3 g416 c5 y6 o7 z419 s9 u423 sv11 tx12 ow13 rs14 rn15 nu16 q424
            else
              some 0
          else
            lt_ (x2 + 6) fun x430 =>
            mL_law_L23 N L xs n x430 f3 g416 c5 y6 o7 z419 s9 u423 sv11 tx12 ow13 rs14 rn15 nu16 q424
        else
          some 0
      else if ((xs x2.toNatClampNeg) &&& 31) = 19 then
        ck (x2 + 1) L <|
        ob3 (m8_spoiledIn N f3 g4 (xs (x2 + 1).toNatClampNeg)) fun k435 x436 g437 =>
        ckp (k435 = 0 ∨ k435 = 2) <|
        lt_ ((if k435 = 0 then vp_updL z8 0 x436.toInt64 else z8)) fun z440 =>
        lt_ ((if k435 = 0 then (0 : Int32) else 1)) fun x441 =>
        ck (x2 + 1) L <|
        ob3 (m9_spoiledIn N s9 u10 q17 (xs (x2 + 1).toNatClampNeg)) fun x443 u444 q445 =>
        lt1 (m9_thrown q445) fun x447 =>
        if x447 = x441 then
          if x441 = 0 then
            ck 0 1 <|
            if (lg_cmp (z440 (0 : Int32).toNatClampNeg) (x443.toInt64)) = 0 then
              lt_ (x2 + 6) fun x454 =>
              mL_law_L23 N L xs n x454 f3 g437 c5 y6 o7 z440 s9 u444 sv11 tx12 ow13 rs14 rn15 nu16 q445
            else
              some 0
          else
            lt_ (x2 + 6) fun x451 =>
            mL_law_L23 N L xs n x451 f3 g437 c5 y6 o7 z440 s9 u444 sv11 tx12 ow13 rs14 rn15 nu16 q445
        else
          some 0
      else if ((xs x2.toNatClampNeg) &&& 31) = 20 then
        ck (x2 + 1) L <|
        ob2 (m8_owes N f3 (xs (x2 + 1).toNatClampNeg)) fun k456 x457 =>
        ckp (k456 = 0 ∨ k456 = 1) <|
        lt_ ((if k456 = 0 then vp_updL z8 0 x457.toInt64 else z8)) fun z460 =>
        lt_ ((if k456 = 0 then (0 : Int32) else 1)) fun x461 =>
        ck (x2 + 1) L <|
        ob4 (m9_owes N s9 ow13 rs14 q17 (xs (x2 + 1).toNatClampNeg)) fun x463 ow464 rs465 q466 =>
        lt1 (m9_thrown q466) fun x468 =>
        if x468 = x461 then
          if x461 = 0 then
            ck 0 1 <|
            if (lg_cmp (z460 (0 : Int32).toNatClampNeg) (x463.toInt64)) = 0 then
              lt_ (x2 + 6) fun x475 =>
              mL_law_L23 N L xs n x475 f3 g4 c5 y6 o7 z460 s9 u10 sv11 tx12 ow464 rs465 rn15 nu16 q466
            else
              some 0
          else
            lt_ (x2 + 6) fun x472 =>
            mL_law_L23 N L xs n x472 f3 g4 c5 y6 o7 z460 s9 u10 sv11 tx12 ow464 rs465 rn15 nu16 q466
        else
          some 0
      else if ((xs x2.toNatClampNeg) &&& 31) = 21 then
        ck (x2 + 1) L <|
        ob3 (m8_type c5 (xs (x2 + 1).toNatClampNeg)) fun k477 x478 c479 =>
        ckp (k477 = 0 ∨ k477 = 2 ∨ k477 = 3) <|
        lt_ ((if k477 = 0 then vp_updL z8 0 x478.toInt64 else z8)) fun z482 =>
        lt_ ((if k477 = 0 then (0 : Int32) else if k477 = 2 then 1 else 2)) fun x483 =>
        ck (x2 + 1) L <|
        ob3 (m9_type tx12 q17 (xs (x2 + 1).toNatClampNeg)) fun x485 tx486 q487 =>
        lt1 (m9_thrown q487) fun x489 =>
        if x489 = x483 then
          if x483 = 0 then
            ck 0 1 <|
            if (lg_cmp (z482 (0 : Int32).toNatClampNeg) (x485.toInt64)) = 0 then
              lt_ (x2 + 6) fun x496 =>
              mL_law_L23 N L xs n x496 f3 g4 c479 y6 o7 z482 s9 u10 sv11 tx486 ow13 rs14 rn15 nu16 q487
            else
              some 0
          else
            lt_ (x2 + 6) fun x493 =>
            mL_law_L23 N L xs n x493 f3 g4 c479 y6 o7 z482 s9 u10 sv11 tx486 ow13 rs14 rn15 nu16 q487
        else
          some 0
      else if ((xs x2.toNatClampNeg) &&& 31) = 22 then
        lt2 (m8_clearCommands c5) fun x497 c498 =>
        lt2 (m9_clearCommands q17) fun x500 q501 =>
        if x497 = x500 then
          lt_ (x2 + 6) fun x504 =>
          mL_law_L23 N L xs n x504 f3 g4 c498 y6 o7 z8 s9 u10 sv11 tx12 ow13 rs14 rn15 nu16 q501
        else
          some 0
      else if ((xs x2.toNatClampNeg) &&& 31) = 23 then
        ob5 (m8_runCommands N f3 c5 y6 o7) fun x505 f506 c507 y508 o509 =>
        ob7 (m9_runCommands N s9 sv11 tx12 ow13 rs14 nu16 q17) fun x511 s512 sv513 ow514 rs515 nu516 q517 =>
        if x505 = x511 then
          lt_ (x2 + 6) fun x520 =>
          mL_law_L23 N L xs n x520 f506 g4 c507 y508 o509 z8 s512 u10 sv513 tx12 ow514 rs515 rn15 nu516 q517
        else
          some 0
      else if ((xs x2.toNatClampNeg) &&& 31) = 24 then
        ob4 (m8_undo f3 y6 o7) fun k521 x522 f523 o524 =>
        ckp (k521 = 0 ∨ k521 = 3) <|
        lt_ ((if k521 = 0 then vp_updL z8 0 x522.toInt64 else z8)) fun z527 =>
        lt_ ((if k521 = 0 then (0 : Int32) else 1)) fun x528 =>
        ob3 (m9_undo N s9 sv11 q17) fun x529 s530 q531 =>
        lt1 (m9_thrown q531) fun x533 =>
        if x533 = x528 then
          if x528 = 0 then
            ck 0 1 <|
            if (lg_cmp (z527 (0 : Int32).toNatClampNeg) (x529.toInt64)) = 0 then
              lt_ (x2 + 6) fun x540 =>
              mL_law_L23 N L xs n x540 f523 g4 c5 y6 o524 z527 s530 u10 sv11 tx12 ow13 rs14 rn15 nu16 q531
            else
              some 0
          else
            lt_ (x2 + 6) fun x537 =>
            mL_law_L23 N L xs n x537 f523 g4 c5 y6 o524 z527 s530 u10 sv11 tx12 ow13 rs14 rn15 nu16 q531
        else
          some 0
      else if ((xs x2.toNatClampNeg) &&& 31) = 25 then
        ob2 (m8_digest N f3 g4 c5 o7) fun x541 g542 =>
        ob5 (m9_digest N s9 u10 ow13 rs14 q17) fun x544 u545 ow546 rs547 q548 =>
        if (lg_cmp x541 x544) = 0 then
          lt_ (x2 + 6) fun x551 =>
          mL_law_L23 N L xs n x551 f3 g542 c5 y6 o7 z8 s9 u545 sv11 tx12 ow546 rs547 rn15 nu16 q548
        else
          some 0
      else 
        lt_ (x2 + 6) fun x552 =>
        mL_law_L23 N L xs n x552 f3 g4 c5 y6 o7 z8 s9 u10 sv11 tx12 ow13 rs14 rn15 nu16 q17
theorem law_w {w : bkW} {f g c : bkA} {y : Nat → bkA} {o : Nat → Int32} {z : Nat → Int64} {s u sv tx ow : Nat → Int32} {rs : Nat → Int64} {rn nu q : Nat → Int32} : pbt (ul (pmm w s u sv tx ow rs rn nu q) 1 z) f g c y o = pmm (pbt (ul w 1 z) f g c y o) s u sv tx ow rs rn nu q := by
  unfold pbt ul pmm
  refine Prod.ext (funext fun a => ?_) (funext fun a => ?_)
  · dsimp only
    by_cases h : a < 148
    · have h0 : ¬ a = 148 := by omega
      have h1 : ¬ a = 149 := by omega
      have h2 : ¬ a = 150 := by omega
      have h3 : ¬ a = 151 := by omega
      have h4 : ¬ a = 152 := by omega
      have h5 : ¬ a = 153 := by omega
      have h6 : ¬ a = 154 := by omega
      have h7 : ¬ a = 155 := by omega
      simp only [h0, h1, h2, h3, h4, h5, h6, h7, if_false]
    · have h0 : ¬ a / 24 = 0 := by omega
      have h1 : ¬ a / 24 = 1 := by omega
      have h2 : ¬ a < 144 := by omega
      have h3 : ¬ a < 147 := by omega
      have h4 : ¬ a = 147 := by omega
      simp only [h0, h1, h2, h3, h4, if_false]
  · dsimp only
    by_cases h : a = 1
    · subst h; rw [ur_s, ur_n (by decide), ur_s]
    · rw [ur_n h]
      by_cases h0 : a = 0
      · subst h0; rw [ur_s, ur_s]
      · rw [ur_n h0, ur_n h0, ur_n h]
theorem law_z {w : bkW} {f g c : bkA} {y : Nat → bkA} {o : Nat → Int32} {z : Nat → Int64} {s u sv tx ow : Nat → Int32} {rs : Nat → Int64} {rn nu q : Nat → Int32} : (pmm (pbt (ul w 1 z) f g c y o) s u sv tx ow rs rn nu q).2 1 = z := rfl
set_option maxHeartbeats 8000000 in
set_option maxRecDepth 100000 in
theorem law_loop {p : Program} {e : Env} {s : State} {m : MethodId} {below : List Frame} {meth : Method} {c : Code} (l : Launch) (hst : l.stackTraces = false) {b L : Nat} {xs : Nat → Int32} (C0 : lw_At p s m meth c b L xs) {X : bkX} {Y : bkY} (hX : XO X s.heap.size) (hK : XK X s) (hG : SG Y s.heap.size s) {N : Nat} {w : bkW} : ∀ (n : Nat) (cl sl : Nat) (x2 : Int32) (f3 : bkA) (g4 : bkA) (c5 : bkA) (y6 : Nat → bkA) (o7 : Nat → Int32) (z8 : Nat → Int64) (s9 : Nat → Int32) (u10 : Nat → Int32) (sv11 : Nat → Int32) (tx12 : Nat → Int32) (ow13 : Nat → Int32) (rs14 : Nat → Int64) (rn15 : Nat → Int32) (nu16 : Nat → Int32) (q17 : Nat → Int32) (H : Heap) (locs : List Loc) (ls : Array Slot), mL_law_L23 N L xs n x2 f3 g4 c5 y6 o7 z8 s9 u10 sv11 tx12 ow13 rs14 rn15 nu16 q17 = some 1 → cl + n ≤ 601024 → sl + 6 * n ≤ 7293034 → HW X (pmm (pbt (ul w 1 z8) f3 g4 c5 y6 o7) s9 u10 sv11 tx12 ow13 rs14 rn15 nu16 q17) H → va_S (xF s.heap.size) s.heap H locs → lv_has ls 7 [(0, .ref b), (1, .ref (xa X 306)), (2, .ref (xa X 314)), (3, .ref (xa X 323)), (4, .int x2)] → W p l e room_1 s m #[Value.ref b] below meth c H locs cl sl (lw_Z below #[Value.ref b] s) (F0 m 23 ls []) := by
  obtain ⟨hx, hb, hr, hml, hown, hts, hXs, hbl, hlocks, hgv⟩ := id C0
  have hbA : ¬ (xF s.heap.size) b := Nat.not_le.mpr hbl
  have hts : ∀ w ∈ wsL_law, w.before #[Value.ref b] s = true := fun w h => hts w (wsL_law_in w h)
  have hown : s.vm.findClass RL = some m.cls := hown
  have hc_87 := (vx_cwSW 7 hts gL_law_L_addKind rfl rfl rfl (by decide +kernel) ⟨Nat.le_of_ble_eq_true rfl, Nat.le_of_ble_eq_true rfl⟩ : vx_CSW room_1 s #[Value.ref b] RL 87 yL_addKind cL_addKind 8 (some .int) [(0, 16, 19, 13), (0, 16, 23, 15)] wsL_addKind rmL_addKind 1 6 7)
  have hc_92 := (cwV 5 hts gL_law_X9_addKind rfl rfl rfl (by decide +kernel) ⟨Nat.le_of_ble_eq_true rfl, Nat.le_of_ble_eq_true rfl⟩ : CallW room_1 s #[Value.ref b] RL RX9 92 yX9_addKind cX9_addKind 6 (some .int) wsX9_addKind rmX9_addKind 0 0 5)
  have hc_93 := (cwV 0 hts gL_law_X9_thrown rfl rfl rfl (by decide +kernel) ⟨Nat.le_of_ble_eq_true rfl, Nat.le_of_ble_eq_true rfl⟩ : CallW room_1 s #[Value.ref b] RL RX9 93 yX9_thrown cX9_thrown 1 (some .int) wsX9_thrown rmX9_thrown 0 0 0)
  have hc_96 := (vx_cwSW 2 hts gL_law_L_addHouse rfl rfl rfl (by decide +kernel) ⟨Nat.le_of_ble_eq_true rfl, Nat.le_of_ble_eq_true rfl⟩ : vx_CSW room_1 s #[Value.ref b] RL 96 yL_addHouse cL_addHouse 3 (some .int) [(0, 8, 11, 15)] wsL_addHouse rmL_addHouse 1 6 2)
  have hc_99 := (cwV 0 hts gL_law_X9_addHouse rfl rfl rfl (by decide +kernel) ⟨Nat.le_of_ble_eq_true rfl, Nat.le_of_ble_eq_true rfl⟩ : CallW room_1 s #[Value.ref b] RL RX9 99 yX9_addHouse cX9_addHouse 1 (some .int) wsX9_addHouse rmX9_addHouse 0 0 0)
  have hc_100 := (vx_cwSW 5 hts gL_law_L_addDough rfl rfl rfl (by decide +kernel) ⟨Nat.le_of_ble_eq_true rfl, Nat.le_of_ble_eq_true rfl⟩ : vx_CSW room_1 s #[Value.ref b] RL 100 yL_addDough cL_addDough 6 (some .int) [(0, 12, 15, 25), (0, 12, 19, 13), (0, 12, 23, 15)] wsL_addDough rmL_addDough 1 6 5)
  have hc_103 := (cwV 3 hts gL_law_X9_addDough rfl rfl rfl (by decide +kernel) ⟨Nat.le_of_ble_eq_true rfl, Nat.le_of_ble_eq_true rfl⟩ : CallW room_1 s #[Value.ref b] RL RX9 103 yX9_addDough cX9_addDough 4 (some .int) wsX9_addDough rmX9_addDough 0 0 3)
  have hc_104 := (cwV 0 hts gL_law_X8_clearDoughs rfl rfl rfl (by decide +kernel) ⟨Nat.le_of_ble_eq_true rfl, Nat.le_of_ble_eq_true rfl⟩ : CallW room_1 s #[Value.ref b] RL RX8 104 yX8_clearDoughs cX8_clearDoughs 1 (some .int) wsX8_clearDoughs rmX8_clearDoughs 0 0 0)
  have hc_107 := (cwV 0 hts gL_law_X9_clearDoughs rfl rfl rfl (by decide +kernel) ⟨Nat.le_of_ble_eq_true rfl, Nat.le_of_ble_eq_true rfl⟩ : CallW room_1 s #[Value.ref b] RL RX9 107 yX9_clearDoughs cX9_clearDoughs 5 (some .int) wsX9_clearDoughs rmX9_clearDoughs 0 0 0)
  have hc_108 := (vx_cwSW 4 hts gL_law_L_swap rfl rfl rfl (by decide +kernel) ⟨Nat.le_of_ble_eq_true rfl, Nat.le_of_ble_eq_true rfl⟩ : vx_CSW room_1 s #[Value.ref b] RL 108 yL_swap cL_swap 5 (some .int) [(0, 10, 13, 25), (0, 10, 17, 13), (0, 10, 21, 15)] wsL_swap rmL_swap 1 6 4)
  have hc_111 := (cwV 2 hts gL_law_X9_swap rfl rfl rfl (by decide +kernel) ⟨Nat.le_of_ble_eq_true rfl, Nat.le_of_ble_eq_true rfl⟩ : CallW room_1 s #[Value.ref b] RL RX9 111 yX9_swap cX9_swap 3 (some .int) wsX9_swap rmX9_swap 0 0 2)
  have hc_112 := (vx_cwSW 4 hts gL_law_L_bring rfl rfl rfl (by decide +kernel) ⟨Nat.le_of_ble_eq_true rfl, Nat.le_of_ble_eq_true rfl⟩ : vx_CSW room_1 s #[Value.ref b] RL 112 yL_bring cL_bring 5 (some .int) [(0, 10, 13, 25), (0, 10, 17, 13), (0, 10, 21, 15)] wsL_bring rmL_bring 1 6 4)
  have hc_114 := (cwV 2 hts gL_law_X9_bring rfl rfl rfl (by decide +kernel) ⟨Nat.le_of_ble_eq_true rfl, Nat.le_of_ble_eq_true rfl⟩ : CallW room_1 s #[Value.ref b] RL RX9 114 yX9_bring cX9_bring 3 (some .int) wsX9_bring rmX9_bring 0 0 2)
  have hc_115 := (vx_cwSW 4 hts gL_law_L_stoke rfl rfl rfl (by decide +kernel) ⟨Nat.le_of_ble_eq_true rfl, Nat.le_of_ble_eq_true rfl⟩ : vx_CSW room_1 s #[Value.ref b] RL 115 yL_stoke cL_stoke 5 (some .int) [(0, 10, 13, 25), (0, 10, 17, 13), (0, 10, 21, 15)] wsL_stoke rmL_stoke 1 6 4)
  have hc_117 := (cwV 2 hts gL_law_X9_stoke rfl rfl rfl (by decide +kernel) ⟨Nat.le_of_ble_eq_true rfl, Nat.le_of_ble_eq_true rfl⟩ : CallW room_1 s #[Value.ref b] RL RX9 117 yX9_stoke cX9_stoke 3 (some .int) wsX9_stoke rmX9_stoke 0 0 2)
  have hc_118 := (cwV 0 hts gL_law_X8_settle rfl rfl rfl (by decide +kernel) ⟨Nat.le_of_ble_eq_true rfl, Nat.le_of_ble_eq_true rfl⟩ : CallW room_1 s #[Value.ref b] RL RX8 118 yX8_settle cX8_settle 1 (some .int) wsX8_settle rmX8_settle 0 0 0)
  have hc_121 := (cwV 0 hts gL_law_X9_settle rfl rfl rfl (by decide +kernel) ⟨Nat.le_of_ble_eq_true rfl, Nat.le_of_ble_eq_true rfl⟩ : CallW room_1 s #[Value.ref b] RL RX9 121 yX9_settle cX9_settle 1 (some .int) wsX9_settle rmX9_settle 0 0 0)
  have hc_122 := (vx_cwSW 3 hts gL_law_L_pass rfl rfl rfl (by decide +kernel) ⟨Nat.le_of_ble_eq_true rfl, Nat.le_of_ble_eq_true rfl⟩ : vx_CSW room_1 s #[Value.ref b] RL 122 yL_pass cL_pass 4 (some .int) [(0, 9, 12, 13), (0, 9, 15, 15)] wsL_pass rmL_pass 1 6 3)
  have hc_125 := (cwV 1 hts gL_law_X9_pass rfl rfl rfl (by decide +kernel) ⟨Nat.le_of_ble_eq_true rfl, Nat.le_of_ble_eq_true rfl⟩ : CallW room_1 s #[Value.ref b] RL RX9 125 yX9_pass cX9_pass 2 (some .int) wsX9_pass rmX9_pass 0 0 1)
  have hc_126 := (vx_cwSW 4 hts gL_law_L_kind rfl rfl rfl (by decide +kernel) ⟨Nat.le_of_ble_eq_true rfl, Nat.le_of_ble_eq_true rfl⟩ : vx_CSW room_1 s #[Value.ref b] RL 126 yL_kind cL_kind 5 (some .int) [(0, 10, 13, 25), (0, 10, 17, 13)] wsL_kind rmL_kind 1 6 4)
  have hc_128 := (cwV 2 hts gL_law_X9_kind rfl rfl rfl (by decide +kernel) ⟨Nat.le_of_ble_eq_true rfl, Nat.le_of_ble_eq_true rfl⟩ : CallW room_1 s #[Value.ref b] RL RX9 128 yX9_kind cX9_kind 3 (some .int) wsX9_kind rmX9_kind 0 0 2)
  have hc_129 := (vx_cwSW 4 hts gL_law_L_house rfl rfl rfl (by decide +kernel) ⟨Nat.le_of_ble_eq_true rfl, Nat.le_of_ble_eq_true rfl⟩ : vx_CSW room_1 s #[Value.ref b] RL 129 yL_house cL_house 5 (some .int) [(0, 10, 13, 25), (0, 10, 17, 13)] wsL_house rmL_house 1 6 4)
  have hc_131 := (cwV 2 hts gL_law_X9_house rfl rfl rfl (by decide +kernel) ⟨Nat.le_of_ble_eq_true rfl, Nat.le_of_ble_eq_true rfl⟩ : CallW room_1 s #[Value.ref b] RL RX9 131 yX9_house cX9_house 3 (some .int) wsX9_house rmX9_house 0 0 2)
  have hc_132 := (vx_cwSW 4 hts gL_law_L_dough rfl rfl rfl (by decide +kernel) ⟨Nat.le_of_ble_eq_true rfl, Nat.le_of_ble_eq_true rfl⟩ : vx_CSW room_1 s #[Value.ref b] RL 132 yL_dough cL_dough 5 (some .int) [(0, 10, 13, 25), (0, 10, 17, 13)] wsL_dough rmL_dough 1 6 4)
  have hc_134 := (cwV 2 hts gL_law_X9_dough rfl rfl rfl (by decide +kernel) ⟨Nat.le_of_ble_eq_true rfl, Nat.le_of_ble_eq_true rfl⟩ : CallW room_1 s #[Value.ref b] RL RX9 134 yX9_dough cX9_dough 3 (some .int) wsX9_dough rmX9_dough 0 0 2)
  have hc_135 := (vx_cwSW 4 hts gL_law_L_place rfl rfl rfl (by decide +kernel) ⟨Nat.le_of_ble_eq_true rfl, Nat.le_of_ble_eq_true rfl⟩ : vx_CSW room_1 s #[Value.ref b] RL 135 yL_place cL_place 5 (some .int) [(0, 10, 13, 25), (0, 10, 17, 13)] wsL_place rmL_place 1 6 4)
  have hc_137 := (cwV 2 hts gL_law_X9_place rfl rfl rfl (by decide +kernel) ⟨Nat.le_of_ble_eq_true rfl, Nat.le_of_ble_eq_true rfl⟩ : CallW room_1 s #[Value.ref b] RL RX9 137 yX9_place cX9_place 3 (some .int) wsX9_place rmX9_place 0 0 2)
  have hc_138 := (vx_cwSW 3 hts gL_law_L_whole rfl rfl rfl (by decide +kernel) ⟨Nat.le_of_ble_eq_true rfl, Nat.le_of_ble_eq_true rfl⟩ : vx_CSW room_1 s #[Value.ref b] RL 138 yL_whole cL_whole 4 (some .int) [(0, 9, 12, 13)] wsL_whole rmL_whole 1 6 3)
  have hc_140 := (cwV 1 hts gL_law_X9_whole rfl rfl rfl (by decide +kernel) ⟨Nat.le_of_ble_eq_true rfl, Nat.le_of_ble_eq_true rfl⟩ : CallW room_1 s #[Value.ref b] RL RX9 140 yX9_whole cX9_whole 2 (some .int) wsX9_whole rmX9_whole 0 0 1)
  have hc_141 := (vx_cwSW 3 hts gL_law_L_line rfl rfl rfl (by decide +kernel) ⟨Nat.le_of_ble_eq_true rfl, Nat.le_of_ble_eq_true rfl⟩ : vx_CSW room_1 s #[Value.ref b] RL 141 yL_line cL_line 4 (some .int) [(0, 9, 12, 13)] wsL_line rmL_line 1 6 3)
  have hc_143 := (cwV 1 hts gL_law_X9_line rfl rfl rfl (by decide +kernel) ⟨Nat.le_of_ble_eq_true rfl, Nat.le_of_ble_eq_true rfl⟩ : CallW room_1 s #[Value.ref b] RL RX9 143 yX9_line cX9_line 2 (some .int) wsX9_line rmX9_line 0 0 1)
  have hc_144 := (vx_cwSW 3 hts gL_law_L_reason rfl rfl rfl (by decide +kernel) ⟨Nat.le_of_ble_eq_true rfl, Nat.le_of_ble_eq_true rfl⟩ : vx_CSW room_1 s #[Value.ref b] RL 144 yL_reason cL_reason 4 (some .int) [(0, 9, 12, 25)] wsL_reason rmL_reason 1 6 3)
  have hc_146 := (cwV 1 hts gL_law_X9_reason rfl rfl rfl (by decide +kernel) ⟨Nat.le_of_ble_eq_true rfl, Nat.le_of_ble_eq_true rfl⟩ : CallW room_1 s #[Value.ref b] RL RX9 146 yX9_reason cX9_reason 2 (some .int) wsX9_reason rmX9_reason 0 0 1)
  have hc_147 := (vx_cwSW 3 hts gL_law_L_loadedIn rfl rfl rfl (by decide +kernel) ⟨Nat.le_of_ble_eq_true rfl, Nat.le_of_ble_eq_true rfl⟩ : vx_CSW room_1 s #[Value.ref b] RL 147 yL_loadedIn cL_loadedIn 4 (some .int) [(0, 9, 12, 25)] wsL_loadedIn rmL_loadedIn 1 6 3)
  have hc_149 := (cwV 1 hts gL_law_X9_loadedIn rfl rfl rfl (by decide +kernel) ⟨Nat.le_of_ble_eq_true rfl, Nat.le_of_ble_eq_true rfl⟩ : CallW room_1 s #[Value.ref b] RL RX9 149 yX9_loadedIn cX9_loadedIn 4 (some .int) wsX9_loadedIn rmX9_loadedIn 0 0 1)
  have hc_150 := (vx_cwSW 3 hts gL_law_L_neededLogs rfl rfl rfl (by decide +kernel) ⟨Nat.le_of_ble_eq_true rfl, Nat.le_of_ble_eq_true rfl⟩ : vx_CSW room_1 s #[Value.ref b] RL 150 yL_neededLogs cL_neededLogs 4 (some .int) [(0, 9, 12, 25)] wsL_neededLogs rmL_neededLogs 1 6 3)
  have hc_152 := (cwV 1 hts gL_law_X9_neededLogs rfl rfl rfl (by decide +kernel) ⟨Nat.le_of_ble_eq_true rfl, Nat.le_of_ble_eq_true rfl⟩ : CallW room_1 s #[Value.ref b] RL RX9 152 yX9_neededLogs cX9_neededLogs 3 (some .int) wsX9_neededLogs rmX9_neededLogs 0 0 1)
  have hc_153 := (vx_cwSW 3 hts gL_law_L_heatIn rfl rfl rfl (by decide +kernel) ⟨Nat.le_of_ble_eq_true rfl, Nat.le_of_ble_eq_true rfl⟩ : vx_CSW room_1 s #[Value.ref b] RL 153 yL_heatIn cL_heatIn 4 (some .int) [(0, 9, 12, 13)] wsL_heatIn rmL_heatIn 1 6 3)
  have hc_155 := (cwV 1 hts gL_law_X9_heatIn rfl rfl rfl (by decide +kernel) ⟨Nat.le_of_ble_eq_true rfl, Nat.le_of_ble_eq_true rfl⟩ : CallW room_1 s #[Value.ref b] RL RX9 155 yX9_heatIn cX9_heatIn 2 (some .int) wsX9_heatIn rmX9_heatIn 0 0 1)
  have hc_156 := (vx_cwSW 3 hts gL_law_L_spoiledIn rfl rfl rfl (by decide +kernel) ⟨Nat.le_of_ble_eq_true rfl, Nat.le_of_ble_eq_true rfl⟩ : vx_CSW room_1 s #[Value.ref b] RL 156 yL_spoiledIn cL_spoiledIn 4 (some .int) [(0, 9, 12, 13)] wsL_spoiledIn rmL_spoiledIn 1 6 3)
  have hc_158 := (cwV 1 hts gL_law_X9_spoiledIn rfl rfl rfl (by decide +kernel) ⟨Nat.le_of_ble_eq_true rfl, Nat.le_of_ble_eq_true rfl⟩ : CallW room_1 s #[Value.ref b] RL RX9 158 yX9_spoiledIn cX9_spoiledIn 4 (some .int) wsX9_spoiledIn rmX9_spoiledIn 0 0 1)
  have hc_159 := (vx_cwSW 3 hts gL_law_L_owes rfl rfl rfl (by decide +kernel) ⟨Nat.le_of_ble_eq_true rfl, Nat.le_of_ble_eq_true rfl⟩ : vx_CSW room_1 s #[Value.ref b] RL 159 yL_owes cL_owes 4 (some .int) [(0, 9, 12, 25)] wsL_owes rmL_owes 1 6 3)
  have hc_161 := (cwV 1 hts gL_law_X9_owes rfl rfl rfl (by decide +kernel) ⟨Nat.le_of_ble_eq_true rfl, Nat.le_of_ble_eq_true rfl⟩ : CallW room_1 s #[Value.ref b] RL RX9 161 yX9_owes cX9_owes 2 (some .int) wsX9_owes rmX9_owes 0 0 1)
  have hc_162 := (vx_cwSW 3 hts gL_law_L_type rfl rfl rfl (by decide +kernel) ⟨Nat.le_of_ble_eq_true rfl, Nat.le_of_ble_eq_true rfl⟩ : vx_CSW room_1 s #[Value.ref b] RL 162 yL_type cL_type 4 (some .int) [(0, 9, 12, 13), (0, 9, 15, 15)] wsL_type rmL_type 1 6 3)
  have hc_164 := (cwV 1 hts gL_law_X9_type rfl rfl rfl (by decide +kernel) ⟨Nat.le_of_ble_eq_true rfl, Nat.le_of_ble_eq_true rfl⟩ : CallW room_1 s #[Value.ref b] RL RX9 164 yX9_type cX9_type 2 (some .int) wsX9_type rmX9_type 0 0 1)
  have hc_165 := (cwV 0 hts gL_law_X8_clearCommands rfl rfl rfl (by decide +kernel) ⟨Nat.le_of_ble_eq_true rfl, Nat.le_of_ble_eq_true rfl⟩ : CallW room_1 s #[Value.ref b] RL RX8 165 yX8_clearCommands cX8_clearCommands 1 (some .int) wsX8_clearCommands rmX8_clearCommands 0 0 0)
  have hc_168 := (cwV 0 hts gL_law_X9_clearCommands rfl rfl rfl (by decide +kernel) ⟨Nat.le_of_ble_eq_true rfl, Nat.le_of_ble_eq_true rfl⟩ : CallW room_1 s #[Value.ref b] RL RX9 168 yX9_clearCommands cX9_clearCommands 2 (some .int) wsX9_clearCommands rmX9_clearCommands 0 0 0)
  have hc_169 := (cwV 0 hts gL_law_X8_runCommands rfl rfl rfl (by decide +kernel) ⟨Nat.le_of_ble_eq_true rfl, Nat.le_of_ble_eq_true rfl⟩ : CallW room_1 s #[Value.ref b] RL RX8 169 yX8_runCommands cX8_runCommands 3 (some .int) wsX8_runCommands rmX8_runCommands 0 0 0)
  have hc_172 := (cwV 0 hts gL_law_X9_runCommands rfl rfl rfl (by decide +kernel) ⟨Nat.le_of_ble_eq_true rfl, Nat.le_of_ble_eq_true rfl⟩ : CallW room_1 s #[Value.ref b] RL RX9 172 yX9_runCommands cX9_runCommands 3 (some .int) wsX9_runCommands rmX9_runCommands 0 0 0)
  have hc_173 := (vx_cwSW 2 hts gL_law_L_undo rfl rfl rfl (by decide +kernel) ⟨Nat.le_of_ble_eq_true rfl, Nat.le_of_ble_eq_true rfl⟩ : vx_CSW room_1 s #[Value.ref b] RL 173 yL_undo cL_undo 3 (some .int) [(0, 8, 11, 15)] wsL_undo rmL_undo 1 6 2)
  have hc_175 := (cwV 0 hts gL_law_X9_undo rfl rfl rfl (by decide +kernel) ⟨Nat.le_of_ble_eq_true rfl, Nat.le_of_ble_eq_true rfl⟩ : CallW room_1 s #[Value.ref b] RL RX9 175 yX9_undo cX9_undo 2 (some .int) wsX9_undo rmX9_undo 0 0 0)
  have hc_176 := (cwV 0 hts gL_law_X8_digest rfl rfl rfl (by decide +kernel) ⟨Nat.le_of_ble_eq_true rfl, Nat.le_of_ble_eq_true rfl⟩ : CallW room_1 s #[Value.ref b] RL RX8 176 yX8_digest cX8_digest 4 (some .long) wsX8_digest rmX8_digest 0 0 0)
  have hc_180 := (cwV 0 hts gL_law_X9_digest rfl rfl rfl (by decide +kernel) ⟨Nat.le_of_ble_eq_true rfl, Nat.le_of_ble_eq_true rfl⟩ : CallW room_1 s #[Value.ref b] RL RX9 180 yX9_digest cX9_digest 5 (some .long) wsX9_digest rmX9_digest 0 0 0)
  have L23 : ∀ (n : Nat) (cl sl : Nat) (x2 : Int32) (f3 : bkA) (g4 : bkA) (c5 : bkA) (y6 : Nat → bkA) (o7 : Nat → Int32) (z8 : Nat → Int64) (s9 : Nat → Int32) (u10 : Nat → Int32) (sv11 : Nat → Int32) (tx12 : Nat → Int32) (ow13 : Nat → Int32) (rs14 : Nat → Int64) (rn15 : Nat → Int32) (nu16 : Nat → Int32) (q17 : Nat → Int32) (H : Heap) (locs : List Loc) (ls : Array Slot), mL_law_L23 N L xs n x2 f3 g4 c5 y6 o7 z8 s9 u10 sv11 tx12 ow13 rs14 rn15 nu16 q17 = some 1 → cl + n ≤ 601024 → sl + 6 * n ≤ 7293034 → HW X (pmm (pbt (ul w 1 z8) f3 g4 c5 y6 o7) s9 u10 sv11 tx12 ow13 rs14 rn15 nu16 q17) H → va_S (xF s.heap.size) s.heap H locs → lv_has ls 7 [(0, .ref b), (1, .ref (xa X 306)), (2, .ref (xa X 314)), (3, .ref (xa X 323)), (4, .int x2)] → W p l e room_1 s m #[Value.ref b] below meth c H locs cl sl (lw_Z below #[Value.ref b] s) (F0 m 23 ls []) := by
    intro n; induction n with
    | zero => intro cl sl x2 f3 g4 c5 y6 o7 z8 s9 u10 sv11 tx12 ow13 rs14 rn15 nu16 q17 H locs ls hf; rw [mL_law_L23] at hf; cases hf
    | succ n ih =>
      intro cl sl x2 f3 g4 c5 y6 o7 z8 s9 u10 sv11 tx12 ow13 rs14 rn15 nu16 q17 H locs ls hf hcl hsl hP hS hl
      rw [mL_law_L23] at hf
      refine lv_iload hx hb dL_law_23 (lv_at hl 4 rfl) ?_
      refine lv_aload_n hx hb dL_law_25 rfl (lv_at hl 0 rfl) ?_
      refine va_slen hx hb hXs hbl hbA hS dL_law_26 ?_
      refine lv_bipush (v := 6) hx hb dL_law_27 (by decide) ?_
      refine lv_isub hx hb dL_law_29 ?_
      refine lv_icmp_gt (tgt := 1540) hx hb dL_law_30 (by decide) (fun h18 => ?_) (fun h18 => ?_)
      · rw [if_pos h18] at hf
        refine lv_iconst (v := 1) hx hb dL_law_1540 (by decide) ?_
        refine va_forget (fun q hq => hS.2.2 q hq) ?_
        refine W.widen (k := 601024) (n := 7293034) (by omega) (by omega) ?_
        exact lw_ret hx hb hr hlocks dL_law_1541
      · rw [if_neg h18] at hf
        refine lv_aload_n hx hb dL_law_33 rfl (lv_at hl 0 rfl) ?_
        refine lv_iload hx hb dL_law_34 (lv_at hl 4 rfl) ?_
        obtain ⟨hin19, hf⟩ := ck_e hf
        refine va_sld hx hb hXs hbl hbA hS hin19 dL_law_36 ?_
        refine lv_bipush (v := 31) hx hb dL_law_37 (by decide) ?_
        refine lv_iand hx hb dL_law_39 ?_
        by_cases hsw553 : ((xs x2.toNatClampNeg) &&& 31) = 0
        · rw [if_pos hsw553] at hf
          refine lv_tableIn (off := 120) (tgt := 160) hx hb dL_law_40 (by rw [hsw553]; decide) (by rw [hsw553]; decide) (by rw [hsw553]; rfl) (by decide) ?_
          refine lv_aload_n hx hb dL_law_160 rfl (lv_at hl 1 rfl) ?_
          refine lv_aload_n hx hb dL_law_161 rfl (lv_at hl 0 rfl) ?_
          refine lv_iload hx hb dL_law_162 (lv_at hl 4 rfl) ?_
          refine lv_iconst (v := 1) hx hb dL_law_164 (by decide) ?_
          refine lv_iadd hx hb dL_law_165 ?_
          obtain ⟨hin20, hf⟩ := ck_e hf
          refine va_sld hx hb hXs hbl hbA hS hin20 dL_law_166 ?_
          refine lv_aload_n hx hb dL_law_167 rfl (lv_at hl 0 rfl) ?_
          refine lv_iload hx hb dL_law_168 (lv_at hl 4 rfl) ?_
          refine lv_iconst (v := 2) hx hb dL_law_170 (by decide) ?_
          refine lv_iadd hx hb dL_law_171 ?_
          obtain ⟨hin21, hf⟩ := ck_e hf
          refine va_sld hx hb hXs hbl hbA hS hin21 dL_law_172 ?_
          refine lv_aload_n hx hb dL_law_173 rfl (lv_at hl 0 rfl) ?_
          refine lv_iload hx hb dL_law_174 (lv_at hl 4 rfl) ?_
          refine lv_iconst (v := 3) hx hb dL_law_176 (by decide) ?_
          refine lv_iadd hx hb dL_law_177 ?_
          obtain ⟨hin22, hf⟩ := ck_e hf
          refine va_sld hx hb hXs hbl hbA hS hin22 dL_law_178 ?_
          refine lv_aload_n hx hb dL_law_179 rfl (lv_at hl 0 rfl) ?_
          refine lv_iload hx hb dL_law_180 (lv_at hl 4 rfl) ?_
          refine lv_iconst (v := 4) hx hb dL_law_182 (by decide) ?_
          refine lv_iadd hx hb dL_law_183 ?_
          obtain ⟨hin23, hf⟩ := ck_e hf
          refine va_sld hx hb hXs hbl hbA hS hin23 dL_law_184 ?_
          refine lv_aload_n hx hb dL_law_185 rfl (lv_at hl 0 rfl) ?_
          refine lv_iload hx hb dL_law_186 (lv_at hl 4 rfl) ?_
          refine lv_iconst (v := 5) hx hb dL_law_188 (by decide) ?_
          refine lv_iadd hx hb dL_law_189 ?_
          obtain ⟨hin24, hf⟩ := ck_e hf
          refine va_sld hx hb hXs hbl hbA hS hin24 dL_law_190 ?_
          refine lv_aload_n hx hb dL_law_191 rfl (lv_at hl 3 rfl) ?_
          obtain ⟨k25, x26, f27, y28, o29, hc30, hf⟩ := ob5_e hf
          obtain ⟨hcd31, hf⟩ := ckp_e hf
          refine va_calli (vx_runSW (As := [.ref (xa X 306), .int (xs (x2 + 1).toNatClampNeg), .int (xs (x2 + 2).toNatClampNeg), .int (xs (x2 + 3).toNatClampNeg), .int (xs (x2 + 4).toNatClampNeg), .int (xs (x2 + 5).toNatClampNeg), .ref (xa X 323)]) (rest := []) ⟨hx, hb, hml, hown, hts⟩ (by have hM := kL_addKind l hst (Y := Y) hX (pmm w s9 u10 sv11 tx12 ow13 rs14 rn15 nu16 q17) (f0 := f3) (g0 := g4) (c0 := c5) (y0 := y6) (o0 := o7) (z := z8) hc30 hcd31; simp only [law_w] at hM; exact hM) hc_87 ⟨w_blindS, w_preS hP hK hG hS⟩ rfl rfl hl.1 rfl (Nat.le_of_ble_eq_true rfl) dL_law_192 ⟨Nat.le_trans (show _ ≤ 601024 by omega) (Nat.le_of_ble_eq_true rfl), Nat.le_trans (show _ ≤ 7293034 by omega) (Nat.le_of_ble_eq_true rfl)⟩) hS (fun _ _ h => h) (fun _ h => h) (fun r u t H locs ht hvm hrr hB _ _ hS => ?_)
          subst hrr
          have hP : HW X (pmm (pbt (ul w 1 (if k25 = 0 then vp_updL z8 0 x26.toInt64 else z8)) f27 g4 c5 y28 o29) s9 u10 sv11 tx12 ow13 rs14 rn15 nu16 q17) H := by rw [← ht]; exact hB.1
          obtain ⟨z32, ez32⟩ : ∃ y, y = (if k25 = 0 then vp_updL z8 0 x26.toInt64 else z8) := ⟨_, rfl⟩
          rw [← ez32] at hP
          replace hf := ltn_s ez32 hf
          refine lv_topi (fun x33 ex33 => ?_)
          replace hf := ltn_s ex33 hf
          refine lv_istore (lv' := [(5, .int x33), (0, .ref b), (1, .ref (xa X 306)), (2, .ref (xa X 314)), (3, .ref (xa X 323)), (4, .int x2)]) hx hb dL_law_195 hl (by decide) rfl (fun ls hl => ?_)
          refine lv_aload_n hx hb dL_law_197 rfl (lv_at hl 3 rfl) ?_
          refine lv_aload_n hx hb dL_law_198 rfl (lv_at hl 1 rfl) ?_
          refine lv_iload hx hb dL_law_199 (lv_at hl 5 rfl) ?_
          refine lv_iconst (v := 1) hx hb dL_law_201 (by decide) ?_
          refine lv_iadd hx hb dL_law_202 ?_
          obtain ⟨hin34, hf⟩ := ck_e hf
          refine va_sld hx hb hXs hbl hbA hS hin34 dL_law_203 ?_
          refine lv_aload_n hx hb dL_law_204 rfl (lv_at hl 1 rfl) ?_
          refine lv_iload hx hb dL_law_205 (lv_at hl 5 rfl) ?_
          refine lv_iconst (v := 2) hx hb dL_law_207 (by decide) ?_
          refine lv_iadd hx hb dL_law_208 ?_
          obtain ⟨hin35, hf⟩ := ck_e hf
          refine va_sld hx hb hXs hbl hbA hS hin35 dL_law_209 ?_
          refine lv_aload_n hx hb dL_law_210 rfl (lv_at hl 1 rfl) ?_
          refine lv_iload hx hb dL_law_211 (lv_at hl 5 rfl) ?_
          refine lv_iconst (v := 3) hx hb dL_law_213 (by decide) ?_
          refine lv_iadd hx hb dL_law_214 ?_
          obtain ⟨hin36, hf⟩ := ck_e hf
          refine va_sld hx hb hXs hbl hbA hS hin36 dL_law_215 ?_
          refine lv_aload_n hx hb dL_law_216 rfl (lv_at hl 1 rfl) ?_
          refine lv_iload hx hb dL_law_217 (lv_at hl 5 rfl) ?_
          refine lv_iconst (v := 4) hx hb dL_law_219 (by decide) ?_
          refine lv_iadd hx hb dL_law_220 ?_
          obtain ⟨hin37, hf⟩ := ck_e hf
          refine va_sld hx hb hXs hbl hbA hS hin37 dL_law_221 ?_
          refine lv_aload_n hx hb dL_law_222 rfl (lv_at hl 1 rfl) ?_
          refine lv_iload hx hb dL_law_223 (lv_at hl 5 rfl) ?_
          refine lv_iconst (v := 5) hx hb dL_law_225 (by decide) ?_
          refine lv_iadd hx hb dL_law_226 ?_
          obtain ⟨hin38, hf⟩ := ck_e hf
          refine va_sld hx hb hXs hbl hbA hS hin38 dL_law_227 ?_
          obtain ⟨x39, s40, sv41, q42, hc43, hf⟩ := ob4_e hf
          refine w_ci ⟨hx, hb, hml, hown, hts⟩ hP hK hS (k9_addKind l hX (pbt (ul w 1 z32) f27 g4 c5 y28 o29) hc43) hc_92 (w_recv hP hK (by decide) emb_mm rfl) rfl hl.1 rfl (Nat.le_of_ble_eq_true rfl) dL_law_228 ⟨Nat.le_trans (show _ ≤ 601024 by omega) (Nat.le_of_ble_eq_true rfl), Nat.le_trans (show _ ≤ 7293034 by omega) (Nat.le_of_ble_eq_true rfl)⟩ (fun H locs hP hS => ?_)
          refine lv_istore (lv' := [(6, .int x39), (5, .int x33), (0, .ref b), (1, .ref (xa X 306)), (2, .ref (xa X 314)), (3, .ref (xa X 323)), (4, .int x2)]) hx hb dL_law_231 hl (by decide) rfl (fun ls hl => ?_)
          refine lv_aload_n hx hb dL_law_233 rfl (lv_at hl 4 rfl) ?_
          obtain ⟨x44, hc45, hf⟩ := lt1_e hf
          refine w_ci ⟨hx, hb, hml, hown, hts⟩ hP hK hS (k9_thrown l hX (pbt (ul w 1 z32) f27 g4 c5 y28 o29) hc45) hc_93 (w_recv hP hK (by decide) emb_mm rfl) rfl hl.1 rfl (Nat.le_of_ble_eq_true rfl) dL_law_234 ⟨Nat.le_trans (show _ ≤ 601024 by omega) (Nat.le_of_ble_eq_true rfl), Nat.le_trans (show _ ≤ 7293034 by omega) (Nat.le_of_ble_eq_true rfl)⟩ (fun H locs hP hS => ?_)
          refine lv_iload hx hb dL_law_237 (lv_at hl 1 rfl) ?_
          refine lv_icmp_eq (tgt := 244) hx hb dL_law_239 (by decide) (fun h46 => ?_) (fun h46 => ?_)
          · rw [if_pos h46] at hf
            refine lv_iload hx hb dL_law_244 (lv_at hl 1 rfl) ?_
            refine lv_if_ne (tgt := 261) hx hb dL_law_246 (by decide) (fun h47 => ?_) (fun h47 => ?_)
            · rw [if_neg h47] at hf
              refine lv_goto (tgt := 1534) hx hb dL_law_261 (by decide) ?_
              obtain ⟨x48, ex48⟩ : ∃ y : Int32, y = x2 + 6 := ⟨_, rfl⟩
              replace hf := ltn_s ex48 hf
              refine lv_iinc (v := x48) (lv' := [(4, .int x48), (6, .int x39), (5, .int x33), (0, .ref b), (1, .ref (xa X 306)), (2, .ref (xa X 314)), (3, .ref (xa X 323))]) hx hb dL_law_1534 hl (k := 6) rfl (by rw [ex48]; rfl) (by decide) rfl (fun ls hl => ?_)
              refine lv_goto (tgt := 23) hx hb dL_law_1537 (by decide) ?_
              refine W.widen (k := cl + 1) (n := sl + 6) (by omega) (by omega) ?_
              exact ih (cl + 1) (sl + 6) x48 f27 g4 c5 y28 o29 z32 s40 u10 sv41 tx12 ow13 rs14 rn15 nu16 q42  _ _ _ hf (by omega) (by omega) hP hS (lv_sub hl [3, 4, 5, 6, 0] rfl)
            · rw [if_pos h47] at hf
              refine lv_aload_n hx hb dL_law_249 rfl (lv_at hl 5 rfl) ?_
              refine lv_iconst (v := 0) hx hb dL_law_250 (by decide) ?_
              obtain ⟨hin49, hf⟩ := ck_e hf
              refine ar_lald (gl := z32) hx hb AR_out law_z hP hK hin49 dL_law_251 ?_
              refine lv_iload hx hb dL_law_252 (lv_at hl 0 rfl) ?_
              refine lv_i2l hx hb dL_law_254 rfl ?_
              refine W.lcmp hx hb dL_law_255 ?_
              refine lv_if_eq (tgt := 261) hx hb dL_law_256 (by decide) (fun h50 => ?_) (fun h50 => ?_)
              · rw [if_pos h50] at hf
                refine lv_goto (tgt := 1534) hx hb dL_law_261 (by decide) ?_
                obtain ⟨x51, ex51⟩ : ∃ y : Int32, y = x2 + 6 := ⟨_, rfl⟩
                replace hf := ltn_s ex51 hf
                refine lv_iinc (v := x51) (lv' := [(4, .int x51), (6, .int x39), (5, .int x33), (0, .ref b), (1, .ref (xa X 306)), (2, .ref (xa X 314)), (3, .ref (xa X 323))]) hx hb dL_law_1534 hl (k := 6) rfl (by rw [ex51]; rfl) (by decide) rfl (fun ls hl => ?_)
                refine lv_goto (tgt := 23) hx hb dL_law_1537 (by decide) ?_
                refine W.widen (k := cl + 1) (n := sl + 6) (by omega) (by omega) ?_
                exact ih (cl + 1) (sl + 6) x51 f27 g4 c5 y28 o29 z32 s40 u10 sv41 tx12 ow13 rs14 rn15 nu16 q42  _ _ _ hf (by omega) (by omega) hP hS (lv_sub hl [3, 4, 5, 6, 0] rfl)
              · rw [if_neg h50] at hf
                refine lv_iconst (v := 0) hx hb dL_law_259 (by decide) ?_
                exact absurd (Option.some.inj hf) (by decide)
          · rw [if_neg h46] at hf
            refine lv_iconst (v := 0) hx hb dL_law_242 (by decide) ?_
            exact absurd (Option.some.inj hf) (by decide)
        rw [if_neg hsw553] at hf
        by_cases hsw554 : ((xs x2.toNatClampNeg) &&& 31) = 1
        · rw [if_pos hsw554] at hf
          refine lv_tableIn (off := 224) (tgt := 264) hx hb dL_law_40 (by rw [hsw554]; decide) (by rw [hsw554]; decide) (by rw [hsw554]; rfl) (by decide) ?_
          refine lv_aload_n hx hb dL_law_264 rfl (lv_at hl 1 rfl) ?_
          refine lv_aload_n hx hb dL_law_265 rfl (lv_at hl 3 rfl) ?_
          obtain ⟨k52, x53, f54, y55, o56, hc57, hf⟩ := ob5_e hf
          obtain ⟨hcd58, hf⟩ := ckp_e hf
          refine va_calli (vx_runSW (As := [.ref (xa X 306), .ref (xa X 323)]) (rest := []) ⟨hx, hb, hml, hown, hts⟩ (by have hM := kL_addHouse l hst (Y := Y) hX (pmm w s9 u10 sv11 tx12 ow13 rs14 rn15 nu16 q17) (f0 := f3) (g0 := g4) (c0 := c5) (y0 := y6) (o0 := o7) (z := z8) hc57 hcd58; simp only [law_w] at hM; exact hM) hc_96 ⟨w_blindS, w_preS hP hK hG hS⟩ rfl rfl hl.1 rfl (Nat.le_of_ble_eq_true rfl) dL_law_266 ⟨Nat.le_trans (show _ ≤ 601024 by omega) (Nat.le_of_ble_eq_true rfl), Nat.le_trans (show _ ≤ 7293034 by omega) (Nat.le_of_ble_eq_true rfl)⟩) hS (fun _ _ h => h) (fun _ h => h) (fun r u t H locs ht hvm hrr hB _ _ hS => ?_)
          subst hrr
          have hP : HW X (pmm (pbt (ul w 1 (if k52 = 0 then vp_updL z8 0 x53.toInt64 else z8)) f54 g4 c5 y55 o56) s9 u10 sv11 tx12 ow13 rs14 rn15 nu16 q17) H := by rw [← ht]; exact hB.1
          obtain ⟨z59, ez59⟩ : ∃ y, y = (if k52 = 0 then vp_updL z8 0 x53.toInt64 else z8) := ⟨_, rfl⟩
          rw [← ez59] at hP
          replace hf := ltn_s ez59 hf
          refine lv_topi (fun x60 ex60 => ?_)
          replace hf := ltn_s ex60 hf
          refine lv_istore (lv' := [(5, .int x60), (0, .ref b), (1, .ref (xa X 306)), (2, .ref (xa X 314)), (3, .ref (xa X 323)), (4, .int x2)]) hx hb dL_law_269 hl (by decide) rfl (fun ls hl => ?_)
          refine lv_aload_n hx hb dL_law_271 rfl (lv_at hl 3 rfl) ?_
          obtain ⟨x61, s62, sv63, q64, hc65, hf⟩ := ob4_e hf
          refine w_ci ⟨hx, hb, hml, hown, hts⟩ hP hK hS (k9_addHouse l hX (pbt (ul w 1 z59) f54 g4 c5 y55 o56) hc65) hc_99 (w_recv hP hK (by decide) emb_mm rfl) rfl hl.1 rfl (Nat.le_of_ble_eq_true rfl) dL_law_272 ⟨Nat.le_trans (show _ ≤ 601024 by omega) (Nat.le_of_ble_eq_true rfl), Nat.le_trans (show _ ≤ 7293034 by omega) (Nat.le_of_ble_eq_true rfl)⟩ (fun H locs hP hS => ?_)
          refine lv_istore (lv' := [(6, .int x61), (5, .int x60), (0, .ref b), (1, .ref (xa X 306)), (2, .ref (xa X 314)), (3, .ref (xa X 323)), (4, .int x2)]) hx hb dL_law_275 hl (by decide) rfl (fun ls hl => ?_)
          refine lv_aload_n hx hb dL_law_277 rfl (lv_at hl 4 rfl) ?_
          obtain ⟨x66, hc67, hf⟩ := lt1_e hf
          refine w_ci ⟨hx, hb, hml, hown, hts⟩ hP hK hS (k9_thrown l hX (pbt (ul w 1 z59) f54 g4 c5 y55 o56) hc67) hc_93 (w_recv hP hK (by decide) emb_mm rfl) rfl hl.1 rfl (Nat.le_of_ble_eq_true rfl) dL_law_278 ⟨Nat.le_trans (show _ ≤ 601024 by omega) (Nat.le_of_ble_eq_true rfl), Nat.le_trans (show _ ≤ 7293034 by omega) (Nat.le_of_ble_eq_true rfl)⟩ (fun H locs hP hS => ?_)
          refine lv_iload hx hb dL_law_281 (lv_at hl 1 rfl) ?_
          refine lv_icmp_eq (tgt := 288) hx hb dL_law_283 (by decide) (fun h68 => ?_) (fun h68 => ?_)
          · rw [if_pos h68] at hf
            refine lv_iload hx hb dL_law_288 (lv_at hl 1 rfl) ?_
            refine lv_if_ne (tgt := 305) hx hb dL_law_290 (by decide) (fun h69 => ?_) (fun h69 => ?_)
            · rw [if_neg h69] at hf
              refine lv_goto (tgt := 1534) hx hb dL_law_305 (by decide) ?_
              obtain ⟨x70, ex70⟩ : ∃ y : Int32, y = x2 + 6 := ⟨_, rfl⟩
              replace hf := ltn_s ex70 hf
              refine lv_iinc (v := x70) (lv' := [(4, .int x70), (6, .int x61), (5, .int x60), (0, .ref b), (1, .ref (xa X 306)), (2, .ref (xa X 314)), (3, .ref (xa X 323))]) hx hb dL_law_1534 hl (k := 6) rfl (by rw [ex70]; rfl) (by decide) rfl (fun ls hl => ?_)
              refine lv_goto (tgt := 23) hx hb dL_law_1537 (by decide) ?_
              refine W.widen (k := cl + 1) (n := sl + 6) (by omega) (by omega) ?_
              exact ih (cl + 1) (sl + 6) x70 f54 g4 c5 y55 o56 z59 s62 u10 sv63 tx12 ow13 rs14 rn15 nu16 q64  _ _ _ hf (by omega) (by omega) hP hS (lv_sub hl [3, 4, 5, 6, 0] rfl)
            · rw [if_pos h69] at hf
              refine lv_aload_n hx hb dL_law_293 rfl (lv_at hl 5 rfl) ?_
              refine lv_iconst (v := 0) hx hb dL_law_294 (by decide) ?_
              obtain ⟨hin71, hf⟩ := ck_e hf
              refine ar_lald (gl := z59) hx hb AR_out law_z hP hK hin71 dL_law_295 ?_
              refine lv_iload hx hb dL_law_296 (lv_at hl 0 rfl) ?_
              refine lv_i2l hx hb dL_law_298 rfl ?_
              refine W.lcmp hx hb dL_law_299 ?_
              refine lv_if_eq (tgt := 305) hx hb dL_law_300 (by decide) (fun h72 => ?_) (fun h72 => ?_)
              · rw [if_pos h72] at hf
                refine lv_goto (tgt := 1534) hx hb dL_law_305 (by decide) ?_
                obtain ⟨x73, ex73⟩ : ∃ y : Int32, y = x2 + 6 := ⟨_, rfl⟩
                replace hf := ltn_s ex73 hf
                refine lv_iinc (v := x73) (lv' := [(4, .int x73), (6, .int x61), (5, .int x60), (0, .ref b), (1, .ref (xa X 306)), (2, .ref (xa X 314)), (3, .ref (xa X 323))]) hx hb dL_law_1534 hl (k := 6) rfl (by rw [ex73]; rfl) (by decide) rfl (fun ls hl => ?_)
                refine lv_goto (tgt := 23) hx hb dL_law_1537 (by decide) ?_
                refine W.widen (k := cl + 1) (n := sl + 6) (by omega) (by omega) ?_
                exact ih (cl + 1) (sl + 6) x73 f54 g4 c5 y55 o56 z59 s62 u10 sv63 tx12 ow13 rs14 rn15 nu16 q64  _ _ _ hf (by omega) (by omega) hP hS (lv_sub hl [3, 4, 5, 6, 0] rfl)
              · rw [if_neg h72] at hf
                refine lv_iconst (v := 0) hx hb dL_law_303 (by decide) ?_
                exact absurd (Option.some.inj hf) (by decide)
          · rw [if_neg h68] at hf
            refine lv_iconst (v := 0) hx hb dL_law_286 (by decide) ?_
            exact absurd (Option.some.inj hf) (by decide)
        rw [if_neg hsw554] at hf
        by_cases hsw555 : ((xs x2.toNatClampNeg) &&& 31) = 2
        · rw [if_pos hsw555] at hf
          refine lv_tableIn (off := 268) (tgt := 308) hx hb dL_law_40 (by rw [hsw555]; decide) (by rw [hsw555]; decide) (by rw [hsw555]; rfl) (by decide) ?_
          refine lv_aload_n hx hb dL_law_308 rfl (lv_at hl 1 rfl) ?_
          refine lv_aload_n hx hb dL_law_309 rfl (lv_at hl 0 rfl) ?_
          refine lv_iload hx hb dL_law_310 (lv_at hl 4 rfl) ?_
          refine lv_iconst (v := 1) hx hb dL_law_312 (by decide) ?_
          refine lv_iadd hx hb dL_law_313 ?_
          obtain ⟨hin74, hf⟩ := ck_e hf
          refine va_sld hx hb hXs hbl hbA hS hin74 dL_law_314 ?_
          refine lv_aload_n hx hb dL_law_315 rfl (lv_at hl 0 rfl) ?_
          refine lv_iload hx hb dL_law_316 (lv_at hl 4 rfl) ?_
          refine lv_iconst (v := 2) hx hb dL_law_318 (by decide) ?_
          refine lv_iadd hx hb dL_law_319 ?_
          obtain ⟨hin75, hf⟩ := ck_e hf
          refine va_sld hx hb hXs hbl hbA hS hin75 dL_law_320 ?_
          refine lv_aload_n hx hb dL_law_321 rfl (lv_at hl 0 rfl) ?_
          refine lv_iload hx hb dL_law_322 (lv_at hl 4 rfl) ?_
          refine lv_iconst (v := 3) hx hb dL_law_324 (by decide) ?_
          refine lv_iadd hx hb dL_law_325 ?_
          obtain ⟨hin76, hf⟩ := ck_e hf
          refine va_sld hx hb hXs hbl hbA hS hin76 dL_law_326 ?_
          refine lv_aload_n hx hb dL_law_327 rfl (lv_at hl 3 rfl) ?_
          obtain ⟨k77, x78, f79, y80, o81, hc82, hf⟩ := ob5_e hf
          obtain ⟨hcd83, hf⟩ := ckp_e hf
          refine va_calli (vx_runSW (As := [.ref (xa X 306), .int (xs (x2 + 1).toNatClampNeg), .int (xs (x2 + 2).toNatClampNeg), .int (xs (x2 + 3).toNatClampNeg), .ref (xa X 323)]) (rest := []) ⟨hx, hb, hml, hown, hts⟩ (by have hM := kL_addDough l hst (Y := Y) hX (pmm w s9 u10 sv11 tx12 ow13 rs14 rn15 nu16 q17) (f0 := f3) (g0 := g4) (c0 := c5) (y0 := y6) (o0 := o7) (z := z8) hc82 hcd83; simp only [law_w] at hM; exact hM) hc_100 ⟨w_blindS, w_preS hP hK hG hS⟩ rfl rfl hl.1 rfl (Nat.le_of_ble_eq_true rfl) dL_law_328 ⟨Nat.le_trans (show _ ≤ 601024 by omega) (Nat.le_of_ble_eq_true rfl), Nat.le_trans (show _ ≤ 7293034 by omega) (Nat.le_of_ble_eq_true rfl)⟩) hS (fun _ _ h => h) (fun _ h => h) (fun r u t H locs ht hvm hrr hB _ _ hS => ?_)
          subst hrr
          have hP : HW X (pmm (pbt (ul w 1 (if k77 = 0 then vp_updL z8 0 x78.toInt64 else z8)) f79 g4 c5 y80 o81) s9 u10 sv11 tx12 ow13 rs14 rn15 nu16 q17) H := by rw [← ht]; exact hB.1
          obtain ⟨z84, ez84⟩ : ∃ y, y = (if k77 = 0 then vp_updL z8 0 x78.toInt64 else z8) := ⟨_, rfl⟩
          rw [← ez84] at hP
          replace hf := ltn_s ez84 hf
          refine lv_topi (fun x85 ex85 => ?_)
          replace hf := ltn_s ex85 hf
          refine lv_istore (lv' := [(5, .int x85), (0, .ref b), (1, .ref (xa X 306)), (2, .ref (xa X 314)), (3, .ref (xa X 323)), (4, .int x2)]) hx hb dL_law_331 hl (by decide) rfl (fun ls hl => ?_)
          refine lv_aload_n hx hb dL_law_333 rfl (lv_at hl 3 rfl) ?_
          refine lv_aload_n hx hb dL_law_334 rfl (lv_at hl 1 rfl) ?_
          refine lv_iload hx hb dL_law_335 (lv_at hl 5 rfl) ?_
          refine lv_iconst (v := 1) hx hb dL_law_337 (by decide) ?_
          refine lv_iadd hx hb dL_law_338 ?_
          obtain ⟨hin86, hf⟩ := ck_e hf
          refine va_sld hx hb hXs hbl hbA hS hin86 dL_law_339 ?_
          refine lv_aload_n hx hb dL_law_340 rfl (lv_at hl 1 rfl) ?_
          refine lv_iload hx hb dL_law_341 (lv_at hl 5 rfl) ?_
          refine lv_iconst (v := 2) hx hb dL_law_343 (by decide) ?_
          refine lv_iadd hx hb dL_law_344 ?_
          obtain ⟨hin87, hf⟩ := ck_e hf
          refine va_sld hx hb hXs hbl hbA hS hin87 dL_law_345 ?_
          refine lv_aload_n hx hb dL_law_346 rfl (lv_at hl 1 rfl) ?_
          refine lv_iload hx hb dL_law_347 (lv_at hl 5 rfl) ?_
          refine lv_iconst (v := 3) hx hb dL_law_349 (by decide) ?_
          refine lv_iadd hx hb dL_law_350 ?_
          obtain ⟨hin88, hf⟩ := ck_e hf
          refine va_sld hx hb hXs hbl hbA hS hin88 dL_law_351 ?_
          obtain ⟨x89, s90, sv91, q92, hc93, hf⟩ := ob4_e hf
          refine w_ci ⟨hx, hb, hml, hown, hts⟩ hP hK hS (k9_addDough l hX (pbt (ul w 1 z84) f79 g4 c5 y80 o81) hc93) hc_103 (w_recv hP hK (by decide) emb_mm rfl) rfl hl.1 rfl (Nat.le_of_ble_eq_true rfl) dL_law_352 ⟨Nat.le_trans (show _ ≤ 601024 by omega) (Nat.le_of_ble_eq_true rfl), Nat.le_trans (show _ ≤ 7293034 by omega) (Nat.le_of_ble_eq_true rfl)⟩ (fun H locs hP hS => ?_)
          refine lv_istore (lv' := [(6, .int x89), (5, .int x85), (0, .ref b), (1, .ref (xa X 306)), (2, .ref (xa X 314)), (3, .ref (xa X 323)), (4, .int x2)]) hx hb dL_law_355 hl (by decide) rfl (fun ls hl => ?_)
          refine lv_aload_n hx hb dL_law_357 rfl (lv_at hl 4 rfl) ?_
          obtain ⟨x94, hc95, hf⟩ := lt1_e hf
          refine w_ci ⟨hx, hb, hml, hown, hts⟩ hP hK hS (k9_thrown l hX (pbt (ul w 1 z84) f79 g4 c5 y80 o81) hc95) hc_93 (w_recv hP hK (by decide) emb_mm rfl) rfl hl.1 rfl (Nat.le_of_ble_eq_true rfl) dL_law_358 ⟨Nat.le_trans (show _ ≤ 601024 by omega) (Nat.le_of_ble_eq_true rfl), Nat.le_trans (show _ ≤ 7293034 by omega) (Nat.le_of_ble_eq_true rfl)⟩ (fun H locs hP hS => ?_)
          refine lv_iload hx hb dL_law_361 (lv_at hl 1 rfl) ?_
          refine lv_icmp_eq (tgt := 368) hx hb dL_law_363 (by decide) (fun h96 => ?_) (fun h96 => ?_)
          · rw [if_pos h96] at hf
            refine lv_iload hx hb dL_law_368 (lv_at hl 1 rfl) ?_
            refine lv_if_ne (tgt := 385) hx hb dL_law_370 (by decide) (fun h97 => ?_) (fun h97 => ?_)
            · rw [if_neg h97] at hf
              refine lv_goto (tgt := 1534) hx hb dL_law_385 (by decide) ?_
              obtain ⟨x98, ex98⟩ : ∃ y : Int32, y = x2 + 6 := ⟨_, rfl⟩
              replace hf := ltn_s ex98 hf
              refine lv_iinc (v := x98) (lv' := [(4, .int x98), (6, .int x89), (5, .int x85), (0, .ref b), (1, .ref (xa X 306)), (2, .ref (xa X 314)), (3, .ref (xa X 323))]) hx hb dL_law_1534 hl (k := 6) rfl (by rw [ex98]; rfl) (by decide) rfl (fun ls hl => ?_)
              refine lv_goto (tgt := 23) hx hb dL_law_1537 (by decide) ?_
              refine W.widen (k := cl + 1) (n := sl + 6) (by omega) (by omega) ?_
              exact ih (cl + 1) (sl + 6) x98 f79 g4 c5 y80 o81 z84 s90 u10 sv91 tx12 ow13 rs14 rn15 nu16 q92  _ _ _ hf (by omega) (by omega) hP hS (lv_sub hl [3, 4, 5, 6, 0] rfl)
            · rw [if_pos h97] at hf
              refine lv_aload_n hx hb dL_law_373 rfl (lv_at hl 5 rfl) ?_
              refine lv_iconst (v := 0) hx hb dL_law_374 (by decide) ?_
              obtain ⟨hin99, hf⟩ := ck_e hf
              refine ar_lald (gl := z84) hx hb AR_out law_z hP hK hin99 dL_law_375 ?_
              refine lv_iload hx hb dL_law_376 (lv_at hl 0 rfl) ?_
              refine lv_i2l hx hb dL_law_378 rfl ?_
              refine W.lcmp hx hb dL_law_379 ?_
              refine lv_if_eq (tgt := 385) hx hb dL_law_380 (by decide) (fun h100 => ?_) (fun h100 => ?_)
              · rw [if_pos h100] at hf
                refine lv_goto (tgt := 1534) hx hb dL_law_385 (by decide) ?_
                obtain ⟨x101, ex101⟩ : ∃ y : Int32, y = x2 + 6 := ⟨_, rfl⟩
                replace hf := ltn_s ex101 hf
                refine lv_iinc (v := x101) (lv' := [(4, .int x101), (6, .int x89), (5, .int x85), (0, .ref b), (1, .ref (xa X 306)), (2, .ref (xa X 314)), (3, .ref (xa X 323))]) hx hb dL_law_1534 hl (k := 6) rfl (by rw [ex101]; rfl) (by decide) rfl (fun ls hl => ?_)
                refine lv_goto (tgt := 23) hx hb dL_law_1537 (by decide) ?_
                refine W.widen (k := cl + 1) (n := sl + 6) (by omega) (by omega) ?_
                exact ih (cl + 1) (sl + 6) x101 f79 g4 c5 y80 o81 z84 s90 u10 sv91 tx12 ow13 rs14 rn15 nu16 q92  _ _ _ hf (by omega) (by omega) hP hS (lv_sub hl [3, 4, 5, 6, 0] rfl)
              · rw [if_neg h100] at hf
                refine lv_iconst (v := 0) hx hb dL_law_383 (by decide) ?_
                exact absurd (Option.some.inj hf) (by decide)
          · rw [if_neg h96] at hf
            refine lv_iconst (v := 0) hx hb dL_law_366 (by decide) ?_
            exact absurd (Option.some.inj hf) (by decide)
        rw [if_neg hsw555] at hf
        by_cases hsw556 : ((xs x2.toNatClampNeg) &&& 31) = 3
        · rw [if_pos hsw556] at hf
          refine lv_tableIn (off := 348) (tgt := 388) hx hb dL_law_40 (by rw [hsw556]; decide) (by rw [hsw556]; decide) (by rw [hsw556]; rfl) (by decide) ?_
          refine lv_aload_n hx hb dL_law_388 rfl (lv_at hl 1 rfl) ?_
          obtain ⟨x102, f103, y104, o105, hc106, hf⟩ := ob4_e hf
          refine w_ci ⟨hx, hb, hml, hown, hts⟩ hP hK hS (show cI l yX8_clearDoughs wsX8_clearDoughs rmX8_clearDoughs X s.heap.size [.ref (xa X 306)] (pmm (pbt (ul w 1 z8) f3 g4 c5 y6 o7) s9 u10 sv11 tx12 ow13 rs14 rn15 nu16 q17) x102 (pmm (pbt (ul w 1 z8) f103 g4 c5 y104 o105) s9 u10 sv11 tx12 ow13 rs14 rn15 nu16 q17) from by have hM := k8_clearDoughs l hX (ul (pmm w s9 u10 sv11 tx12 ow13 rs14 rn15 nu16 q17) 1 z8) (f0 := f3) (g0 := g4) (c0 := c5) (y0 := y6) (o0 := o7) hc106; simp only [law_w] at hM; exact hM) hc_104 (w_recv hP hK (by decide) emb_bt rfl) rfl hl.1 rfl (Nat.le_of_ble_eq_true rfl) dL_law_389 ⟨Nat.le_trans (show _ ≤ 601024 by omega) (Nat.le_of_ble_eq_true rfl), Nat.le_trans (show _ ≤ 7293034 by omega) (Nat.le_of_ble_eq_true rfl)⟩ (fun H locs hP hS => ?_)
          refine lv_aload_n hx hb dL_law_392 rfl (lv_at hl 2 rfl) ?_
          obtain ⟨x107, s108, sv109, rn110, q111, hc112, hf⟩ := ob5_e hf
          refine w_ci ⟨hx, hb, hml, hown, hts⟩ hP hK hS (k9_clearDoughs l hX (pbt (ul w 1 z8) f103 g4 c5 y104 o105) hc112) hc_107 (w_recv hP hK (by decide) emb_mm rfl) rfl hl.1 rfl (Nat.le_of_ble_eq_true rfl) dL_law_393 ⟨Nat.le_trans (show _ ≤ 601024 by omega) (Nat.le_of_ble_eq_true rfl), Nat.le_trans (show _ ≤ 7293034 by omega) (Nat.le_of_ble_eq_true rfl)⟩ (fun H locs hP hS => ?_)
          refine lv_icmp_eq (tgt := 1534) hx hb dL_law_396 (by decide) (fun h113 => ?_) (fun h113 => ?_)
          · rw [if_pos h113] at hf
            obtain ⟨x114, ex114⟩ : ∃ y : Int32, y = x2 + 6 := ⟨_, rfl⟩
            replace hf := ltn_s ex114 hf
            refine lv_iinc (v := x114) (lv' := [(4, .int x114), (0, .ref b), (1, .ref (xa X 306)), (2, .ref (xa X 314)), (3, .ref (xa X 323))]) hx hb dL_law_1534 hl (k := 4) rfl (by rw [ex114]; rfl) (by decide) rfl (fun ls hl => ?_)
            refine lv_goto (tgt := 23) hx hb dL_law_1537 (by decide) ?_
            refine W.widen (k := cl + 1) (n := sl + 6) (by omega) (by omega) ?_
            exact ih (cl + 1) (sl + 6) x114 f103 g4 c5 y104 o105 z8 s108 u10 sv109 tx12 ow13 rs14 rn110 nu16 q111  _ _ _ hf (by omega) (by omega) hP hS (lv_sub hl [1, 2, 3, 4, 0] rfl)
          · rw [if_neg h113] at hf
            refine lv_iconst (v := 0) hx hb dL_law_399 (by decide) ?_
            exact absurd (Option.some.inj hf) (by decide)
        rw [if_neg hsw556] at hf
        by_cases hsw557 : ((xs x2.toNatClampNeg) &&& 31) = 4
        · rw [if_pos hsw557] at hf
          refine lv_tableIn (off := 361) (tgt := 401) hx hb dL_law_40 (by rw [hsw557]; decide) (by rw [hsw557]; decide) (by rw [hsw557]; rfl) (by decide) ?_
          refine lv_aload_n hx hb dL_law_401 rfl (lv_at hl 1 rfl) ?_
          refine lv_aload_n hx hb dL_law_402 rfl (lv_at hl 0 rfl) ?_
          refine lv_iload hx hb dL_law_403 (lv_at hl 4 rfl) ?_
          refine lv_iconst (v := 1) hx hb dL_law_405 (by decide) ?_
          refine lv_iadd hx hb dL_law_406 ?_
          obtain ⟨hin115, hf⟩ := ck_e hf
          refine va_sld hx hb hXs hbl hbA hS hin115 dL_law_407 ?_
          refine lv_aload_n hx hb dL_law_408 rfl (lv_at hl 0 rfl) ?_
          refine lv_iload hx hb dL_law_409 (lv_at hl 4 rfl) ?_
          refine lv_iconst (v := 2) hx hb dL_law_411 (by decide) ?_
          refine lv_iadd hx hb dL_law_412 ?_
          obtain ⟨hin116, hf⟩ := ck_e hf
          refine va_sld hx hb hXs hbl hbA hS hin116 dL_law_413 ?_
          refine lv_aload_n hx hb dL_law_414 rfl (lv_at hl 3 rfl) ?_
          obtain ⟨k117, x118, f119, y120, o121, hc122, hf⟩ := ob5_e hf
          obtain ⟨hcd123, hf⟩ := ckp_e hf
          refine va_calli (vx_runSW (As := [.ref (xa X 306), .int (xs (x2 + 1).toNatClampNeg), .int (xs (x2 + 2).toNatClampNeg), .ref (xa X 323)]) (rest := []) ⟨hx, hb, hml, hown, hts⟩ (by have hM := kL_swap l hst (Y := Y) hX (pmm w s9 u10 sv11 tx12 ow13 rs14 rn15 nu16 q17) (f0 := f3) (g0 := g4) (c0 := c5) (y0 := y6) (o0 := o7) (z := z8) hc122 hcd123; simp only [law_w] at hM; exact hM) hc_108 ⟨w_blindS, w_preS hP hK hG hS⟩ rfl rfl hl.1 rfl (Nat.le_of_ble_eq_true rfl) dL_law_415 ⟨Nat.le_trans (show _ ≤ 601024 by omega) (Nat.le_of_ble_eq_true rfl), Nat.le_trans (show _ ≤ 7293034 by omega) (Nat.le_of_ble_eq_true rfl)⟩) hS (fun _ _ h => h) (fun _ h => h) (fun r u t H locs ht hvm hrr hB _ _ hS => ?_)
          subst hrr
          have hP : HW X (pmm (pbt (ul w 1 (if k117 = 0 then vp_updL z8 0 x118.toInt64 else z8)) f119 g4 c5 y120 o121) s9 u10 sv11 tx12 ow13 rs14 rn15 nu16 q17) H := by rw [← ht]; exact hB.1
          obtain ⟨z124, ez124⟩ : ∃ y, y = (if k117 = 0 then vp_updL z8 0 x118.toInt64 else z8) := ⟨_, rfl⟩
          rw [← ez124] at hP
          replace hf := ltn_s ez124 hf
          refine lv_topi (fun x125 ex125 => ?_)
          replace hf := ltn_s ex125 hf
          refine lv_istore (lv' := [(5, .int x125), (0, .ref b), (1, .ref (xa X 306)), (2, .ref (xa X 314)), (3, .ref (xa X 323)), (4, .int x2)]) hx hb dL_law_418 hl (by decide) rfl (fun ls hl => ?_)
          refine lv_aload_n hx hb dL_law_420 rfl (lv_at hl 3 rfl) ?_
          refine lv_aload_n hx hb dL_law_421 rfl (lv_at hl 1 rfl) ?_
          refine lv_iload hx hb dL_law_422 (lv_at hl 5 rfl) ?_
          refine lv_iconst (v := 1) hx hb dL_law_424 (by decide) ?_
          refine lv_iadd hx hb dL_law_425 ?_
          obtain ⟨hin126, hf⟩ := ck_e hf
          refine va_sld hx hb hXs hbl hbA hS hin126 dL_law_426 ?_
          refine lv_aload_n hx hb dL_law_427 rfl (lv_at hl 1 rfl) ?_
          refine lv_iload hx hb dL_law_428 (lv_at hl 5 rfl) ?_
          refine lv_iconst (v := 2) hx hb dL_law_430 (by decide) ?_
          refine lv_iadd hx hb dL_law_431 ?_
          obtain ⟨hin127, hf⟩ := ck_e hf
          refine va_sld hx hb hXs hbl hbA hS hin127 dL_law_432 ?_
          obtain ⟨x128, s129, sv130, q131, hc132, hf⟩ := ob4_e hf
          refine w_ci ⟨hx, hb, hml, hown, hts⟩ hP hK hS (k9_swap l hX (pbt (ul w 1 z124) f119 g4 c5 y120 o121) hc132) hc_111 (w_recv hP hK (by decide) emb_mm rfl) rfl hl.1 rfl (Nat.le_of_ble_eq_true rfl) dL_law_433 ⟨Nat.le_trans (show _ ≤ 601024 by omega) (Nat.le_of_ble_eq_true rfl), Nat.le_trans (show _ ≤ 7293034 by omega) (Nat.le_of_ble_eq_true rfl)⟩ (fun H locs hP hS => ?_)
          refine lv_istore (lv' := [(6, .int x128), (5, .int x125), (0, .ref b), (1, .ref (xa X 306)), (2, .ref (xa X 314)), (3, .ref (xa X 323)), (4, .int x2)]) hx hb dL_law_436 hl (by decide) rfl (fun ls hl => ?_)
          refine lv_aload_n hx hb dL_law_438 rfl (lv_at hl 4 rfl) ?_
          obtain ⟨x133, hc134, hf⟩ := lt1_e hf
          refine w_ci ⟨hx, hb, hml, hown, hts⟩ hP hK hS (k9_thrown l hX (pbt (ul w 1 z124) f119 g4 c5 y120 o121) hc134) hc_93 (w_recv hP hK (by decide) emb_mm rfl) rfl hl.1 rfl (Nat.le_of_ble_eq_true rfl) dL_law_439 ⟨Nat.le_trans (show _ ≤ 601024 by omega) (Nat.le_of_ble_eq_true rfl), Nat.le_trans (show _ ≤ 7293034 by omega) (Nat.le_of_ble_eq_true rfl)⟩ (fun H locs hP hS => ?_)
          refine lv_iload hx hb dL_law_442 (lv_at hl 1 rfl) ?_
          refine lv_icmp_eq (tgt := 449) hx hb dL_law_444 (by decide) (fun h135 => ?_) (fun h135 => ?_)
          · rw [if_pos h135] at hf
            refine lv_iload hx hb dL_law_449 (lv_at hl 1 rfl) ?_
            refine lv_if_ne (tgt := 466) hx hb dL_law_451 (by decide) (fun h136 => ?_) (fun h136 => ?_)
            · rw [if_neg h136] at hf
              refine lv_goto (tgt := 1534) hx hb dL_law_466 (by decide) ?_
              obtain ⟨x137, ex137⟩ : ∃ y : Int32, y = x2 + 6 := ⟨_, rfl⟩
              replace hf := ltn_s ex137 hf
              refine lv_iinc (v := x137) (lv' := [(4, .int x137), (6, .int x128), (5, .int x125), (0, .ref b), (1, .ref (xa X 306)), (2, .ref (xa X 314)), (3, .ref (xa X 323))]) hx hb dL_law_1534 hl (k := 6) rfl (by rw [ex137]; rfl) (by decide) rfl (fun ls hl => ?_)
              refine lv_goto (tgt := 23) hx hb dL_law_1537 (by decide) ?_
              refine W.widen (k := cl + 1) (n := sl + 6) (by omega) (by omega) ?_
              exact ih (cl + 1) (sl + 6) x137 f119 g4 c5 y120 o121 z124 s129 u10 sv130 tx12 ow13 rs14 rn15 nu16 q131  _ _ _ hf (by omega) (by omega) hP hS (lv_sub hl [3, 4, 5, 6, 0] rfl)
            · rw [if_pos h136] at hf
              refine lv_aload_n hx hb dL_law_454 rfl (lv_at hl 5 rfl) ?_
              refine lv_iconst (v := 0) hx hb dL_law_455 (by decide) ?_
              obtain ⟨hin138, hf⟩ := ck_e hf
              refine ar_lald (gl := z124) hx hb AR_out law_z hP hK hin138 dL_law_456 ?_
              refine lv_iload hx hb dL_law_457 (lv_at hl 0 rfl) ?_
              refine lv_i2l hx hb dL_law_459 rfl ?_
              refine W.lcmp hx hb dL_law_460 ?_
              refine lv_if_eq (tgt := 466) hx hb dL_law_461 (by decide) (fun h139 => ?_) (fun h139 => ?_)
              · rw [if_pos h139] at hf
                refine lv_goto (tgt := 1534) hx hb dL_law_466 (by decide) ?_
                obtain ⟨x140, ex140⟩ : ∃ y : Int32, y = x2 + 6 := ⟨_, rfl⟩
                replace hf := ltn_s ex140 hf
                refine lv_iinc (v := x140) (lv' := [(4, .int x140), (6, .int x128), (5, .int x125), (0, .ref b), (1, .ref (xa X 306)), (2, .ref (xa X 314)), (3, .ref (xa X 323))]) hx hb dL_law_1534 hl (k := 6) rfl (by rw [ex140]; rfl) (by decide) rfl (fun ls hl => ?_)
                refine lv_goto (tgt := 23) hx hb dL_law_1537 (by decide) ?_
                refine W.widen (k := cl + 1) (n := sl + 6) (by omega) (by omega) ?_
                exact ih (cl + 1) (sl + 6) x140 f119 g4 c5 y120 o121 z124 s129 u10 sv130 tx12 ow13 rs14 rn15 nu16 q131  _ _ _ hf (by omega) (by omega) hP hS (lv_sub hl [3, 4, 5, 6, 0] rfl)
              · rw [if_neg h139] at hf
                refine lv_iconst (v := 0) hx hb dL_law_464 (by decide) ?_
                exact absurd (Option.some.inj hf) (by decide)
          · rw [if_neg h135] at hf
            refine lv_iconst (v := 0) hx hb dL_law_447 (by decide) ?_
            exact absurd (Option.some.inj hf) (by decide)
        rw [if_neg hsw557] at hf
        by_cases hsw558 : ((xs x2.toNatClampNeg) &&& 31) = 5
        · rw [if_pos hsw558] at hf
          refine lv_tableIn (off := 429) (tgt := 469) hx hb dL_law_40 (by rw [hsw558]; decide) (by rw [hsw558]; decide) (by rw [hsw558]; rfl) (by decide) ?_
          refine lv_aload_n hx hb dL_law_469 rfl (lv_at hl 1 rfl) ?_
          refine lv_aload_n hx hb dL_law_470 rfl (lv_at hl 0 rfl) ?_
          refine lv_iload hx hb dL_law_471 (lv_at hl 4 rfl) ?_
          refine lv_iconst (v := 1) hx hb dL_law_473 (by decide) ?_
          refine lv_iadd hx hb dL_law_474 ?_
          obtain ⟨hin141, hf⟩ := ck_e hf
          refine va_sld hx hb hXs hbl hbA hS hin141 dL_law_475 ?_
          refine lv_aload_n hx hb dL_law_476 rfl (lv_at hl 0 rfl) ?_
          refine lv_iload hx hb dL_law_477 (lv_at hl 4 rfl) ?_
          refine lv_iconst (v := 2) hx hb dL_law_479 (by decide) ?_
          refine lv_iadd hx hb dL_law_480 ?_
          obtain ⟨hin142, hf⟩ := ck_e hf
          refine va_sld hx hb hXs hbl hbA hS hin142 dL_law_481 ?_
          refine lv_aload_n hx hb dL_law_482 rfl (lv_at hl 3 rfl) ?_
          obtain ⟨k143, x144, f145, y146, o147, hc148, hf⟩ := ob5_e hf
          obtain ⟨hcd149, hf⟩ := ckp_e hf
          refine va_calli (vx_runSW (As := [.ref (xa X 306), .int (xs (x2 + 1).toNatClampNeg), .int (xs (x2 + 2).toNatClampNeg), .ref (xa X 323)]) (rest := []) ⟨hx, hb, hml, hown, hts⟩ (by have hM := kL_bring l hst (Y := Y) hX (pmm w s9 u10 sv11 tx12 ow13 rs14 rn15 nu16 q17) (f0 := f3) (g0 := g4) (c0 := c5) (y0 := y6) (o0 := o7) (z := z8) hc148 hcd149; simp only [law_w] at hM; exact hM) hc_112 ⟨w_blindS, w_preS hP hK hG hS⟩ rfl rfl hl.1 rfl (Nat.le_of_ble_eq_true rfl) dL_law_483 ⟨Nat.le_trans (show _ ≤ 601024 by omega) (Nat.le_of_ble_eq_true rfl), Nat.le_trans (show _ ≤ 7293034 by omega) (Nat.le_of_ble_eq_true rfl)⟩) hS (fun _ _ h => h) (fun _ h => h) (fun r u t H locs ht hvm hrr hB _ _ hS => ?_)
          subst hrr
          have hP : HW X (pmm (pbt (ul w 1 (if k143 = 0 then vp_updL z8 0 x144.toInt64 else z8)) f145 g4 c5 y146 o147) s9 u10 sv11 tx12 ow13 rs14 rn15 nu16 q17) H := by rw [← ht]; exact hB.1
          obtain ⟨z150, ez150⟩ : ∃ y, y = (if k143 = 0 then vp_updL z8 0 x144.toInt64 else z8) := ⟨_, rfl⟩
          rw [← ez150] at hP
          replace hf := ltn_s ez150 hf
          refine lv_topi (fun x151 ex151 => ?_)
          replace hf := ltn_s ex151 hf
          refine lv_istore (lv' := [(5, .int x151), (0, .ref b), (1, .ref (xa X 306)), (2, .ref (xa X 314)), (3, .ref (xa X 323)), (4, .int x2)]) hx hb dL_law_486 hl (by decide) rfl (fun ls hl => ?_)
          refine lv_aload_n hx hb dL_law_488 rfl (lv_at hl 3 rfl) ?_
          refine lv_aload_n hx hb dL_law_489 rfl (lv_at hl 1 rfl) ?_
          refine lv_iload hx hb dL_law_490 (lv_at hl 5 rfl) ?_
          refine lv_iconst (v := 1) hx hb dL_law_492 (by decide) ?_
          refine lv_iadd hx hb dL_law_493 ?_
          obtain ⟨hin152, hf⟩ := ck_e hf
          refine va_sld hx hb hXs hbl hbA hS hin152 dL_law_494 ?_
          refine lv_aload_n hx hb dL_law_495 rfl (lv_at hl 1 rfl) ?_
          refine lv_iload hx hb dL_law_496 (lv_at hl 5 rfl) ?_
          refine lv_iconst (v := 2) hx hb dL_law_498 (by decide) ?_
          refine lv_iadd hx hb dL_law_499 ?_
          obtain ⟨hin153, hf⟩ := ck_e hf
          refine va_sld hx hb hXs hbl hbA hS hin153 dL_law_500 ?_
          obtain ⟨x154, s155, sv156, q157, hc158, hf⟩ := ob4_e hf
          refine w_ci ⟨hx, hb, hml, hown, hts⟩ hP hK hS (k9_bring l hX (pbt (ul w 1 z150) f145 g4 c5 y146 o147) hc158) hc_114 (w_recv hP hK (by decide) emb_mm rfl) rfl hl.1 rfl (Nat.le_of_ble_eq_true rfl) dL_law_501 ⟨Nat.le_trans (show _ ≤ 601024 by omega) (Nat.le_of_ble_eq_true rfl), Nat.le_trans (show _ ≤ 7293034 by omega) (Nat.le_of_ble_eq_true rfl)⟩ (fun H locs hP hS => ?_)
          refine lv_istore (lv' := [(6, .int x154), (5, .int x151), (0, .ref b), (1, .ref (xa X 306)), (2, .ref (xa X 314)), (3, .ref (xa X 323)), (4, .int x2)]) hx hb dL_law_504 hl (by decide) rfl (fun ls hl => ?_)
          refine lv_aload_n hx hb dL_law_506 rfl (lv_at hl 4 rfl) ?_
          obtain ⟨x159, hc160, hf⟩ := lt1_e hf
          refine w_ci ⟨hx, hb, hml, hown, hts⟩ hP hK hS (k9_thrown l hX (pbt (ul w 1 z150) f145 g4 c5 y146 o147) hc160) hc_93 (w_recv hP hK (by decide) emb_mm rfl) rfl hl.1 rfl (Nat.le_of_ble_eq_true rfl) dL_law_507 ⟨Nat.le_trans (show _ ≤ 601024 by omega) (Nat.le_of_ble_eq_true rfl), Nat.le_trans (show _ ≤ 7293034 by omega) (Nat.le_of_ble_eq_true rfl)⟩ (fun H locs hP hS => ?_)
          refine lv_iload hx hb dL_law_510 (lv_at hl 1 rfl) ?_
          refine lv_icmp_eq (tgt := 517) hx hb dL_law_512 (by decide) (fun h161 => ?_) (fun h161 => ?_)
          · rw [if_pos h161] at hf
            refine lv_iload hx hb dL_law_517 (lv_at hl 1 rfl) ?_
            refine lv_if_ne (tgt := 534) hx hb dL_law_519 (by decide) (fun h162 => ?_) (fun h162 => ?_)
            · rw [if_neg h162] at hf
              refine lv_goto (tgt := 1534) hx hb dL_law_534 (by decide) ?_
              obtain ⟨x163, ex163⟩ : ∃ y : Int32, y = x2 + 6 := ⟨_, rfl⟩
              replace hf := ltn_s ex163 hf
              refine lv_iinc (v := x163) (lv' := [(4, .int x163), (6, .int x154), (5, .int x151), (0, .ref b), (1, .ref (xa X 306)), (2, .ref (xa X 314)), (3, .ref (xa X 323))]) hx hb dL_law_1534 hl (k := 6) rfl (by rw [ex163]; rfl) (by decide) rfl (fun ls hl => ?_)
              refine lv_goto (tgt := 23) hx hb dL_law_1537 (by decide) ?_
              refine W.widen (k := cl + 1) (n := sl + 6) (by omega) (by omega) ?_
              exact ih (cl + 1) (sl + 6) x163 f145 g4 c5 y146 o147 z150 s155 u10 sv156 tx12 ow13 rs14 rn15 nu16 q157  _ _ _ hf (by omega) (by omega) hP hS (lv_sub hl [3, 4, 5, 6, 0] rfl)
            · rw [if_pos h162] at hf
              refine lv_aload_n hx hb dL_law_522 rfl (lv_at hl 5 rfl) ?_
              refine lv_iconst (v := 0) hx hb dL_law_523 (by decide) ?_
              obtain ⟨hin164, hf⟩ := ck_e hf
              refine ar_lald (gl := z150) hx hb AR_out law_z hP hK hin164 dL_law_524 ?_
              refine lv_iload hx hb dL_law_525 (lv_at hl 0 rfl) ?_
              refine lv_i2l hx hb dL_law_527 rfl ?_
              refine W.lcmp hx hb dL_law_528 ?_
              refine lv_if_eq (tgt := 534) hx hb dL_law_529 (by decide) (fun h165 => ?_) (fun h165 => ?_)
              · rw [if_pos h165] at hf
                refine lv_goto (tgt := 1534) hx hb dL_law_534 (by decide) ?_
                obtain ⟨x166, ex166⟩ : ∃ y : Int32, y = x2 + 6 := ⟨_, rfl⟩
                replace hf := ltn_s ex166 hf
                refine lv_iinc (v := x166) (lv' := [(4, .int x166), (6, .int x154), (5, .int x151), (0, .ref b), (1, .ref (xa X 306)), (2, .ref (xa X 314)), (3, .ref (xa X 323))]) hx hb dL_law_1534 hl (k := 6) rfl (by rw [ex166]; rfl) (by decide) rfl (fun ls hl => ?_)
                refine lv_goto (tgt := 23) hx hb dL_law_1537 (by decide) ?_
                refine W.widen (k := cl + 1) (n := sl + 6) (by omega) (by omega) ?_
                exact ih (cl + 1) (sl + 6) x166 f145 g4 c5 y146 o147 z150 s155 u10 sv156 tx12 ow13 rs14 rn15 nu16 q157  _ _ _ hf (by omega) (by omega) hP hS (lv_sub hl [3, 4, 5, 6, 0] rfl)
              · rw [if_neg h165] at hf
                refine lv_iconst (v := 0) hx hb dL_law_532 (by decide) ?_
                exact absurd (Option.some.inj hf) (by decide)
          · rw [if_neg h161] at hf
            refine lv_iconst (v := 0) hx hb dL_law_515 (by decide) ?_
            exact absurd (Option.some.inj hf) (by decide)
        rw [if_neg hsw558] at hf
        by_cases hsw559 : ((xs x2.toNatClampNeg) &&& 31) = 6
        · rw [if_pos hsw559] at hf
          refine lv_tableIn (off := 497) (tgt := 537) hx hb dL_law_40 (by rw [hsw559]; decide) (by rw [hsw559]; decide) (by rw [hsw559]; rfl) (by decide) ?_
          refine lv_aload_n hx hb dL_law_537 rfl (lv_at hl 1 rfl) ?_
          refine lv_aload_n hx hb dL_law_538 rfl (lv_at hl 0 rfl) ?_
          refine lv_iload hx hb dL_law_539 (lv_at hl 4 rfl) ?_
          refine lv_iconst (v := 1) hx hb dL_law_541 (by decide) ?_
          refine lv_iadd hx hb dL_law_542 ?_
          obtain ⟨hin167, hf⟩ := ck_e hf
          refine va_sld hx hb hXs hbl hbA hS hin167 dL_law_543 ?_
          refine lv_aload_n hx hb dL_law_544 rfl (lv_at hl 0 rfl) ?_
          refine lv_iload hx hb dL_law_545 (lv_at hl 4 rfl) ?_
          refine lv_iconst (v := 2) hx hb dL_law_547 (by decide) ?_
          refine lv_iadd hx hb dL_law_548 ?_
          obtain ⟨hin168, hf⟩ := ck_e hf
          refine va_sld hx hb hXs hbl hbA hS hin168 dL_law_549 ?_
          refine lv_aload_n hx hb dL_law_550 rfl (lv_at hl 3 rfl) ?_
          obtain ⟨k169, x170, f171, y172, o173, hc174, hf⟩ := ob5_e hf
          obtain ⟨hcd175, hf⟩ := ckp_e hf
          refine va_calli (vx_runSW (As := [.ref (xa X 306), .int (xs (x2 + 1).toNatClampNeg), .int (xs (x2 + 2).toNatClampNeg), .ref (xa X 323)]) (rest := []) ⟨hx, hb, hml, hown, hts⟩ (by have hM := kL_stoke l hst (Y := Y) hX (pmm w s9 u10 sv11 tx12 ow13 rs14 rn15 nu16 q17) (f0 := f3) (g0 := g4) (c0 := c5) (y0 := y6) (o0 := o7) (z := z8) hc174 hcd175; simp only [law_w] at hM; exact hM) hc_115 ⟨w_blindS, w_preS hP hK hG hS⟩ rfl rfl hl.1 rfl (Nat.le_of_ble_eq_true rfl) dL_law_551 ⟨Nat.le_trans (show _ ≤ 601024 by omega) (Nat.le_of_ble_eq_true rfl), Nat.le_trans (show _ ≤ 7293034 by omega) (Nat.le_of_ble_eq_true rfl)⟩) hS (fun _ _ h => h) (fun _ h => h) (fun r u t H locs ht hvm hrr hB _ _ hS => ?_)
          subst hrr
          have hP : HW X (pmm (pbt (ul w 1 (if k169 = 0 then vp_updL z8 0 x170.toInt64 else z8)) f171 g4 c5 y172 o173) s9 u10 sv11 tx12 ow13 rs14 rn15 nu16 q17) H := by rw [← ht]; exact hB.1
          obtain ⟨z176, ez176⟩ : ∃ y, y = (if k169 = 0 then vp_updL z8 0 x170.toInt64 else z8) := ⟨_, rfl⟩
          rw [← ez176] at hP
          replace hf := ltn_s ez176 hf
          refine lv_topi (fun x177 ex177 => ?_)
          replace hf := ltn_s ex177 hf
          refine lv_istore (lv' := [(5, .int x177), (0, .ref b), (1, .ref (xa X 306)), (2, .ref (xa X 314)), (3, .ref (xa X 323)), (4, .int x2)]) hx hb dL_law_554 hl (by decide) rfl (fun ls hl => ?_)
          refine lv_aload_n hx hb dL_law_556 rfl (lv_at hl 3 rfl) ?_
          refine lv_aload_n hx hb dL_law_557 rfl (lv_at hl 1 rfl) ?_
          refine lv_iload hx hb dL_law_558 (lv_at hl 5 rfl) ?_
          refine lv_iconst (v := 1) hx hb dL_law_560 (by decide) ?_
          refine lv_iadd hx hb dL_law_561 ?_
          obtain ⟨hin178, hf⟩ := ck_e hf
          refine va_sld hx hb hXs hbl hbA hS hin178 dL_law_562 ?_
          refine lv_aload_n hx hb dL_law_563 rfl (lv_at hl 1 rfl) ?_
          refine lv_iload hx hb dL_law_564 (lv_at hl 5 rfl) ?_
          refine lv_iconst (v := 2) hx hb dL_law_566 (by decide) ?_
          refine lv_iadd hx hb dL_law_567 ?_
          obtain ⟨hin179, hf⟩ := ck_e hf
          refine va_sld hx hb hXs hbl hbA hS hin179 dL_law_568 ?_
          obtain ⟨x180, s181, sv182, q183, hc184, hf⟩ := ob4_e hf
          refine w_ci ⟨hx, hb, hml, hown, hts⟩ hP hK hS (k9_stoke l hX (pbt (ul w 1 z176) f171 g4 c5 y172 o173) hc184) hc_117 (w_recv hP hK (by decide) emb_mm rfl) rfl hl.1 rfl (Nat.le_of_ble_eq_true rfl) dL_law_569 ⟨Nat.le_trans (show _ ≤ 601024 by omega) (Nat.le_of_ble_eq_true rfl), Nat.le_trans (show _ ≤ 7293034 by omega) (Nat.le_of_ble_eq_true rfl)⟩ (fun H locs hP hS => ?_)
          refine lv_istore (lv' := [(6, .int x180), (5, .int x177), (0, .ref b), (1, .ref (xa X 306)), (2, .ref (xa X 314)), (3, .ref (xa X 323)), (4, .int x2)]) hx hb dL_law_572 hl (by decide) rfl (fun ls hl => ?_)
          refine lv_aload_n hx hb dL_law_574 rfl (lv_at hl 4 rfl) ?_
          obtain ⟨x185, hc186, hf⟩ := lt1_e hf
          refine w_ci ⟨hx, hb, hml, hown, hts⟩ hP hK hS (k9_thrown l hX (pbt (ul w 1 z176) f171 g4 c5 y172 o173) hc186) hc_93 (w_recv hP hK (by decide) emb_mm rfl) rfl hl.1 rfl (Nat.le_of_ble_eq_true rfl) dL_law_575 ⟨Nat.le_trans (show _ ≤ 601024 by omega) (Nat.le_of_ble_eq_true rfl), Nat.le_trans (show _ ≤ 7293034 by omega) (Nat.le_of_ble_eq_true rfl)⟩ (fun H locs hP hS => ?_)
          refine lv_iload hx hb dL_law_578 (lv_at hl 1 rfl) ?_
          refine lv_icmp_eq (tgt := 585) hx hb dL_law_580 (by decide) (fun h187 => ?_) (fun h187 => ?_)
          · rw [if_pos h187] at hf
            refine lv_iload hx hb dL_law_585 (lv_at hl 1 rfl) ?_
            refine lv_if_ne (tgt := 602) hx hb dL_law_587 (by decide) (fun h188 => ?_) (fun h188 => ?_)
            · rw [if_neg h188] at hf
              refine lv_goto (tgt := 1534) hx hb dL_law_602 (by decide) ?_
              obtain ⟨x189, ex189⟩ : ∃ y : Int32, y = x2 + 6 := ⟨_, rfl⟩
              replace hf := ltn_s ex189 hf
              refine lv_iinc (v := x189) (lv' := [(4, .int x189), (6, .int x180), (5, .int x177), (0, .ref b), (1, .ref (xa X 306)), (2, .ref (xa X 314)), (3, .ref (xa X 323))]) hx hb dL_law_1534 hl (k := 6) rfl (by rw [ex189]; rfl) (by decide) rfl (fun ls hl => ?_)
              refine lv_goto (tgt := 23) hx hb dL_law_1537 (by decide) ?_
              refine W.widen (k := cl + 1) (n := sl + 6) (by omega) (by omega) ?_
              exact ih (cl + 1) (sl + 6) x189 f171 g4 c5 y172 o173 z176 s181 u10 sv182 tx12 ow13 rs14 rn15 nu16 q183  _ _ _ hf (by omega) (by omega) hP hS (lv_sub hl [3, 4, 5, 6, 0] rfl)
            · rw [if_pos h188] at hf
              refine lv_aload_n hx hb dL_law_590 rfl (lv_at hl 5 rfl) ?_
              refine lv_iconst (v := 0) hx hb dL_law_591 (by decide) ?_
              obtain ⟨hin190, hf⟩ := ck_e hf
              refine ar_lald (gl := z176) hx hb AR_out law_z hP hK hin190 dL_law_592 ?_
              refine lv_iload hx hb dL_law_593 (lv_at hl 0 rfl) ?_
              refine lv_i2l hx hb dL_law_595 rfl ?_
              refine W.lcmp hx hb dL_law_596 ?_
              refine lv_if_eq (tgt := 602) hx hb dL_law_597 (by decide) (fun h191 => ?_) (fun h191 => ?_)
              · rw [if_pos h191] at hf
                refine lv_goto (tgt := 1534) hx hb dL_law_602 (by decide) ?_
                obtain ⟨x192, ex192⟩ : ∃ y : Int32, y = x2 + 6 := ⟨_, rfl⟩
                replace hf := ltn_s ex192 hf
                refine lv_iinc (v := x192) (lv' := [(4, .int x192), (6, .int x180), (5, .int x177), (0, .ref b), (1, .ref (xa X 306)), (2, .ref (xa X 314)), (3, .ref (xa X 323))]) hx hb dL_law_1534 hl (k := 6) rfl (by rw [ex192]; rfl) (by decide) rfl (fun ls hl => ?_)
                refine lv_goto (tgt := 23) hx hb dL_law_1537 (by decide) ?_
                refine W.widen (k := cl + 1) (n := sl + 6) (by omega) (by omega) ?_
                exact ih (cl + 1) (sl + 6) x192 f171 g4 c5 y172 o173 z176 s181 u10 sv182 tx12 ow13 rs14 rn15 nu16 q183  _ _ _ hf (by omega) (by omega) hP hS (lv_sub hl [3, 4, 5, 6, 0] rfl)
              · rw [if_neg h191] at hf
                refine lv_iconst (v := 0) hx hb dL_law_600 (by decide) ?_
                exact absurd (Option.some.inj hf) (by decide)
          · rw [if_neg h187] at hf
            refine lv_iconst (v := 0) hx hb dL_law_583 (by decide) ?_
            exact absurd (Option.some.inj hf) (by decide)
        rw [if_neg hsw559] at hf
        by_cases hsw560 : ((xs x2.toNatClampNeg) &&& 31) = 7
        · rw [if_pos hsw560] at hf
          refine lv_tableIn (off := 565) (tgt := 605) hx hb dL_law_40 (by rw [hsw560]; decide) (by rw [hsw560]; decide) (by rw [hsw560]; rfl) (by decide) ?_
          refine lv_aload_n hx hb dL_law_605 rfl (lv_at hl 1 rfl) ?_
          obtain ⟨x193, f194, y195, o196, hc197, hf⟩ := ob4_e hf
          refine w_ci ⟨hx, hb, hml, hown, hts⟩ hP hK hS (show cI l yX8_settle wsX8_settle rmX8_settle X s.heap.size [.ref (xa X 306)] (pmm (pbt (ul w 1 z8) f3 g4 c5 y6 o7) s9 u10 sv11 tx12 ow13 rs14 rn15 nu16 q17) x193 (pmm (pbt (ul w 1 z8) f194 g4 c5 y195 o196) s9 u10 sv11 tx12 ow13 rs14 rn15 nu16 q17) from by have hM := k8_settle l hX (ul (pmm w s9 u10 sv11 tx12 ow13 rs14 rn15 nu16 q17) 1 z8) (f0 := f3) (g0 := g4) (c0 := c5) (y0 := y6) (o0 := o7) hc197; simp only [law_w] at hM; exact hM) hc_118 (w_recv hP hK (by decide) emb_bt rfl) rfl hl.1 rfl (Nat.le_of_ble_eq_true rfl) dL_law_606 ⟨Nat.le_trans (show _ ≤ 601024 by omega) (Nat.le_of_ble_eq_true rfl), Nat.le_trans (show _ ≤ 7293034 by omega) (Nat.le_of_ble_eq_true rfl)⟩ (fun H locs hP hS => ?_)
          refine lv_aload_n hx hb dL_law_609 rfl (lv_at hl 2 rfl) ?_
          obtain ⟨x198, s199, sv200, ow201, rs202, q203, hc204, hf⟩ := ob6_e hf
          refine w_ci ⟨hx, hb, hml, hown, hts⟩ hP hK hS (k9_settle l hX (pbt (ul w 1 z8) f194 g4 c5 y195 o196) hc204) hc_121 (w_recv hP hK (by decide) emb_mm rfl) rfl hl.1 rfl (Nat.le_of_ble_eq_true rfl) dL_law_610 ⟨Nat.le_trans (show _ ≤ 601024 by omega) (Nat.le_of_ble_eq_true rfl), Nat.le_trans (show _ ≤ 7293034 by omega) (Nat.le_of_ble_eq_true rfl)⟩ (fun H locs hP hS => ?_)
          refine lv_icmp_eq (tgt := 1534) hx hb dL_law_613 (by decide) (fun h205 => ?_) (fun h205 => ?_)
          · rw [if_pos h205] at hf
            obtain ⟨x206, ex206⟩ : ∃ y : Int32, y = x2 + 6 := ⟨_, rfl⟩
            replace hf := ltn_s ex206 hf
            refine lv_iinc (v := x206) (lv' := [(4, .int x206), (0, .ref b), (1, .ref (xa X 306)), (2, .ref (xa X 314)), (3, .ref (xa X 323))]) hx hb dL_law_1534 hl (k := 4) rfl (by rw [ex206]; rfl) (by decide) rfl (fun ls hl => ?_)
            refine lv_goto (tgt := 23) hx hb dL_law_1537 (by decide) ?_
            refine W.widen (k := cl + 1) (n := sl + 6) (by omega) (by omega) ?_
            exact ih (cl + 1) (sl + 6) x206 f194 g4 c5 y195 o196 z8 s199 u10 sv200 tx12 ow201 rs202 rn15 nu16 q203  _ _ _ hf (by omega) (by omega) hP hS (lv_sub hl [1, 2, 3, 4, 0] rfl)
          · rw [if_neg h205] at hf
            refine lv_iconst (v := 0) hx hb dL_law_616 (by decide) ?_
            exact absurd (Option.some.inj hf) (by decide)
        rw [if_neg hsw560] at hf
        by_cases hsw561 : ((xs x2.toNatClampNeg) &&& 31) = 8
        · rw [if_pos hsw561] at hf
          refine lv_tableIn (off := 578) (tgt := 618) hx hb dL_law_40 (by rw [hsw561]; decide) (by rw [hsw561]; decide) (by rw [hsw561]; rfl) (by decide) ?_
          refine lv_aload_n hx hb dL_law_618 rfl (lv_at hl 1 rfl) ?_
          refine lv_aload_n hx hb dL_law_619 rfl (lv_at hl 0 rfl) ?_
          refine lv_iload hx hb dL_law_620 (lv_at hl 4 rfl) ?_
          refine lv_iconst (v := 1) hx hb dL_law_622 (by decide) ?_
          refine lv_iadd hx hb dL_law_623 ?_
          obtain ⟨hin207, hf⟩ := ck_e hf
          refine va_sld hx hb hXs hbl hbA hS hin207 dL_law_624 ?_
          refine lv_aload_n hx hb dL_law_625 rfl (lv_at hl 3 rfl) ?_
          obtain ⟨k208, x209, f210, y211, o212, hc213, hf⟩ := ob5_e hf
          obtain ⟨hcd214, hf⟩ := ckp_e hf
          refine va_calli (vx_runSW (As := [.ref (xa X 306), .int (xs (x2 + 1).toNatClampNeg), .ref (xa X 323)]) (rest := []) ⟨hx, hb, hml, hown, hts⟩ (by have hM := kL_pass l hst (Y := Y) hX (pmm w s9 u10 sv11 tx12 ow13 rs14 rn15 nu16 q17) (f0 := f3) (g0 := g4) (c0 := c5) (y0 := y6) (o0 := o7) (z := z8) hc213 hcd214; simp only [law_w] at hM; exact hM) hc_122 ⟨w_blindS, w_preS hP hK hG hS⟩ rfl rfl hl.1 rfl (Nat.le_of_ble_eq_true rfl) dL_law_626 ⟨Nat.le_trans (show _ ≤ 601024 by omega) (Nat.le_of_ble_eq_true rfl), Nat.le_trans (show _ ≤ 7293034 by omega) (Nat.le_of_ble_eq_true rfl)⟩) hS (fun _ _ h => h) (fun _ h => h) (fun r u t H locs ht hvm hrr hB _ _ hS => ?_)
          subst hrr
          have hP : HW X (pmm (pbt (ul w 1 (if k208 = 0 then vp_updL z8 0 x209.toInt64 else z8)) f210 g4 c5 y211 o212) s9 u10 sv11 tx12 ow13 rs14 rn15 nu16 q17) H := by rw [← ht]; exact hB.1
          obtain ⟨z215, ez215⟩ : ∃ y, y = (if k208 = 0 then vp_updL z8 0 x209.toInt64 else z8) := ⟨_, rfl⟩
          rw [← ez215] at hP
          replace hf := ltn_s ez215 hf
          refine lv_topi (fun x216 ex216 => ?_)
          replace hf := ltn_s ex216 hf
          refine lv_istore (lv' := [(5, .int x216), (0, .ref b), (1, .ref (xa X 306)), (2, .ref (xa X 314)), (3, .ref (xa X 323)), (4, .int x2)]) hx hb dL_law_629 hl (by decide) rfl (fun ls hl => ?_)
          refine lv_aload_n hx hb dL_law_631 rfl (lv_at hl 3 rfl) ?_
          refine lv_aload_n hx hb dL_law_632 rfl (lv_at hl 1 rfl) ?_
          refine lv_iload hx hb dL_law_633 (lv_at hl 5 rfl) ?_
          refine lv_iconst (v := 1) hx hb dL_law_635 (by decide) ?_
          refine lv_iadd hx hb dL_law_636 ?_
          obtain ⟨hin217, hf⟩ := ck_e hf
          refine va_sld hx hb hXs hbl hbA hS hin217 dL_law_637 ?_
          obtain ⟨x218, s219, sv220, q221, hc222, hf⟩ := ob4_e hf
          refine w_ci ⟨hx, hb, hml, hown, hts⟩ hP hK hS (k9_pass l hX (pbt (ul w 1 z215) f210 g4 c5 y211 o212) hc222) hc_125 (w_recv hP hK (by decide) emb_mm rfl) rfl hl.1 rfl (Nat.le_of_ble_eq_true rfl) dL_law_638 ⟨Nat.le_trans (show _ ≤ 601024 by omega) (Nat.le_of_ble_eq_true rfl), Nat.le_trans (show _ ≤ 7293034 by omega) (Nat.le_of_ble_eq_true rfl)⟩ (fun H locs hP hS => ?_)
          refine lv_istore (lv' := [(6, .int x218), (5, .int x216), (0, .ref b), (1, .ref (xa X 306)), (2, .ref (xa X 314)), (3, .ref (xa X 323)), (4, .int x2)]) hx hb dL_law_641 hl (by decide) rfl (fun ls hl => ?_)
          refine lv_aload_n hx hb dL_law_643 rfl (lv_at hl 4 rfl) ?_
          obtain ⟨x223, hc224, hf⟩ := lt1_e hf
          refine w_ci ⟨hx, hb, hml, hown, hts⟩ hP hK hS (k9_thrown l hX (pbt (ul w 1 z215) f210 g4 c5 y211 o212) hc224) hc_93 (w_recv hP hK (by decide) emb_mm rfl) rfl hl.1 rfl (Nat.le_of_ble_eq_true rfl) dL_law_644 ⟨Nat.le_trans (show _ ≤ 601024 by omega) (Nat.le_of_ble_eq_true rfl), Nat.le_trans (show _ ≤ 7293034 by omega) (Nat.le_of_ble_eq_true rfl)⟩ (fun H locs hP hS => ?_)
          refine lv_iload hx hb dL_law_647 (lv_at hl 1 rfl) ?_
          refine lv_icmp_eq (tgt := 654) hx hb dL_law_649 (by decide) (fun h225 => ?_) (fun h225 => ?_)
          · rw [if_pos h225] at hf
            refine lv_iload hx hb dL_law_654 (lv_at hl 1 rfl) ?_
            refine lv_if_ne (tgt := 671) hx hb dL_law_656 (by decide) (fun h226 => ?_) (fun h226 => ?_)
            · rw [if_neg h226] at hf
              refine lv_goto (tgt := 1534) hx hb dL_law_671 (by decide) ?_
              obtain ⟨x227, ex227⟩ : ∃ y : Int32, y = x2 + 6 := ⟨_, rfl⟩
              replace hf := ltn_s ex227 hf
              refine lv_iinc (v := x227) (lv' := [(4, .int x227), (6, .int x218), (5, .int x216), (0, .ref b), (1, .ref (xa X 306)), (2, .ref (xa X 314)), (3, .ref (xa X 323))]) hx hb dL_law_1534 hl (k := 6) rfl (by rw [ex227]; rfl) (by decide) rfl (fun ls hl => ?_)
              refine lv_goto (tgt := 23) hx hb dL_law_1537 (by decide) ?_
              refine W.widen (k := cl + 1) (n := sl + 6) (by omega) (by omega) ?_
              exact ih (cl + 1) (sl + 6) x227 f210 g4 c5 y211 o212 z215 s219 u10 sv220 tx12 ow13 rs14 rn15 nu16 q221  _ _ _ hf (by omega) (by omega) hP hS (lv_sub hl [3, 4, 5, 6, 0] rfl)
            · rw [if_pos h226] at hf
              refine lv_aload_n hx hb dL_law_659 rfl (lv_at hl 5 rfl) ?_
              refine lv_iconst (v := 0) hx hb dL_law_660 (by decide) ?_
              obtain ⟨hin228, hf⟩ := ck_e hf
              refine ar_lald (gl := z215) hx hb AR_out law_z hP hK hin228 dL_law_661 ?_
              refine lv_iload hx hb dL_law_662 (lv_at hl 0 rfl) ?_
              refine lv_i2l hx hb dL_law_664 rfl ?_
              refine W.lcmp hx hb dL_law_665 ?_
              refine lv_if_eq (tgt := 671) hx hb dL_law_666 (by decide) (fun h229 => ?_) (fun h229 => ?_)
              · rw [if_pos h229] at hf
                refine lv_goto (tgt := 1534) hx hb dL_law_671 (by decide) ?_
                obtain ⟨x230, ex230⟩ : ∃ y : Int32, y = x2 + 6 := ⟨_, rfl⟩
                replace hf := ltn_s ex230 hf
                refine lv_iinc (v := x230) (lv' := [(4, .int x230), (6, .int x218), (5, .int x216), (0, .ref b), (1, .ref (xa X 306)), (2, .ref (xa X 314)), (3, .ref (xa X 323))]) hx hb dL_law_1534 hl (k := 6) rfl (by rw [ex230]; rfl) (by decide) rfl (fun ls hl => ?_)
                refine lv_goto (tgt := 23) hx hb dL_law_1537 (by decide) ?_
                refine W.widen (k := cl + 1) (n := sl + 6) (by omega) (by omega) ?_
                exact ih (cl + 1) (sl + 6) x230 f210 g4 c5 y211 o212 z215 s219 u10 sv220 tx12 ow13 rs14 rn15 nu16 q221  _ _ _ hf (by omega) (by omega) hP hS (lv_sub hl [3, 4, 5, 6, 0] rfl)
              · rw [if_neg h229] at hf
                refine lv_iconst (v := 0) hx hb dL_law_669 (by decide) ?_
                exact absurd (Option.some.inj hf) (by decide)
          · rw [if_neg h225] at hf
            refine lv_iconst (v := 0) hx hb dL_law_652 (by decide) ?_
            exact absurd (Option.some.inj hf) (by decide)
        rw [if_neg hsw561] at hf
        by_cases hsw562 : ((xs x2.toNatClampNeg) &&& 31) = 9
        · rw [if_pos hsw562] at hf
          refine lv_tableIn (off := 634) (tgt := 674) hx hb dL_law_40 (by rw [hsw562]; decide) (by rw [hsw562]; decide) (by rw [hsw562]; rfl) (by decide) ?_
          refine lv_aload_n hx hb dL_law_674 rfl (lv_at hl 1 rfl) ?_
          refine lv_aload_n hx hb dL_law_675 rfl (lv_at hl 0 rfl) ?_
          refine lv_iload hx hb dL_law_676 (lv_at hl 4 rfl) ?_
          refine lv_iconst (v := 1) hx hb dL_law_678 (by decide) ?_
          refine lv_iadd hx hb dL_law_679 ?_
          obtain ⟨hin231, hf⟩ := ck_e hf
          refine va_sld hx hb hXs hbl hbA hS hin231 dL_law_680 ?_
          refine lv_aload_n hx hb dL_law_681 rfl (lv_at hl 0 rfl) ?_
          refine lv_iload hx hb dL_law_682 (lv_at hl 4 rfl) ?_
          refine lv_iconst (v := 2) hx hb dL_law_684 (by decide) ?_
          refine lv_iadd hx hb dL_law_685 ?_
          obtain ⟨hin232, hf⟩ := ck_e hf
          refine va_sld hx hb hXs hbl hbA hS hin232 dL_law_686 ?_
          refine lv_aload_n hx hb dL_law_687 rfl (lv_at hl 3 rfl) ?_
          obtain ⟨k233, x234, hc235, hf⟩ := ob2_e hf
          obtain ⟨hcd236, hf⟩ := ckp_e hf
          refine va_calli (vx_runSW (As := [.ref (xa X 306), .int (xs (x2 + 1).toNatClampNeg), .int (xs (x2 + 2).toNatClampNeg), .ref (xa X 323)]) (rest := []) ⟨hx, hb, hml, hown, hts⟩ (by have hM := kL_kind l hst (Y := Y) hX (pmm w s9 u10 sv11 tx12 ow13 rs14 rn15 nu16 q17) (f0 := f3) (g0 := g4) (c0 := c5) (y0 := y6) (o0 := o7) (z := z8) hc235 hcd236; simp only [law_w] at hM; exact hM) hc_126 ⟨w_blindS, w_preS hP hK hG hS⟩ rfl rfl hl.1 rfl (Nat.le_of_ble_eq_true rfl) dL_law_688 ⟨Nat.le_trans (show _ ≤ 601024 by omega) (Nat.le_of_ble_eq_true rfl), Nat.le_trans (show _ ≤ 7293034 by omega) (Nat.le_of_ble_eq_true rfl)⟩) hS (fun _ _ h => h) (fun _ h => h) (fun r u t H locs ht hvm hrr hB _ _ hS => ?_)
          subst hrr
          have hP : HW X (pmm (pbt (ul w 1 (if k233 = 0 then vp_updL z8 0 x234.toInt64 else z8)) f3 g4 c5 y6 o7) s9 u10 sv11 tx12 ow13 rs14 rn15 nu16 q17) H := by rw [← ht]; exact hB.1
          obtain ⟨z237, ez237⟩ : ∃ y, y = (if k233 = 0 then vp_updL z8 0 x234.toInt64 else z8) := ⟨_, rfl⟩
          rw [← ez237] at hP
          replace hf := ltn_s ez237 hf
          refine lv_topi (fun x238 ex238 => ?_)
          replace hf := ltn_s ex238 hf
          refine lv_istore (lv' := [(5, .int x238), (0, .ref b), (1, .ref (xa X 306)), (2, .ref (xa X 314)), (3, .ref (xa X 323)), (4, .int x2)]) hx hb dL_law_691 hl (by decide) rfl (fun ls hl => ?_)
          refine lv_aload_n hx hb dL_law_693 rfl (lv_at hl 3 rfl) ?_
          refine lv_aload_n hx hb dL_law_694 rfl (lv_at hl 1 rfl) ?_
          refine lv_iload hx hb dL_law_695 (lv_at hl 5 rfl) ?_
          refine lv_iconst (v := 1) hx hb dL_law_697 (by decide) ?_
          refine lv_iadd hx hb dL_law_698 ?_
          obtain ⟨hin239, hf⟩ := ck_e hf
          refine va_sld hx hb hXs hbl hbA hS hin239 dL_law_699 ?_
          refine lv_aload_n hx hb dL_law_700 rfl (lv_at hl 1 rfl) ?_
          refine lv_iload hx hb dL_law_701 (lv_at hl 5 rfl) ?_
          refine lv_iconst (v := 2) hx hb dL_law_703 (by decide) ?_
          refine lv_iadd hx hb dL_law_704 ?_
          obtain ⟨hin240, hf⟩ := ck_e hf
          refine va_sld hx hb hXs hbl hbA hS hin240 dL_law_705 ?_
          obtain ⟨x241, q242, hc243, hf⟩ := ob2_e hf
          refine w_ci ⟨hx, hb, hml, hown, hts⟩ hP hK hS (k9_kind l hX (pbt (ul w 1 z237) f3 g4 c5 y6 o7) hc243) hc_128 (w_recv hP hK (by decide) emb_mm rfl) rfl hl.1 rfl (Nat.le_of_ble_eq_true rfl) dL_law_706 ⟨Nat.le_trans (show _ ≤ 601024 by omega) (Nat.le_of_ble_eq_true rfl), Nat.le_trans (show _ ≤ 7293034 by omega) (Nat.le_of_ble_eq_true rfl)⟩ (fun H locs hP hS => ?_)
          refine lv_istore (lv' := [(6, .int x241), (5, .int x238), (0, .ref b), (1, .ref (xa X 306)), (2, .ref (xa X 314)), (3, .ref (xa X 323)), (4, .int x2)]) hx hb dL_law_709 hl (by decide) rfl (fun ls hl => ?_)
          refine lv_aload_n hx hb dL_law_711 rfl (lv_at hl 4 rfl) ?_
          obtain ⟨x244, hc245, hf⟩ := lt1_e hf
          refine w_ci ⟨hx, hb, hml, hown, hts⟩ hP hK hS (k9_thrown l hX (pbt (ul w 1 z237) f3 g4 c5 y6 o7) hc245) hc_93 (w_recv hP hK (by decide) emb_mm rfl) rfl hl.1 rfl (Nat.le_of_ble_eq_true rfl) dL_law_712 ⟨Nat.le_trans (show _ ≤ 601024 by omega) (Nat.le_of_ble_eq_true rfl), Nat.le_trans (show _ ≤ 7293034 by omega) (Nat.le_of_ble_eq_true rfl)⟩ (fun H locs hP hS => ?_)
          refine lv_iload hx hb dL_law_715 (lv_at hl 1 rfl) ?_
          refine lv_icmp_eq (tgt := 722) hx hb dL_law_717 (by decide) (fun h246 => ?_) (fun h246 => ?_)
          · rw [if_pos h246] at hf
            refine lv_iload hx hb dL_law_722 (lv_at hl 1 rfl) ?_
            refine lv_if_ne (tgt := 739) hx hb dL_law_724 (by decide) (fun h247 => ?_) (fun h247 => ?_)
            · rw [if_neg h247] at hf
              refine lv_goto (tgt := 1534) hx hb dL_law_739 (by decide) ?_
              obtain ⟨x248, ex248⟩ : ∃ y : Int32, y = x2 + 6 := ⟨_, rfl⟩
              replace hf := ltn_s ex248 hf
              refine lv_iinc (v := x248) (lv' := [(4, .int x248), (6, .int x241), (5, .int x238), (0, .ref b), (1, .ref (xa X 306)), (2, .ref (xa X 314)), (3, .ref (xa X 323))]) hx hb dL_law_1534 hl (k := 6) rfl (by rw [ex248]; rfl) (by decide) rfl (fun ls hl => ?_)
              refine lv_goto (tgt := 23) hx hb dL_law_1537 (by decide) ?_
              refine W.widen (k := cl + 1) (n := sl + 6) (by omega) (by omega) ?_
              exact ih (cl + 1) (sl + 6) x248 f3 g4 c5 y6 o7 z237 s9 u10 sv11 tx12 ow13 rs14 rn15 nu16 q242  _ _ _ hf (by omega) (by omega) hP hS (lv_sub hl [3, 4, 5, 6, 0] rfl)
            · rw [if_pos h247] at hf
              refine lv_aload_n hx hb dL_law_727 rfl (lv_at hl 5 rfl) ?_
              refine lv_iconst (v := 0) hx hb dL_law_728 (by decide) ?_
              obtain ⟨hin249, hf⟩ := ck_e hf
              refine ar_lald (gl := z237) hx hb AR_out law_z hP hK hin249 dL_law_729 ?_
              refine lv_iload hx hb dL_law_730 (lv_at hl 0 rfl) ?_
              refine lv_i2l hx hb dL_law_732 rfl ?_
              refine W.lcmp hx hb dL_law_733 ?_
              refine lv_if_eq (tgt := 739) hx hb dL_law_734 (by decide) (fun h250 => ?_) (fun h250 => ?_)
              · rw [if_pos h250] at hf
                refine lv_goto (tgt := 1534) hx hb dL_law_739 (by decide) ?_
                obtain ⟨x251, ex251⟩ : ∃ y : Int32, y = x2 + 6 := ⟨_, rfl⟩
                replace hf := ltn_s ex251 hf
                refine lv_iinc (v := x251) (lv' := [(4, .int x251), (6, .int x241), (5, .int x238), (0, .ref b), (1, .ref (xa X 306)), (2, .ref (xa X 314)), (3, .ref (xa X 323))]) hx hb dL_law_1534 hl (k := 6) rfl (by rw [ex251]; rfl) (by decide) rfl (fun ls hl => ?_)
                refine lv_goto (tgt := 23) hx hb dL_law_1537 (by decide) ?_
                refine W.widen (k := cl + 1) (n := sl + 6) (by omega) (by omega) ?_
                exact ih (cl + 1) (sl + 6) x251 f3 g4 c5 y6 o7 z237 s9 u10 sv11 tx12 ow13 rs14 rn15 nu16 q242  _ _ _ hf (by omega) (by omega) hP hS (lv_sub hl [3, 4, 5, 6, 0] rfl)
              · rw [if_neg h250] at hf
                refine lv_iconst (v := 0) hx hb dL_law_737 (by decide) ?_
                exact absurd (Option.some.inj hf) (by decide)
          · rw [if_neg h246] at hf
            refine lv_iconst (v := 0) hx hb dL_law_720 (by decide) ?_
            exact absurd (Option.some.inj hf) (by decide)
        rw [if_neg hsw562] at hf
        by_cases hsw563 : ((xs x2.toNatClampNeg) &&& 31) = 10
        · rw [if_pos hsw563] at hf
          refine lv_tableIn (off := 702) (tgt := 742) hx hb dL_law_40 (by rw [hsw563]; decide) (by rw [hsw563]; decide) (by rw [hsw563]; rfl) (by decide) ?_
          refine lv_aload_n hx hb dL_law_742 rfl (lv_at hl 1 rfl) ?_
          refine lv_aload_n hx hb dL_law_743 rfl (lv_at hl 0 rfl) ?_
          refine lv_iload hx hb dL_law_744 (lv_at hl 4 rfl) ?_
          refine lv_iconst (v := 1) hx hb dL_law_746 (by decide) ?_
          refine lv_iadd hx hb dL_law_747 ?_
          obtain ⟨hin252, hf⟩ := ck_e hf
          refine va_sld hx hb hXs hbl hbA hS hin252 dL_law_748 ?_
          refine lv_aload_n hx hb dL_law_749 rfl (lv_at hl 0 rfl) ?_
          refine lv_iload hx hb dL_law_750 (lv_at hl 4 rfl) ?_
          refine lv_iconst (v := 2) hx hb dL_law_752 (by decide) ?_
          refine lv_iadd hx hb dL_law_753 ?_
          obtain ⟨hin253, hf⟩ := ck_e hf
          refine va_sld hx hb hXs hbl hbA hS hin253 dL_law_754 ?_
          refine lv_aload_n hx hb dL_law_755 rfl (lv_at hl 3 rfl) ?_
          obtain ⟨k254, x255, hc256, hf⟩ := ob2_e hf
          obtain ⟨hcd257, hf⟩ := ckp_e hf
          refine va_calli (vx_runSW (As := [.ref (xa X 306), .int (xs (x2 + 1).toNatClampNeg), .int (xs (x2 + 2).toNatClampNeg), .ref (xa X 323)]) (rest := []) ⟨hx, hb, hml, hown, hts⟩ (by have hM := kL_house l hst (Y := Y) hX (pmm w s9 u10 sv11 tx12 ow13 rs14 rn15 nu16 q17) (f0 := f3) (g0 := g4) (c0 := c5) (y0 := y6) (o0 := o7) (z := z8) hc256 hcd257; simp only [law_w] at hM; exact hM) hc_129 ⟨w_blindS, w_preS hP hK hG hS⟩ rfl rfl hl.1 rfl (Nat.le_of_ble_eq_true rfl) dL_law_756 ⟨Nat.le_trans (show _ ≤ 601024 by omega) (Nat.le_of_ble_eq_true rfl), Nat.le_trans (show _ ≤ 7293034 by omega) (Nat.le_of_ble_eq_true rfl)⟩) hS (fun _ _ h => h) (fun _ h => h) (fun r u t H locs ht hvm hrr hB _ _ hS => ?_)
          subst hrr
          have hP : HW X (pmm (pbt (ul w 1 (if k254 = 0 then vp_updL z8 0 x255.toInt64 else z8)) f3 g4 c5 y6 o7) s9 u10 sv11 tx12 ow13 rs14 rn15 nu16 q17) H := by rw [← ht]; exact hB.1
          obtain ⟨z258, ez258⟩ : ∃ y, y = (if k254 = 0 then vp_updL z8 0 x255.toInt64 else z8) := ⟨_, rfl⟩
          rw [← ez258] at hP
          replace hf := ltn_s ez258 hf
          refine lv_topi (fun x259 ex259 => ?_)
          replace hf := ltn_s ex259 hf
          refine lv_istore (lv' := [(5, .int x259), (0, .ref b), (1, .ref (xa X 306)), (2, .ref (xa X 314)), (3, .ref (xa X 323)), (4, .int x2)]) hx hb dL_law_759 hl (by decide) rfl (fun ls hl => ?_)
          refine lv_aload_n hx hb dL_law_761 rfl (lv_at hl 3 rfl) ?_
          refine lv_aload_n hx hb dL_law_762 rfl (lv_at hl 1 rfl) ?_
          refine lv_iload hx hb dL_law_763 (lv_at hl 5 rfl) ?_
          refine lv_iconst (v := 1) hx hb dL_law_765 (by decide) ?_
          refine lv_iadd hx hb dL_law_766 ?_
          obtain ⟨hin260, hf⟩ := ck_e hf
          refine va_sld hx hb hXs hbl hbA hS hin260 dL_law_767 ?_
          refine lv_aload_n hx hb dL_law_768 rfl (lv_at hl 1 rfl) ?_
          refine lv_iload hx hb dL_law_769 (lv_at hl 5 rfl) ?_
          refine lv_iconst (v := 2) hx hb dL_law_771 (by decide) ?_
          refine lv_iadd hx hb dL_law_772 ?_
          obtain ⟨hin261, hf⟩ := ck_e hf
          refine va_sld hx hb hXs hbl hbA hS hin261 dL_law_773 ?_
          obtain ⟨x262, q263, hc264, hf⟩ := ob2_e hf
          refine w_ci ⟨hx, hb, hml, hown, hts⟩ hP hK hS (k9_house l hX (pbt (ul w 1 z258) f3 g4 c5 y6 o7) hc264) hc_131 (w_recv hP hK (by decide) emb_mm rfl) rfl hl.1 rfl (Nat.le_of_ble_eq_true rfl) dL_law_774 ⟨Nat.le_trans (show _ ≤ 601024 by omega) (Nat.le_of_ble_eq_true rfl), Nat.le_trans (show _ ≤ 7293034 by omega) (Nat.le_of_ble_eq_true rfl)⟩ (fun H locs hP hS => ?_)
          refine lv_istore (lv' := [(6, .int x262), (5, .int x259), (0, .ref b), (1, .ref (xa X 306)), (2, .ref (xa X 314)), (3, .ref (xa X 323)), (4, .int x2)]) hx hb dL_law_777 hl (by decide) rfl (fun ls hl => ?_)
          refine lv_aload_n hx hb dL_law_779 rfl (lv_at hl 4 rfl) ?_
          obtain ⟨x265, hc266, hf⟩ := lt1_e hf
          refine w_ci ⟨hx, hb, hml, hown, hts⟩ hP hK hS (k9_thrown l hX (pbt (ul w 1 z258) f3 g4 c5 y6 o7) hc266) hc_93 (w_recv hP hK (by decide) emb_mm rfl) rfl hl.1 rfl (Nat.le_of_ble_eq_true rfl) dL_law_780 ⟨Nat.le_trans (show _ ≤ 601024 by omega) (Nat.le_of_ble_eq_true rfl), Nat.le_trans (show _ ≤ 7293034 by omega) (Nat.le_of_ble_eq_true rfl)⟩ (fun H locs hP hS => ?_)
          refine lv_iload hx hb dL_law_783 (lv_at hl 1 rfl) ?_
          refine lv_icmp_eq (tgt := 790) hx hb dL_law_785 (by decide) (fun h267 => ?_) (fun h267 => ?_)
          · rw [if_pos h267] at hf
            refine lv_iload hx hb dL_law_790 (lv_at hl 1 rfl) ?_
            refine lv_if_ne (tgt := 807) hx hb dL_law_792 (by decide) (fun h268 => ?_) (fun h268 => ?_)
            · rw [if_neg h268] at hf
              refine lv_goto (tgt := 1534) hx hb dL_law_807 (by decide) ?_
              obtain ⟨x269, ex269⟩ : ∃ y : Int32, y = x2 + 6 := ⟨_, rfl⟩
              replace hf := ltn_s ex269 hf
              refine lv_iinc (v := x269) (lv' := [(4, .int x269), (6, .int x262), (5, .int x259), (0, .ref b), (1, .ref (xa X 306)), (2, .ref (xa X 314)), (3, .ref (xa X 323))]) hx hb dL_law_1534 hl (k := 6) rfl (by rw [ex269]; rfl) (by decide) rfl (fun ls hl => ?_)
              refine lv_goto (tgt := 23) hx hb dL_law_1537 (by decide) ?_
              refine W.widen (k := cl + 1) (n := sl + 6) (by omega) (by omega) ?_
              exact ih (cl + 1) (sl + 6) x269 f3 g4 c5 y6 o7 z258 s9 u10 sv11 tx12 ow13 rs14 rn15 nu16 q263  _ _ _ hf (by omega) (by omega) hP hS (lv_sub hl [3, 4, 5, 6, 0] rfl)
            · rw [if_pos h268] at hf
              refine lv_aload_n hx hb dL_law_795 rfl (lv_at hl 5 rfl) ?_
              refine lv_iconst (v := 0) hx hb dL_law_796 (by decide) ?_
              obtain ⟨hin270, hf⟩ := ck_e hf
              refine ar_lald (gl := z258) hx hb AR_out law_z hP hK hin270 dL_law_797 ?_
              refine lv_iload hx hb dL_law_798 (lv_at hl 0 rfl) ?_
              refine lv_i2l hx hb dL_law_800 rfl ?_
              refine W.lcmp hx hb dL_law_801 ?_
              refine lv_if_eq (tgt := 807) hx hb dL_law_802 (by decide) (fun h271 => ?_) (fun h271 => ?_)
              · rw [if_pos h271] at hf
                refine lv_goto (tgt := 1534) hx hb dL_law_807 (by decide) ?_
                obtain ⟨x272, ex272⟩ : ∃ y : Int32, y = x2 + 6 := ⟨_, rfl⟩
                replace hf := ltn_s ex272 hf
                refine lv_iinc (v := x272) (lv' := [(4, .int x272), (6, .int x262), (5, .int x259), (0, .ref b), (1, .ref (xa X 306)), (2, .ref (xa X 314)), (3, .ref (xa X 323))]) hx hb dL_law_1534 hl (k := 6) rfl (by rw [ex272]; rfl) (by decide) rfl (fun ls hl => ?_)
                refine lv_goto (tgt := 23) hx hb dL_law_1537 (by decide) ?_
                refine W.widen (k := cl + 1) (n := sl + 6) (by omega) (by omega) ?_
                exact ih (cl + 1) (sl + 6) x272 f3 g4 c5 y6 o7 z258 s9 u10 sv11 tx12 ow13 rs14 rn15 nu16 q263  _ _ _ hf (by omega) (by omega) hP hS (lv_sub hl [3, 4, 5, 6, 0] rfl)
              · rw [if_neg h271] at hf
                refine lv_iconst (v := 0) hx hb dL_law_805 (by decide) ?_
                exact absurd (Option.some.inj hf) (by decide)
          · rw [if_neg h267] at hf
            refine lv_iconst (v := 0) hx hb dL_law_788 (by decide) ?_
            exact absurd (Option.some.inj hf) (by decide)
        rw [if_neg hsw563] at hf
        by_cases hsw564 : ((xs x2.toNatClampNeg) &&& 31) = 11
        · rw [if_pos hsw564] at hf
          refine lv_tableIn (off := 770) (tgt := 810) hx hb dL_law_40 (by rw [hsw564]; decide) (by rw [hsw564]; decide) (by rw [hsw564]; rfl) (by decide) ?_
          refine lv_aload_n hx hb dL_law_810 rfl (lv_at hl 1 rfl) ?_
          refine lv_aload_n hx hb dL_law_811 rfl (lv_at hl 0 rfl) ?_
          refine lv_iload hx hb dL_law_812 (lv_at hl 4 rfl) ?_
          refine lv_iconst (v := 1) hx hb dL_law_814 (by decide) ?_
          refine lv_iadd hx hb dL_law_815 ?_
          obtain ⟨hin273, hf⟩ := ck_e hf
          refine va_sld hx hb hXs hbl hbA hS hin273 dL_law_816 ?_
          refine lv_aload_n hx hb dL_law_817 rfl (lv_at hl 0 rfl) ?_
          refine lv_iload hx hb dL_law_818 (lv_at hl 4 rfl) ?_
          refine lv_iconst (v := 2) hx hb dL_law_820 (by decide) ?_
          refine lv_iadd hx hb dL_law_821 ?_
          obtain ⟨hin274, hf⟩ := ck_e hf
          refine va_sld hx hb hXs hbl hbA hS hin274 dL_law_822 ?_
          refine lv_aload_n hx hb dL_law_823 rfl (lv_at hl 3 rfl) ?_
          obtain ⟨k275, x276, hc277, hf⟩ := ob2_e hf
          obtain ⟨hcd278, hf⟩ := ckp_e hf
          refine va_calli (vx_runSW (As := [.ref (xa X 306), .int (xs (x2 + 1).toNatClampNeg), .int (xs (x2 + 2).toNatClampNeg), .ref (xa X 323)]) (rest := []) ⟨hx, hb, hml, hown, hts⟩ (by have hM := kL_dough l hst (Y := Y) hX (pmm w s9 u10 sv11 tx12 ow13 rs14 rn15 nu16 q17) (f0 := f3) (g0 := g4) (c0 := c5) (y0 := y6) (o0 := o7) (z := z8) hc277 hcd278; simp only [law_w] at hM; exact hM) hc_132 ⟨w_blindS, w_preS hP hK hG hS⟩ rfl rfl hl.1 rfl (Nat.le_of_ble_eq_true rfl) dL_law_824 ⟨Nat.le_trans (show _ ≤ 601024 by omega) (Nat.le_of_ble_eq_true rfl), Nat.le_trans (show _ ≤ 7293034 by omega) (Nat.le_of_ble_eq_true rfl)⟩) hS (fun _ _ h => h) (fun _ h => h) (fun r u t H locs ht hvm hrr hB _ _ hS => ?_)
          subst hrr
          have hP : HW X (pmm (pbt (ul w 1 (if k275 = 0 then vp_updL z8 0 x276.toInt64 else z8)) f3 g4 c5 y6 o7) s9 u10 sv11 tx12 ow13 rs14 rn15 nu16 q17) H := by rw [← ht]; exact hB.1
          obtain ⟨z279, ez279⟩ : ∃ y, y = (if k275 = 0 then vp_updL z8 0 x276.toInt64 else z8) := ⟨_, rfl⟩
          rw [← ez279] at hP
          replace hf := ltn_s ez279 hf
          refine lv_topi (fun x280 ex280 => ?_)
          replace hf := ltn_s ex280 hf
          refine lv_istore (lv' := [(5, .int x280), (0, .ref b), (1, .ref (xa X 306)), (2, .ref (xa X 314)), (3, .ref (xa X 323)), (4, .int x2)]) hx hb dL_law_827 hl (by decide) rfl (fun ls hl => ?_)
          refine lv_aload_n hx hb dL_law_829 rfl (lv_at hl 3 rfl) ?_
          refine lv_aload_n hx hb dL_law_830 rfl (lv_at hl 1 rfl) ?_
          refine lv_iload hx hb dL_law_831 (lv_at hl 5 rfl) ?_
          refine lv_iconst (v := 1) hx hb dL_law_833 (by decide) ?_
          refine lv_iadd hx hb dL_law_834 ?_
          obtain ⟨hin281, hf⟩ := ck_e hf
          refine va_sld hx hb hXs hbl hbA hS hin281 dL_law_835 ?_
          refine lv_aload_n hx hb dL_law_836 rfl (lv_at hl 1 rfl) ?_
          refine lv_iload hx hb dL_law_837 (lv_at hl 5 rfl) ?_
          refine lv_iconst (v := 2) hx hb dL_law_839 (by decide) ?_
          refine lv_iadd hx hb dL_law_840 ?_
          obtain ⟨hin282, hf⟩ := ck_e hf
          refine va_sld hx hb hXs hbl hbA hS hin282 dL_law_841 ?_
          obtain ⟨x283, q284, hc285, hf⟩ := ob2_e hf
          refine w_ci ⟨hx, hb, hml, hown, hts⟩ hP hK hS (k9_dough l hX (pbt (ul w 1 z279) f3 g4 c5 y6 o7) hc285) hc_134 (w_recv hP hK (by decide) emb_mm rfl) rfl hl.1 rfl (Nat.le_of_ble_eq_true rfl) dL_law_842 ⟨Nat.le_trans (show _ ≤ 601024 by omega) (Nat.le_of_ble_eq_true rfl), Nat.le_trans (show _ ≤ 7293034 by omega) (Nat.le_of_ble_eq_true rfl)⟩ (fun H locs hP hS => ?_)
          refine lv_istore (lv' := [(6, .int x283), (5, .int x280), (0, .ref b), (1, .ref (xa X 306)), (2, .ref (xa X 314)), (3, .ref (xa X 323)), (4, .int x2)]) hx hb dL_law_845 hl (by decide) rfl (fun ls hl => ?_)
          refine lv_aload_n hx hb dL_law_847 rfl (lv_at hl 4 rfl) ?_
          obtain ⟨x286, hc287, hf⟩ := lt1_e hf
          refine w_ci ⟨hx, hb, hml, hown, hts⟩ hP hK hS (k9_thrown l hX (pbt (ul w 1 z279) f3 g4 c5 y6 o7) hc287) hc_93 (w_recv hP hK (by decide) emb_mm rfl) rfl hl.1 rfl (Nat.le_of_ble_eq_true rfl) dL_law_848 ⟨Nat.le_trans (show _ ≤ 601024 by omega) (Nat.le_of_ble_eq_true rfl), Nat.le_trans (show _ ≤ 7293034 by omega) (Nat.le_of_ble_eq_true rfl)⟩ (fun H locs hP hS => ?_)
          refine lv_iload hx hb dL_law_851 (lv_at hl 1 rfl) ?_
          refine lv_icmp_eq (tgt := 858) hx hb dL_law_853 (by decide) (fun h288 => ?_) (fun h288 => ?_)
          · rw [if_pos h288] at hf
            refine lv_iload hx hb dL_law_858 (lv_at hl 1 rfl) ?_
            refine lv_if_ne (tgt := 875) hx hb dL_law_860 (by decide) (fun h289 => ?_) (fun h289 => ?_)
            · rw [if_neg h289] at hf
              refine lv_goto (tgt := 1534) hx hb dL_law_875 (by decide) ?_
              obtain ⟨x290, ex290⟩ : ∃ y : Int32, y = x2 + 6 := ⟨_, rfl⟩
              replace hf := ltn_s ex290 hf
              refine lv_iinc (v := x290) (lv' := [(4, .int x290), (6, .int x283), (5, .int x280), (0, .ref b), (1, .ref (xa X 306)), (2, .ref (xa X 314)), (3, .ref (xa X 323))]) hx hb dL_law_1534 hl (k := 6) rfl (by rw [ex290]; rfl) (by decide) rfl (fun ls hl => ?_)
              refine lv_goto (tgt := 23) hx hb dL_law_1537 (by decide) ?_
              refine W.widen (k := cl + 1) (n := sl + 6) (by omega) (by omega) ?_
              exact ih (cl + 1) (sl + 6) x290 f3 g4 c5 y6 o7 z279 s9 u10 sv11 tx12 ow13 rs14 rn15 nu16 q284  _ _ _ hf (by omega) (by omega) hP hS (lv_sub hl [3, 4, 5, 6, 0] rfl)
            · rw [if_pos h289] at hf
              refine lv_aload_n hx hb dL_law_863 rfl (lv_at hl 5 rfl) ?_
              refine lv_iconst (v := 0) hx hb dL_law_864 (by decide) ?_
              obtain ⟨hin291, hf⟩ := ck_e hf
              refine ar_lald (gl := z279) hx hb AR_out law_z hP hK hin291 dL_law_865 ?_
              refine lv_iload hx hb dL_law_866 (lv_at hl 0 rfl) ?_
              refine lv_i2l hx hb dL_law_868 rfl ?_
              refine W.lcmp hx hb dL_law_869 ?_
              refine lv_if_eq (tgt := 875) hx hb dL_law_870 (by decide) (fun h292 => ?_) (fun h292 => ?_)
              · rw [if_pos h292] at hf
                refine lv_goto (tgt := 1534) hx hb dL_law_875 (by decide) ?_
                obtain ⟨x293, ex293⟩ : ∃ y : Int32, y = x2 + 6 := ⟨_, rfl⟩
                replace hf := ltn_s ex293 hf
                refine lv_iinc (v := x293) (lv' := [(4, .int x293), (6, .int x283), (5, .int x280), (0, .ref b), (1, .ref (xa X 306)), (2, .ref (xa X 314)), (3, .ref (xa X 323))]) hx hb dL_law_1534 hl (k := 6) rfl (by rw [ex293]; rfl) (by decide) rfl (fun ls hl => ?_)
                refine lv_goto (tgt := 23) hx hb dL_law_1537 (by decide) ?_
                refine W.widen (k := cl + 1) (n := sl + 6) (by omega) (by omega) ?_
                exact ih (cl + 1) (sl + 6) x293 f3 g4 c5 y6 o7 z279 s9 u10 sv11 tx12 ow13 rs14 rn15 nu16 q284  _ _ _ hf (by omega) (by omega) hP hS (lv_sub hl [3, 4, 5, 6, 0] rfl)
              · rw [if_neg h292] at hf
                refine lv_iconst (v := 0) hx hb dL_law_873 (by decide) ?_
                exact absurd (Option.some.inj hf) (by decide)
          · rw [if_neg h288] at hf
            refine lv_iconst (v := 0) hx hb dL_law_856 (by decide) ?_
            exact absurd (Option.some.inj hf) (by decide)
        rw [if_neg hsw564] at hf
        by_cases hsw565 : ((xs x2.toNatClampNeg) &&& 31) = 12
        · rw [if_pos hsw565] at hf
          refine lv_tableIn (off := 838) (tgt := 878) hx hb dL_law_40 (by rw [hsw565]; decide) (by rw [hsw565]; decide) (by rw [hsw565]; rfl) (by decide) ?_
          refine lv_aload_n hx hb dL_law_878 rfl (lv_at hl 1 rfl) ?_
          refine lv_aload_n hx hb dL_law_879 rfl (lv_at hl 0 rfl) ?_
          refine lv_iload hx hb dL_law_880 (lv_at hl 4 rfl) ?_
          refine lv_iconst (v := 1) hx hb dL_law_882 (by decide) ?_
          refine lv_iadd hx hb dL_law_883 ?_
          obtain ⟨hin294, hf⟩ := ck_e hf
          refine va_sld hx hb hXs hbl hbA hS hin294 dL_law_884 ?_
          refine lv_aload_n hx hb dL_law_885 rfl (lv_at hl 0 rfl) ?_
          refine lv_iload hx hb dL_law_886 (lv_at hl 4 rfl) ?_
          refine lv_iconst (v := 2) hx hb dL_law_888 (by decide) ?_
          refine lv_iadd hx hb dL_law_889 ?_
          obtain ⟨hin295, hf⟩ := ck_e hf
          refine va_sld hx hb hXs hbl hbA hS hin295 dL_law_890 ?_
          refine lv_aload_n hx hb dL_law_891 rfl (lv_at hl 3 rfl) ?_
          obtain ⟨k296, x297, hc298, hf⟩ := ob2_e hf
          obtain ⟨hcd299, hf⟩ := ckp_e hf
          refine va_calli (vx_runSW (As := [.ref (xa X 306), .int (xs (x2 + 1).toNatClampNeg), .int (xs (x2 + 2).toNatClampNeg), .ref (xa X 323)]) (rest := []) ⟨hx, hb, hml, hown, hts⟩ (by have hM := kL_place l hst (Y := Y) hX (pmm w s9 u10 sv11 tx12 ow13 rs14 rn15 nu16 q17) (f0 := f3) (g0 := g4) (c0 := c5) (y0 := y6) (o0 := o7) (z := z8) hc298 hcd299; simp only [law_w] at hM; exact hM) hc_135 ⟨w_blindS, w_preS hP hK hG hS⟩ rfl rfl hl.1 rfl (Nat.le_of_ble_eq_true rfl) dL_law_892 ⟨Nat.le_trans (show _ ≤ 601024 by omega) (Nat.le_of_ble_eq_true rfl), Nat.le_trans (show _ ≤ 7293034 by omega) (Nat.le_of_ble_eq_true rfl)⟩) hS (fun _ _ h => h) (fun _ h => h) (fun r u t H locs ht hvm hrr hB _ _ hS => ?_)
          subst hrr
          have hP : HW X (pmm (pbt (ul w 1 (if k296 = 0 then vp_updL z8 0 x297.toInt64 else z8)) f3 g4 c5 y6 o7) s9 u10 sv11 tx12 ow13 rs14 rn15 nu16 q17) H := by rw [← ht]; exact hB.1
          obtain ⟨z300, ez300⟩ : ∃ y, y = (if k296 = 0 then vp_updL z8 0 x297.toInt64 else z8) := ⟨_, rfl⟩
          rw [← ez300] at hP
          replace hf := ltn_s ez300 hf
          refine lv_topi (fun x301 ex301 => ?_)
          replace hf := ltn_s ex301 hf
          refine lv_istore (lv' := [(5, .int x301), (0, .ref b), (1, .ref (xa X 306)), (2, .ref (xa X 314)), (3, .ref (xa X 323)), (4, .int x2)]) hx hb dL_law_895 hl (by decide) rfl (fun ls hl => ?_)
          refine lv_aload_n hx hb dL_law_897 rfl (lv_at hl 3 rfl) ?_
          refine lv_aload_n hx hb dL_law_898 rfl (lv_at hl 1 rfl) ?_
          refine lv_iload hx hb dL_law_899 (lv_at hl 5 rfl) ?_
          refine lv_iconst (v := 1) hx hb dL_law_901 (by decide) ?_
          refine lv_iadd hx hb dL_law_902 ?_
          obtain ⟨hin302, hf⟩ := ck_e hf
          refine va_sld hx hb hXs hbl hbA hS hin302 dL_law_903 ?_
          refine lv_aload_n hx hb dL_law_904 rfl (lv_at hl 1 rfl) ?_
          refine lv_iload hx hb dL_law_905 (lv_at hl 5 rfl) ?_
          refine lv_iconst (v := 2) hx hb dL_law_907 (by decide) ?_
          refine lv_iadd hx hb dL_law_908 ?_
          obtain ⟨hin303, hf⟩ := ck_e hf
          refine va_sld hx hb hXs hbl hbA hS hin303 dL_law_909 ?_
          obtain ⟨x304, q305, hc306, hf⟩ := ob2_e hf
          refine w_ci ⟨hx, hb, hml, hown, hts⟩ hP hK hS (k9_place l hX (pbt (ul w 1 z300) f3 g4 c5 y6 o7) hc306) hc_137 (w_recv hP hK (by decide) emb_mm rfl) rfl hl.1 rfl (Nat.le_of_ble_eq_true rfl) dL_law_910 ⟨Nat.le_trans (show _ ≤ 601024 by omega) (Nat.le_of_ble_eq_true rfl), Nat.le_trans (show _ ≤ 7293034 by omega) (Nat.le_of_ble_eq_true rfl)⟩ (fun H locs hP hS => ?_)
          refine lv_istore (lv' := [(6, .int x304), (5, .int x301), (0, .ref b), (1, .ref (xa X 306)), (2, .ref (xa X 314)), (3, .ref (xa X 323)), (4, .int x2)]) hx hb dL_law_913 hl (by decide) rfl (fun ls hl => ?_)
          refine lv_aload_n hx hb dL_law_915 rfl (lv_at hl 4 rfl) ?_
          obtain ⟨x307, hc308, hf⟩ := lt1_e hf
          refine w_ci ⟨hx, hb, hml, hown, hts⟩ hP hK hS (k9_thrown l hX (pbt (ul w 1 z300) f3 g4 c5 y6 o7) hc308) hc_93 (w_recv hP hK (by decide) emb_mm rfl) rfl hl.1 rfl (Nat.le_of_ble_eq_true rfl) dL_law_916 ⟨Nat.le_trans (show _ ≤ 601024 by omega) (Nat.le_of_ble_eq_true rfl), Nat.le_trans (show _ ≤ 7293034 by omega) (Nat.le_of_ble_eq_true rfl)⟩ (fun H locs hP hS => ?_)
          refine lv_iload hx hb dL_law_919 (lv_at hl 1 rfl) ?_
          refine lv_icmp_eq (tgt := 926) hx hb dL_law_921 (by decide) (fun h309 => ?_) (fun h309 => ?_)
          · rw [if_pos h309] at hf
            refine lv_iload hx hb dL_law_926 (lv_at hl 1 rfl) ?_
            refine lv_if_ne (tgt := 943) hx hb dL_law_928 (by decide) (fun h310 => ?_) (fun h310 => ?_)
            · rw [if_neg h310] at hf
              refine lv_goto (tgt := 1534) hx hb dL_law_943 (by decide) ?_
              obtain ⟨x311, ex311⟩ : ∃ y : Int32, y = x2 + 6 := ⟨_, rfl⟩
              replace hf := ltn_s ex311 hf
              refine lv_iinc (v := x311) (lv' := [(4, .int x311), (6, .int x304), (5, .int x301), (0, .ref b), (1, .ref (xa X 306)), (2, .ref (xa X 314)), (3, .ref (xa X 323))]) hx hb dL_law_1534 hl (k := 6) rfl (by rw [ex311]; rfl) (by decide) rfl (fun ls hl => ?_)
              refine lv_goto (tgt := 23) hx hb dL_law_1537 (by decide) ?_
              refine W.widen (k := cl + 1) (n := sl + 6) (by omega) (by omega) ?_
              exact ih (cl + 1) (sl + 6) x311 f3 g4 c5 y6 o7 z300 s9 u10 sv11 tx12 ow13 rs14 rn15 nu16 q305  _ _ _ hf (by omega) (by omega) hP hS (lv_sub hl [3, 4, 5, 6, 0] rfl)
            · rw [if_pos h310] at hf
              refine lv_aload_n hx hb dL_law_931 rfl (lv_at hl 5 rfl) ?_
              refine lv_iconst (v := 0) hx hb dL_law_932 (by decide) ?_
              obtain ⟨hin312, hf⟩ := ck_e hf
              refine ar_lald (gl := z300) hx hb AR_out law_z hP hK hin312 dL_law_933 ?_
              refine lv_iload hx hb dL_law_934 (lv_at hl 0 rfl) ?_
              refine lv_i2l hx hb dL_law_936 rfl ?_
              refine W.lcmp hx hb dL_law_937 ?_
              refine lv_if_eq (tgt := 943) hx hb dL_law_938 (by decide) (fun h313 => ?_) (fun h313 => ?_)
              · rw [if_pos h313] at hf
                refine lv_goto (tgt := 1534) hx hb dL_law_943 (by decide) ?_
                obtain ⟨x314, ex314⟩ : ∃ y : Int32, y = x2 + 6 := ⟨_, rfl⟩
                replace hf := ltn_s ex314 hf
                refine lv_iinc (v := x314) (lv' := [(4, .int x314), (6, .int x304), (5, .int x301), (0, .ref b), (1, .ref (xa X 306)), (2, .ref (xa X 314)), (3, .ref (xa X 323))]) hx hb dL_law_1534 hl (k := 6) rfl (by rw [ex314]; rfl) (by decide) rfl (fun ls hl => ?_)
                refine lv_goto (tgt := 23) hx hb dL_law_1537 (by decide) ?_
                refine W.widen (k := cl + 1) (n := sl + 6) (by omega) (by omega) ?_
                exact ih (cl + 1) (sl + 6) x314 f3 g4 c5 y6 o7 z300 s9 u10 sv11 tx12 ow13 rs14 rn15 nu16 q305  _ _ _ hf (by omega) (by omega) hP hS (lv_sub hl [3, 4, 5, 6, 0] rfl)
              · rw [if_neg h313] at hf
                refine lv_iconst (v := 0) hx hb dL_law_941 (by decide) ?_
                exact absurd (Option.some.inj hf) (by decide)
          · rw [if_neg h309] at hf
            refine lv_iconst (v := 0) hx hb dL_law_924 (by decide) ?_
            exact absurd (Option.some.inj hf) (by decide)
        rw [if_neg hsw565] at hf
        by_cases hsw566 : ((xs x2.toNatClampNeg) &&& 31) = 13
        · rw [if_pos hsw566] at hf
          refine lv_tableIn (off := 906) (tgt := 946) hx hb dL_law_40 (by rw [hsw566]; decide) (by rw [hsw566]; decide) (by rw [hsw566]; rfl) (by decide) ?_
          refine lv_aload_n hx hb dL_law_946 rfl (lv_at hl 1 rfl) ?_
          refine lv_aload_n hx hb dL_law_947 rfl (lv_at hl 0 rfl) ?_
          refine lv_iload hx hb dL_law_948 (lv_at hl 4 rfl) ?_
          refine lv_iconst (v := 1) hx hb dL_law_950 (by decide) ?_
          refine lv_iadd hx hb dL_law_951 ?_
          obtain ⟨hin315, hf⟩ := ck_e hf
          refine va_sld hx hb hXs hbl hbA hS hin315 dL_law_952 ?_
          refine lv_aload_n hx hb dL_law_953 rfl (lv_at hl 3 rfl) ?_
          obtain ⟨k316, x317, hc318, hf⟩ := ob2_e hf
          obtain ⟨hcd319, hf⟩ := ckp_e hf
          refine va_calli (vx_runSW (As := [.ref (xa X 306), .int (xs (x2 + 1).toNatClampNeg), .ref (xa X 323)]) (rest := []) ⟨hx, hb, hml, hown, hts⟩ (by have hM := kL_whole l hst (Y := Y) hX (pmm w s9 u10 sv11 tx12 ow13 rs14 rn15 nu16 q17) (f0 := f3) (g0 := g4) (c0 := c5) (y0 := y6) (o0 := o7) (z := z8) hc318 hcd319; simp only [law_w] at hM; exact hM) hc_138 ⟨w_blindS, w_preS hP hK hG hS⟩ rfl rfl hl.1 rfl (Nat.le_of_ble_eq_true rfl) dL_law_954 ⟨Nat.le_trans (show _ ≤ 601024 by omega) (Nat.le_of_ble_eq_true rfl), Nat.le_trans (show _ ≤ 7293034 by omega) (Nat.le_of_ble_eq_true rfl)⟩) hS (fun _ _ h => h) (fun _ h => h) (fun r u t H locs ht hvm hrr hB _ _ hS => ?_)
          subst hrr
          have hP : HW X (pmm (pbt (ul w 1 (if k316 = 0 then vp_updL z8 0 x317.toInt64 else z8)) f3 g4 c5 y6 o7) s9 u10 sv11 tx12 ow13 rs14 rn15 nu16 q17) H := by rw [← ht]; exact hB.1
          obtain ⟨z320, ez320⟩ : ∃ y, y = (if k316 = 0 then vp_updL z8 0 x317.toInt64 else z8) := ⟨_, rfl⟩
          rw [← ez320] at hP
          replace hf := ltn_s ez320 hf
          refine lv_topi (fun x321 ex321 => ?_)
          replace hf := ltn_s ex321 hf
          refine lv_istore (lv' := [(5, .int x321), (0, .ref b), (1, .ref (xa X 306)), (2, .ref (xa X 314)), (3, .ref (xa X 323)), (4, .int x2)]) hx hb dL_law_957 hl (by decide) rfl (fun ls hl => ?_)
          refine lv_aload_n hx hb dL_law_959 rfl (lv_at hl 3 rfl) ?_
          refine lv_aload_n hx hb dL_law_960 rfl (lv_at hl 1 rfl) ?_
          refine lv_iload hx hb dL_law_961 (lv_at hl 5 rfl) ?_
          refine lv_iconst (v := 1) hx hb dL_law_963 (by decide) ?_
          refine lv_iadd hx hb dL_law_964 ?_
          obtain ⟨hin322, hf⟩ := ck_e hf
          refine va_sld hx hb hXs hbl hbA hS hin322 dL_law_965 ?_
          obtain ⟨x323, q324, hc325, hf⟩ := ob2_e hf
          refine w_ci ⟨hx, hb, hml, hown, hts⟩ hP hK hS (k9_whole l hX (pbt (ul w 1 z320) f3 g4 c5 y6 o7) hc325) hc_140 (w_recv hP hK (by decide) emb_mm rfl) rfl hl.1 rfl (Nat.le_of_ble_eq_true rfl) dL_law_966 ⟨Nat.le_trans (show _ ≤ 601024 by omega) (Nat.le_of_ble_eq_true rfl), Nat.le_trans (show _ ≤ 7293034 by omega) (Nat.le_of_ble_eq_true rfl)⟩ (fun H locs hP hS => ?_)
          refine lv_istore (lv' := [(6, .int x323), (5, .int x321), (0, .ref b), (1, .ref (xa X 306)), (2, .ref (xa X 314)), (3, .ref (xa X 323)), (4, .int x2)]) hx hb dL_law_969 hl (by decide) rfl (fun ls hl => ?_)
          refine lv_aload_n hx hb dL_law_971 rfl (lv_at hl 4 rfl) ?_
          obtain ⟨x326, hc327, hf⟩ := lt1_e hf
          refine w_ci ⟨hx, hb, hml, hown, hts⟩ hP hK hS (k9_thrown l hX (pbt (ul w 1 z320) f3 g4 c5 y6 o7) hc327) hc_93 (w_recv hP hK (by decide) emb_mm rfl) rfl hl.1 rfl (Nat.le_of_ble_eq_true rfl) dL_law_972 ⟨Nat.le_trans (show _ ≤ 601024 by omega) (Nat.le_of_ble_eq_true rfl), Nat.le_trans (show _ ≤ 7293034 by omega) (Nat.le_of_ble_eq_true rfl)⟩ (fun H locs hP hS => ?_)
          refine lv_iload hx hb dL_law_975 (lv_at hl 1 rfl) ?_
          refine lv_icmp_eq (tgt := 982) hx hb dL_law_977 (by decide) (fun h328 => ?_) (fun h328 => ?_)
          · rw [if_pos h328] at hf
            refine lv_iload hx hb dL_law_982 (lv_at hl 1 rfl) ?_
            refine lv_if_ne (tgt := 999) hx hb dL_law_984 (by decide) (fun h329 => ?_) (fun h329 => ?_)
            · rw [if_neg h329] at hf
              refine lv_goto (tgt := 1534) hx hb dL_law_999 (by decide) ?_
              obtain ⟨x330, ex330⟩ : ∃ y : Int32, y = x2 + 6 := ⟨_, rfl⟩
              replace hf := ltn_s ex330 hf
              refine lv_iinc (v := x330) (lv' := [(4, .int x330), (6, .int x323), (5, .int x321), (0, .ref b), (1, .ref (xa X 306)), (2, .ref (xa X 314)), (3, .ref (xa X 323))]) hx hb dL_law_1534 hl (k := 6) rfl (by rw [ex330]; rfl) (by decide) rfl (fun ls hl => ?_)
              refine lv_goto (tgt := 23) hx hb dL_law_1537 (by decide) ?_
              refine W.widen (k := cl + 1) (n := sl + 6) (by omega) (by omega) ?_
              exact ih (cl + 1) (sl + 6) x330 f3 g4 c5 y6 o7 z320 s9 u10 sv11 tx12 ow13 rs14 rn15 nu16 q324  _ _ _ hf (by omega) (by omega) hP hS (lv_sub hl [3, 4, 5, 6, 0] rfl)
            · rw [if_pos h329] at hf
              refine lv_aload_n hx hb dL_law_987 rfl (lv_at hl 5 rfl) ?_
              refine lv_iconst (v := 0) hx hb dL_law_988 (by decide) ?_
              obtain ⟨hin331, hf⟩ := ck_e hf
              refine ar_lald (gl := z320) hx hb AR_out law_z hP hK hin331 dL_law_989 ?_
              refine lv_iload hx hb dL_law_990 (lv_at hl 0 rfl) ?_
              refine lv_i2l hx hb dL_law_992 rfl ?_
              refine W.lcmp hx hb dL_law_993 ?_
              refine lv_if_eq (tgt := 999) hx hb dL_law_994 (by decide) (fun h332 => ?_) (fun h332 => ?_)
              · rw [if_pos h332] at hf
                refine lv_goto (tgt := 1534) hx hb dL_law_999 (by decide) ?_
                obtain ⟨x333, ex333⟩ : ∃ y : Int32, y = x2 + 6 := ⟨_, rfl⟩
                replace hf := ltn_s ex333 hf
                refine lv_iinc (v := x333) (lv' := [(4, .int x333), (6, .int x323), (5, .int x321), (0, .ref b), (1, .ref (xa X 306)), (2, .ref (xa X 314)), (3, .ref (xa X 323))]) hx hb dL_law_1534 hl (k := 6) rfl (by rw [ex333]; rfl) (by decide) rfl (fun ls hl => ?_)
                refine lv_goto (tgt := 23) hx hb dL_law_1537 (by decide) ?_
                refine W.widen (k := cl + 1) (n := sl + 6) (by omega) (by omega) ?_
                exact ih (cl + 1) (sl + 6) x333 f3 g4 c5 y6 o7 z320 s9 u10 sv11 tx12 ow13 rs14 rn15 nu16 q324  _ _ _ hf (by omega) (by omega) hP hS (lv_sub hl [3, 4, 5, 6, 0] rfl)
              · rw [if_neg h332] at hf
                refine lv_iconst (v := 0) hx hb dL_law_997 (by decide) ?_
                exact absurd (Option.some.inj hf) (by decide)
          · rw [if_neg h328] at hf
            refine lv_iconst (v := 0) hx hb dL_law_980 (by decide) ?_
            exact absurd (Option.some.inj hf) (by decide)
        rw [if_neg hsw566] at hf
        by_cases hsw567 : ((xs x2.toNatClampNeg) &&& 31) = 14
        · rw [if_pos hsw567] at hf
          refine lv_tableIn (off := 962) (tgt := 1002) hx hb dL_law_40 (by rw [hsw567]; decide) (by rw [hsw567]; decide) (by rw [hsw567]; rfl) (by decide) ?_
          refine lv_aload_n hx hb dL_law_1002 rfl (lv_at hl 1 rfl) ?_
          refine lv_aload_n hx hb dL_law_1003 rfl (lv_at hl 0 rfl) ?_
          refine lv_iload hx hb dL_law_1004 (lv_at hl 4 rfl) ?_
          refine lv_iconst (v := 1) hx hb dL_law_1006 (by decide) ?_
          refine lv_iadd hx hb dL_law_1007 ?_
          obtain ⟨hin334, hf⟩ := ck_e hf
          refine va_sld hx hb hXs hbl hbA hS hin334 dL_law_1008 ?_
          refine lv_aload_n hx hb dL_law_1009 rfl (lv_at hl 3 rfl) ?_
          obtain ⟨k335, x336, hc337, hf⟩ := ob2_e hf
          obtain ⟨hcd338, hf⟩ := ckp_e hf
          refine va_calli (vx_runSW (As := [.ref (xa X 306), .int (xs (x2 + 1).toNatClampNeg), .ref (xa X 323)]) (rest := []) ⟨hx, hb, hml, hown, hts⟩ (by have hM := kL_line l hst (Y := Y) hX (pmm w s9 u10 sv11 tx12 ow13 rs14 rn15 nu16 q17) (f0 := f3) (g0 := g4) (c0 := c5) (y0 := y6) (o0 := o7) (z := z8) hc337 hcd338; simp only [law_w] at hM; exact hM) hc_141 ⟨w_blindS, w_preS hP hK hG hS⟩ rfl rfl hl.1 rfl (Nat.le_of_ble_eq_true rfl) dL_law_1010 ⟨Nat.le_trans (show _ ≤ 601024 by omega) (Nat.le_of_ble_eq_true rfl), Nat.le_trans (show _ ≤ 7293034 by omega) (Nat.le_of_ble_eq_true rfl)⟩) hS (fun _ _ h => h) (fun _ h => h) (fun r u t H locs ht hvm hrr hB _ _ hS => ?_)
          subst hrr
          have hP : HW X (pmm (pbt (ul w 1 (if k335 = 0 then vp_updL z8 0 x336.toInt64 else z8)) f3 g4 c5 y6 o7) s9 u10 sv11 tx12 ow13 rs14 rn15 nu16 q17) H := by rw [← ht]; exact hB.1
          obtain ⟨z339, ez339⟩ : ∃ y, y = (if k335 = 0 then vp_updL z8 0 x336.toInt64 else z8) := ⟨_, rfl⟩
          rw [← ez339] at hP
          replace hf := ltn_s ez339 hf
          refine lv_topi (fun x340 ex340 => ?_)
          replace hf := ltn_s ex340 hf
          refine lv_istore (lv' := [(5, .int x340), (0, .ref b), (1, .ref (xa X 306)), (2, .ref (xa X 314)), (3, .ref (xa X 323)), (4, .int x2)]) hx hb dL_law_1013 hl (by decide) rfl (fun ls hl => ?_)
          refine lv_aload_n hx hb dL_law_1015 rfl (lv_at hl 3 rfl) ?_
          refine lv_aload_n hx hb dL_law_1016 rfl (lv_at hl 1 rfl) ?_
          refine lv_iload hx hb dL_law_1017 (lv_at hl 5 rfl) ?_
          refine lv_iconst (v := 1) hx hb dL_law_1019 (by decide) ?_
          refine lv_iadd hx hb dL_law_1020 ?_
          obtain ⟨hin341, hf⟩ := ck_e hf
          refine va_sld hx hb hXs hbl hbA hS hin341 dL_law_1021 ?_
          obtain ⟨x342, q343, hc344, hf⟩ := ob2_e hf
          refine w_ci ⟨hx, hb, hml, hown, hts⟩ hP hK hS (k9_line l hX (pbt (ul w 1 z339) f3 g4 c5 y6 o7) hc344) hc_143 (w_recv hP hK (by decide) emb_mm rfl) rfl hl.1 rfl (Nat.le_of_ble_eq_true rfl) dL_law_1022 ⟨Nat.le_trans (show _ ≤ 601024 by omega) (Nat.le_of_ble_eq_true rfl), Nat.le_trans (show _ ≤ 7293034 by omega) (Nat.le_of_ble_eq_true rfl)⟩ (fun H locs hP hS => ?_)
          refine lv_istore (lv' := [(6, .int x342), (5, .int x340), (0, .ref b), (1, .ref (xa X 306)), (2, .ref (xa X 314)), (3, .ref (xa X 323)), (4, .int x2)]) hx hb dL_law_1025 hl (by decide) rfl (fun ls hl => ?_)
          refine lv_aload_n hx hb dL_law_1027 rfl (lv_at hl 4 rfl) ?_
          obtain ⟨x345, hc346, hf⟩ := lt1_e hf
          refine w_ci ⟨hx, hb, hml, hown, hts⟩ hP hK hS (k9_thrown l hX (pbt (ul w 1 z339) f3 g4 c5 y6 o7) hc346) hc_93 (w_recv hP hK (by decide) emb_mm rfl) rfl hl.1 rfl (Nat.le_of_ble_eq_true rfl) dL_law_1028 ⟨Nat.le_trans (show _ ≤ 601024 by omega) (Nat.le_of_ble_eq_true rfl), Nat.le_trans (show _ ≤ 7293034 by omega) (Nat.le_of_ble_eq_true rfl)⟩ (fun H locs hP hS => ?_)
          refine lv_iload hx hb dL_law_1031 (lv_at hl 1 rfl) ?_
          refine lv_icmp_eq (tgt := 1038) hx hb dL_law_1033 (by decide) (fun h347 => ?_) (fun h347 => ?_)
          · rw [if_pos h347] at hf
            refine lv_iload hx hb dL_law_1038 (lv_at hl 1 rfl) ?_
            refine lv_if_ne (tgt := 1055) hx hb dL_law_1040 (by decide) (fun h348 => ?_) (fun h348 => ?_)
            · rw [if_neg h348] at hf
              refine lv_goto (tgt := 1534) hx hb dL_law_1055 (by decide) ?_
              obtain ⟨x349, ex349⟩ : ∃ y : Int32, y = x2 + 6 := ⟨_, rfl⟩
              replace hf := ltn_s ex349 hf
              refine lv_iinc (v := x349) (lv' := [(4, .int x349), (6, .int x342), (5, .int x340), (0, .ref b), (1, .ref (xa X 306)), (2, .ref (xa X 314)), (3, .ref (xa X 323))]) hx hb dL_law_1534 hl (k := 6) rfl (by rw [ex349]; rfl) (by decide) rfl (fun ls hl => ?_)
              refine lv_goto (tgt := 23) hx hb dL_law_1537 (by decide) ?_
              refine W.widen (k := cl + 1) (n := sl + 6) (by omega) (by omega) ?_
              exact ih (cl + 1) (sl + 6) x349 f3 g4 c5 y6 o7 z339 s9 u10 sv11 tx12 ow13 rs14 rn15 nu16 q343  _ _ _ hf (by omega) (by omega) hP hS (lv_sub hl [3, 4, 5, 6, 0] rfl)
            · rw [if_pos h348] at hf
              refine lv_aload_n hx hb dL_law_1043 rfl (lv_at hl 5 rfl) ?_
              refine lv_iconst (v := 0) hx hb dL_law_1044 (by decide) ?_
              obtain ⟨hin350, hf⟩ := ck_e hf
              refine ar_lald (gl := z339) hx hb AR_out law_z hP hK hin350 dL_law_1045 ?_
              refine lv_iload hx hb dL_law_1046 (lv_at hl 0 rfl) ?_
              refine lv_i2l hx hb dL_law_1048 rfl ?_
              refine W.lcmp hx hb dL_law_1049 ?_
              refine lv_if_eq (tgt := 1055) hx hb dL_law_1050 (by decide) (fun h351 => ?_) (fun h351 => ?_)
              · rw [if_pos h351] at hf
                refine lv_goto (tgt := 1534) hx hb dL_law_1055 (by decide) ?_
                obtain ⟨x352, ex352⟩ : ∃ y : Int32, y = x2 + 6 := ⟨_, rfl⟩
                replace hf := ltn_s ex352 hf
                refine lv_iinc (v := x352) (lv' := [(4, .int x352), (6, .int x342), (5, .int x340), (0, .ref b), (1, .ref (xa X 306)), (2, .ref (xa X 314)), (3, .ref (xa X 323))]) hx hb dL_law_1534 hl (k := 6) rfl (by rw [ex352]; rfl) (by decide) rfl (fun ls hl => ?_)
                refine lv_goto (tgt := 23) hx hb dL_law_1537 (by decide) ?_
                refine W.widen (k := cl + 1) (n := sl + 6) (by omega) (by omega) ?_
                exact ih (cl + 1) (sl + 6) x352 f3 g4 c5 y6 o7 z339 s9 u10 sv11 tx12 ow13 rs14 rn15 nu16 q343  _ _ _ hf (by omega) (by omega) hP hS (lv_sub hl [3, 4, 5, 6, 0] rfl)
              · rw [if_neg h351] at hf
                refine lv_iconst (v := 0) hx hb dL_law_1053 (by decide) ?_
                exact absurd (Option.some.inj hf) (by decide)
          · rw [if_neg h347] at hf
            refine lv_iconst (v := 0) hx hb dL_law_1036 (by decide) ?_
            exact absurd (Option.some.inj hf) (by decide)
        rw [if_neg hsw567] at hf
        by_cases hsw568 : ((xs x2.toNatClampNeg) &&& 31) = 15
        · rw [if_pos hsw568] at hf
          refine lv_tableIn (off := 1018) (tgt := 1058) hx hb dL_law_40 (by rw [hsw568]; decide) (by rw [hsw568]; decide) (by rw [hsw568]; rfl) (by decide) ?_
          refine lv_aload_n hx hb dL_law_1058 rfl (lv_at hl 1 rfl) ?_
          refine lv_aload_n hx hb dL_law_1059 rfl (lv_at hl 0 rfl) ?_
          refine lv_iload hx hb dL_law_1060 (lv_at hl 4 rfl) ?_
          refine lv_iconst (v := 1) hx hb dL_law_1062 (by decide) ?_
          refine lv_iadd hx hb dL_law_1063 ?_
          obtain ⟨hin353, hf⟩ := ck_e hf
          refine va_sld hx hb hXs hbl hbA hS hin353 dL_law_1064 ?_
          refine lv_aload_n hx hb dL_law_1065 rfl (lv_at hl 3 rfl) ?_
          obtain ⟨k354, x355, hc356, hf⟩ := ob2_e hf
          obtain ⟨hcd357, hf⟩ := ckp_e hf
          refine va_calli (vx_runSW (As := [.ref (xa X 306), .int (xs (x2 + 1).toNatClampNeg), .ref (xa X 323)]) (rest := []) ⟨hx, hb, hml, hown, hts⟩ (by have hM := kL_reason l hst (Y := Y) hX (pmm w s9 u10 sv11 tx12 ow13 rs14 rn15 nu16 q17) (f0 := f3) (g0 := g4) (c0 := c5) (y0 := y6) (o0 := o7) (z := z8) hc356 hcd357; simp only [law_w] at hM; exact hM) hc_144 ⟨w_blindS, w_preS hP hK hG hS⟩ rfl rfl hl.1 rfl (Nat.le_of_ble_eq_true rfl) dL_law_1066 ⟨Nat.le_trans (show _ ≤ 601024 by omega) (Nat.le_of_ble_eq_true rfl), Nat.le_trans (show _ ≤ 7293034 by omega) (Nat.le_of_ble_eq_true rfl)⟩) hS (fun _ _ h => h) (fun _ h => h) (fun r u t H locs ht hvm hrr hB _ _ hS => ?_)
          subst hrr
          have hP : HW X (pmm (pbt (ul w 1 (if k354 = 0 then vp_updL z8 0 x355.toInt64 else z8)) f3 g4 c5 y6 o7) s9 u10 sv11 tx12 ow13 rs14 rn15 nu16 q17) H := by rw [← ht]; exact hB.1
          obtain ⟨z358, ez358⟩ : ∃ y, y = (if k354 = 0 then vp_updL z8 0 x355.toInt64 else z8) := ⟨_, rfl⟩
          rw [← ez358] at hP
          replace hf := ltn_s ez358 hf
          refine lv_topi (fun x359 ex359 => ?_)
          replace hf := ltn_s ex359 hf
          refine lv_istore (lv' := [(5, .int x359), (0, .ref b), (1, .ref (xa X 306)), (2, .ref (xa X 314)), (3, .ref (xa X 323)), (4, .int x2)]) hx hb dL_law_1069 hl (by decide) rfl (fun ls hl => ?_)
          refine lv_aload_n hx hb dL_law_1071 rfl (lv_at hl 3 rfl) ?_
          refine lv_aload_n hx hb dL_law_1072 rfl (lv_at hl 1 rfl) ?_
          refine lv_iload hx hb dL_law_1073 (lv_at hl 5 rfl) ?_
          refine lv_iconst (v := 1) hx hb dL_law_1075 (by decide) ?_
          refine lv_iadd hx hb dL_law_1076 ?_
          obtain ⟨hin360, hf⟩ := ck_e hf
          refine va_sld hx hb hXs hbl hbA hS hin360 dL_law_1077 ?_
          obtain ⟨x361, q362, hc363, hf⟩ := ob2_e hf
          refine w_ci ⟨hx, hb, hml, hown, hts⟩ hP hK hS (k9_reason l hX (pbt (ul w 1 z358) f3 g4 c5 y6 o7) hc363) hc_146 (w_recv hP hK (by decide) emb_mm rfl) rfl hl.1 rfl (Nat.le_of_ble_eq_true rfl) dL_law_1078 ⟨Nat.le_trans (show _ ≤ 601024 by omega) (Nat.le_of_ble_eq_true rfl), Nat.le_trans (show _ ≤ 7293034 by omega) (Nat.le_of_ble_eq_true rfl)⟩ (fun H locs hP hS => ?_)
          refine lv_istore (lv' := [(6, .int x361), (5, .int x359), (0, .ref b), (1, .ref (xa X 306)), (2, .ref (xa X 314)), (3, .ref (xa X 323)), (4, .int x2)]) hx hb dL_law_1081 hl (by decide) rfl (fun ls hl => ?_)
          refine lv_aload_n hx hb dL_law_1083 rfl (lv_at hl 4 rfl) ?_
          obtain ⟨x364, hc365, hf⟩ := lt1_e hf
          refine w_ci ⟨hx, hb, hml, hown, hts⟩ hP hK hS (k9_thrown l hX (pbt (ul w 1 z358) f3 g4 c5 y6 o7) hc365) hc_93 (w_recv hP hK (by decide) emb_mm rfl) rfl hl.1 rfl (Nat.le_of_ble_eq_true rfl) dL_law_1084 ⟨Nat.le_trans (show _ ≤ 601024 by omega) (Nat.le_of_ble_eq_true rfl), Nat.le_trans (show _ ≤ 7293034 by omega) (Nat.le_of_ble_eq_true rfl)⟩ (fun H locs hP hS => ?_)
          refine lv_iload hx hb dL_law_1087 (lv_at hl 1 rfl) ?_
          refine lv_icmp_eq (tgt := 1094) hx hb dL_law_1089 (by decide) (fun h366 => ?_) (fun h366 => ?_)
          · rw [if_pos h366] at hf
            refine lv_iload hx hb dL_law_1094 (lv_at hl 1 rfl) ?_
            refine lv_if_ne (tgt := 1111) hx hb dL_law_1096 (by decide) (fun h367 => ?_) (fun h367 => ?_)
            · rw [if_neg h367] at hf
              refine lv_goto (tgt := 1534) hx hb dL_law_1111 (by decide) ?_
              obtain ⟨x368, ex368⟩ : ∃ y : Int32, y = x2 + 6 := ⟨_, rfl⟩
              replace hf := ltn_s ex368 hf
              refine lv_iinc (v := x368) (lv' := [(4, .int x368), (6, .int x361), (5, .int x359), (0, .ref b), (1, .ref (xa X 306)), (2, .ref (xa X 314)), (3, .ref (xa X 323))]) hx hb dL_law_1534 hl (k := 6) rfl (by rw [ex368]; rfl) (by decide) rfl (fun ls hl => ?_)
              refine lv_goto (tgt := 23) hx hb dL_law_1537 (by decide) ?_
              refine W.widen (k := cl + 1) (n := sl + 6) (by omega) (by omega) ?_
              exact ih (cl + 1) (sl + 6) x368 f3 g4 c5 y6 o7 z358 s9 u10 sv11 tx12 ow13 rs14 rn15 nu16 q362  _ _ _ hf (by omega) (by omega) hP hS (lv_sub hl [3, 4, 5, 6, 0] rfl)
            · rw [if_pos h367] at hf
              refine lv_aload_n hx hb dL_law_1099 rfl (lv_at hl 5 rfl) ?_
              refine lv_iconst (v := 0) hx hb dL_law_1100 (by decide) ?_
              obtain ⟨hin369, hf⟩ := ck_e hf
              refine ar_lald (gl := z358) hx hb AR_out law_z hP hK hin369 dL_law_1101 ?_
              refine lv_iload hx hb dL_law_1102 (lv_at hl 0 rfl) ?_
              refine lv_i2l hx hb dL_law_1104 rfl ?_
              refine W.lcmp hx hb dL_law_1105 ?_
              refine lv_if_eq (tgt := 1111) hx hb dL_law_1106 (by decide) (fun h370 => ?_) (fun h370 => ?_)
              · rw [if_pos h370] at hf
                refine lv_goto (tgt := 1534) hx hb dL_law_1111 (by decide) ?_
                obtain ⟨x371, ex371⟩ : ∃ y : Int32, y = x2 + 6 := ⟨_, rfl⟩
                replace hf := ltn_s ex371 hf
                refine lv_iinc (v := x371) (lv' := [(4, .int x371), (6, .int x361), (5, .int x359), (0, .ref b), (1, .ref (xa X 306)), (2, .ref (xa X 314)), (3, .ref (xa X 323))]) hx hb dL_law_1534 hl (k := 6) rfl (by rw [ex371]; rfl) (by decide) rfl (fun ls hl => ?_)
                refine lv_goto (tgt := 23) hx hb dL_law_1537 (by decide) ?_
                refine W.widen (k := cl + 1) (n := sl + 6) (by omega) (by omega) ?_
                exact ih (cl + 1) (sl + 6) x371 f3 g4 c5 y6 o7 z358 s9 u10 sv11 tx12 ow13 rs14 rn15 nu16 q362  _ _ _ hf (by omega) (by omega) hP hS (lv_sub hl [3, 4, 5, 6, 0] rfl)
              · rw [if_neg h370] at hf
                refine lv_iconst (v := 0) hx hb dL_law_1109 (by decide) ?_
                exact absurd (Option.some.inj hf) (by decide)
          · rw [if_neg h366] at hf
            refine lv_iconst (v := 0) hx hb dL_law_1092 (by decide) ?_
            exact absurd (Option.some.inj hf) (by decide)
        rw [if_neg hsw568] at hf
        by_cases hsw569 : ((xs x2.toNatClampNeg) &&& 31) = 16
        · rw [if_pos hsw569] at hf
          refine lv_tableIn (off := 1074) (tgt := 1114) hx hb dL_law_40 (by rw [hsw569]; decide) (by rw [hsw569]; decide) (by rw [hsw569]; rfl) (by decide) ?_
          refine lv_aload_n hx hb dL_law_1114 rfl (lv_at hl 1 rfl) ?_
          refine lv_aload_n hx hb dL_law_1115 rfl (lv_at hl 0 rfl) ?_
          refine lv_iload hx hb dL_law_1116 (lv_at hl 4 rfl) ?_
          refine lv_iconst (v := 1) hx hb dL_law_1118 (by decide) ?_
          refine lv_iadd hx hb dL_law_1119 ?_
          obtain ⟨hin372, hf⟩ := ck_e hf
          refine va_sld hx hb hXs hbl hbA hS hin372 dL_law_1120 ?_
          refine lv_aload_n hx hb dL_law_1121 rfl (lv_at hl 3 rfl) ?_
          obtain ⟨k373, x374, g375, hc376, hf⟩ := ob3_e hf
          obtain ⟨hcd377, hf⟩ := ckp_e hf
          refine va_calli (vx_runSW (As := [.ref (xa X 306), .int (xs (x2 + 1).toNatClampNeg), .ref (xa X 323)]) (rest := []) ⟨hx, hb, hml, hown, hts⟩ (by have hM := kL_loadedIn l hst (Y := Y) hX (pmm w s9 u10 sv11 tx12 ow13 rs14 rn15 nu16 q17) (f0 := f3) (g0 := g4) (c0 := c5) (y0 := y6) (o0 := o7) (z := z8) hc376 hcd377; simp only [law_w] at hM; exact hM) hc_147 ⟨w_blindS, w_preS hP hK hG hS⟩ rfl rfl hl.1 rfl (Nat.le_of_ble_eq_true rfl) dL_law_1122 ⟨Nat.le_trans (show _ ≤ 601024 by omega) (Nat.le_of_ble_eq_true rfl), Nat.le_trans (show _ ≤ 7293034 by omega) (Nat.le_of_ble_eq_true rfl)⟩) hS (fun _ _ h => h) (fun _ h => h) (fun r u t H locs ht hvm hrr hB _ _ hS => ?_)
          subst hrr
          have hP : HW X (pmm (pbt (ul w 1 (if k373 = 0 then vp_updL z8 0 x374.toInt64 else z8)) f3 g375 c5 y6 o7) s9 u10 sv11 tx12 ow13 rs14 rn15 nu16 q17) H := by rw [← ht]; exact hB.1
          obtain ⟨z378, ez378⟩ : ∃ y, y = (if k373 = 0 then vp_updL z8 0 x374.toInt64 else z8) := ⟨_, rfl⟩
          rw [← ez378] at hP
          replace hf := ltn_s ez378 hf
          refine lv_topi (fun x379 ex379 => ?_)
          replace hf := ltn_s ex379 hf
          refine lv_istore (lv' := [(5, .int x379), (0, .ref b), (1, .ref (xa X 306)), (2, .ref (xa X 314)), (3, .ref (xa X 323)), (4, .int x2)]) hx hb dL_law_1125 hl (by decide) rfl (fun ls hl => ?_)
          refine lv_aload_n hx hb dL_law_1127 rfl (lv_at hl 3 rfl) ?_
          refine lv_aload_n hx hb dL_law_1128 rfl (lv_at hl 1 rfl) ?_
          refine lv_iload hx hb dL_law_1129 (lv_at hl 5 rfl) ?_
          refine lv_iconst (v := 1) hx hb dL_law_1131 (by decide) ?_
          refine lv_iadd hx hb dL_law_1132 ?_
          obtain ⟨hin380, hf⟩ := ck_e hf
          refine va_sld hx hb hXs hbl hbA hS hin380 dL_law_1133 ?_
          obtain ⟨x381, u382, q383, hc384, hf⟩ := ob3_e hf
          refine w_ci ⟨hx, hb, hml, hown, hts⟩ hP hK hS (k9_loadedIn l hX (pbt (ul w 1 z378) f3 g375 c5 y6 o7) hc384) hc_149 (w_recv hP hK (by decide) emb_mm rfl) rfl hl.1 rfl (Nat.le_of_ble_eq_true rfl) dL_law_1134 ⟨Nat.le_trans (show _ ≤ 601024 by omega) (Nat.le_of_ble_eq_true rfl), Nat.le_trans (show _ ≤ 7293034 by omega) (Nat.le_of_ble_eq_true rfl)⟩ (fun H locs hP hS => ?_)
          refine lv_istore (lv' := [(6, .int x381), (5, .int x379), (0, .ref b), (1, .ref (xa X 306)), (2, .ref (xa X 314)), (3, .ref (xa X 323)), (4, .int x2)]) hx hb dL_law_1137 hl (by decide) rfl (fun ls hl => ?_)
          refine lv_aload_n hx hb dL_law_1139 rfl (lv_at hl 4 rfl) ?_
          obtain ⟨x385, hc386, hf⟩ := lt1_e hf
          refine w_ci ⟨hx, hb, hml, hown, hts⟩ hP hK hS (k9_thrown l hX (pbt (ul w 1 z378) f3 g375 c5 y6 o7) hc386) hc_93 (w_recv hP hK (by decide) emb_mm rfl) rfl hl.1 rfl (Nat.le_of_ble_eq_true rfl) dL_law_1140 ⟨Nat.le_trans (show _ ≤ 601024 by omega) (Nat.le_of_ble_eq_true rfl), Nat.le_trans (show _ ≤ 7293034 by omega) (Nat.le_of_ble_eq_true rfl)⟩ (fun H locs hP hS => ?_)
          refine lv_iload hx hb dL_law_1143 (lv_at hl 1 rfl) ?_
          refine lv_icmp_eq (tgt := 1150) hx hb dL_law_1145 (by decide) (fun h387 => ?_) (fun h387 => ?_)
          · rw [if_pos h387] at hf
            refine lv_iload hx hb dL_law_1150 (lv_at hl 1 rfl) ?_
            refine lv_if_ne (tgt := 1167) hx hb dL_law_1152 (by decide) (fun h388 => ?_) (fun h388 => ?_)
            · rw [if_neg h388] at hf
              refine lv_goto (tgt := 1534) hx hb dL_law_1167 (by decide) ?_
              obtain ⟨x389, ex389⟩ : ∃ y : Int32, y = x2 + 6 := ⟨_, rfl⟩
              replace hf := ltn_s ex389 hf
              refine lv_iinc (v := x389) (lv' := [(4, .int x389), (6, .int x381), (5, .int x379), (0, .ref b), (1, .ref (xa X 306)), (2, .ref (xa X 314)), (3, .ref (xa X 323))]) hx hb dL_law_1534 hl (k := 6) rfl (by rw [ex389]; rfl) (by decide) rfl (fun ls hl => ?_)
              refine lv_goto (tgt := 23) hx hb dL_law_1537 (by decide) ?_
              refine W.widen (k := cl + 1) (n := sl + 6) (by omega) (by omega) ?_
              exact ih (cl + 1) (sl + 6) x389 f3 g375 c5 y6 o7 z378 s9 u382 sv11 tx12 ow13 rs14 rn15 nu16 q383  _ _ _ hf (by omega) (by omega) hP hS (lv_sub hl [3, 4, 5, 6, 0] rfl)
            · rw [if_pos h388] at hf
              refine lv_aload_n hx hb dL_law_1155 rfl (lv_at hl 5 rfl) ?_
              refine lv_iconst (v := 0) hx hb dL_law_1156 (by decide) ?_
              obtain ⟨hin390, hf⟩ := ck_e hf
              refine ar_lald (gl := z378) hx hb AR_out law_z hP hK hin390 dL_law_1157 ?_
              refine lv_iload hx hb dL_law_1158 (lv_at hl 0 rfl) ?_
              refine lv_i2l hx hb dL_law_1160 rfl ?_
              refine W.lcmp hx hb dL_law_1161 ?_
              refine lv_if_eq (tgt := 1167) hx hb dL_law_1162 (by decide) (fun h391 => ?_) (fun h391 => ?_)
              · rw [if_pos h391] at hf
                refine lv_goto (tgt := 1534) hx hb dL_law_1167 (by decide) ?_
                obtain ⟨x392, ex392⟩ : ∃ y : Int32, y = x2 + 6 := ⟨_, rfl⟩
                replace hf := ltn_s ex392 hf
                refine lv_iinc (v := x392) (lv' := [(4, .int x392), (6, .int x381), (5, .int x379), (0, .ref b), (1, .ref (xa X 306)), (2, .ref (xa X 314)), (3, .ref (xa X 323))]) hx hb dL_law_1534 hl (k := 6) rfl (by rw [ex392]; rfl) (by decide) rfl (fun ls hl => ?_)
                refine lv_goto (tgt := 23) hx hb dL_law_1537 (by decide) ?_
                refine W.widen (k := cl + 1) (n := sl + 6) (by omega) (by omega) ?_
                exact ih (cl + 1) (sl + 6) x392 f3 g375 c5 y6 o7 z378 s9 u382 sv11 tx12 ow13 rs14 rn15 nu16 q383  _ _ _ hf (by omega) (by omega) hP hS (lv_sub hl [3, 4, 5, 6, 0] rfl)
              · rw [if_neg h391] at hf
                refine lv_iconst (v := 0) hx hb dL_law_1165 (by decide) ?_
                exact absurd (Option.some.inj hf) (by decide)
          · rw [if_neg h387] at hf
            refine lv_iconst (v := 0) hx hb dL_law_1148 (by decide) ?_
            exact absurd (Option.some.inj hf) (by decide)
        rw [if_neg hsw569] at hf
        by_cases hsw570 : ((xs x2.toNatClampNeg) &&& 31) = 17
        · rw [if_pos hsw570] at hf
          refine lv_tableIn (off := 1130) (tgt := 1170) hx hb dL_law_40 (by rw [hsw570]; decide) (by rw [hsw570]; decide) (by rw [hsw570]; rfl) (by decide) ?_
          refine lv_aload_n hx hb dL_law_1170 rfl (lv_at hl 1 rfl) ?_
          refine lv_aload_n hx hb dL_law_1171 rfl (lv_at hl 0 rfl) ?_
          refine lv_iload hx hb dL_law_1172 (lv_at hl 4 rfl) ?_
          refine lv_iconst (v := 1) hx hb dL_law_1174 (by decide) ?_
          refine lv_iadd hx hb dL_law_1175 ?_
          obtain ⟨hin393, hf⟩ := ck_e hf
          refine va_sld hx hb hXs hbl hbA hS hin393 dL_law_1176 ?_
          refine lv_aload_n hx hb dL_law_1177 rfl (lv_at hl 3 rfl) ?_
          obtain ⟨k394, x395, hc396, hf⟩ := ob2_e hf
          obtain ⟨hcd397, hf⟩ := ckp_e hf
          refine va_calli (vx_runSW (As := [.ref (xa X 306), .int (xs (x2 + 1).toNatClampNeg), .ref (xa X 323)]) (rest := []) ⟨hx, hb, hml, hown, hts⟩ (by have hM := kL_neededLogs l hst (Y := Y) hX (pmm w s9 u10 sv11 tx12 ow13 rs14 rn15 nu16 q17) (f0 := f3) (g0 := g4) (c0 := c5) (y0 := y6) (o0 := o7) (z := z8) hc396 hcd397; simp only [law_w] at hM; exact hM) hc_150 ⟨w_blindS, w_preS hP hK hG hS⟩ rfl rfl hl.1 rfl (Nat.le_of_ble_eq_true rfl) dL_law_1178 ⟨Nat.le_trans (show _ ≤ 601024 by omega) (Nat.le_of_ble_eq_true rfl), Nat.le_trans (show _ ≤ 7293034 by omega) (Nat.le_of_ble_eq_true rfl)⟩) hS (fun _ _ h => h) (fun _ h => h) (fun r u t H locs ht hvm hrr hB _ _ hS => ?_)
          subst hrr
          have hP : HW X (pmm (pbt (ul w 1 (if k394 = 0 then vp_updL z8 0 x395.toInt64 else z8)) f3 g4 c5 y6 o7) s9 u10 sv11 tx12 ow13 rs14 rn15 nu16 q17) H := by rw [← ht]; exact hB.1
          obtain ⟨z398, ez398⟩ : ∃ y, y = (if k394 = 0 then vp_updL z8 0 x395.toInt64 else z8) := ⟨_, rfl⟩
          rw [← ez398] at hP
          replace hf := ltn_s ez398 hf
          refine lv_topi (fun x399 ex399 => ?_)
          replace hf := ltn_s ex399 hf
          refine lv_istore (lv' := [(5, .int x399), (0, .ref b), (1, .ref (xa X 306)), (2, .ref (xa X 314)), (3, .ref (xa X 323)), (4, .int x2)]) hx hb dL_law_1181 hl (by decide) rfl (fun ls hl => ?_)
          refine lv_aload_n hx hb dL_law_1183 rfl (lv_at hl 3 rfl) ?_
          refine lv_aload_n hx hb dL_law_1184 rfl (lv_at hl 1 rfl) ?_
          refine lv_iload hx hb dL_law_1185 (lv_at hl 5 rfl) ?_
          refine lv_iconst (v := 1) hx hb dL_law_1187 (by decide) ?_
          refine lv_iadd hx hb dL_law_1188 ?_
          obtain ⟨hin400, hf⟩ := ck_e hf
          refine va_sld hx hb hXs hbl hbA hS hin400 dL_law_1189 ?_
          obtain ⟨x401, u402, q403, hc404, hf⟩ := ob3_e hf
          refine w_ci ⟨hx, hb, hml, hown, hts⟩ hP hK hS (k9_neededLogs l hX (pbt (ul w 1 z398) f3 g4 c5 y6 o7) hc404) hc_152 (w_recv hP hK (by decide) emb_mm rfl) rfl hl.1 rfl (Nat.le_of_ble_eq_true rfl) dL_law_1190 ⟨Nat.le_trans (show _ ≤ 601024 by omega) (Nat.le_of_ble_eq_true rfl), Nat.le_trans (show _ ≤ 7293034 by omega) (Nat.le_of_ble_eq_true rfl)⟩ (fun H locs hP hS => ?_)
          refine lv_istore (lv' := [(6, .int x401), (5, .int x399), (0, .ref b), (1, .ref (xa X 306)), (2, .ref (xa X 314)), (3, .ref (xa X 323)), (4, .int x2)]) hx hb dL_law_1193 hl (by decide) rfl (fun ls hl => ?_)
          refine lv_aload_n hx hb dL_law_1195 rfl (lv_at hl 4 rfl) ?_
          obtain ⟨x405, hc406, hf⟩ := lt1_e hf
          refine w_ci ⟨hx, hb, hml, hown, hts⟩ hP hK hS (k9_thrown l hX (pbt (ul w 1 z398) f3 g4 c5 y6 o7) hc406) hc_93 (w_recv hP hK (by decide) emb_mm rfl) rfl hl.1 rfl (Nat.le_of_ble_eq_true rfl) dL_law_1196 ⟨Nat.le_trans (show _ ≤ 601024 by omega) (Nat.le_of_ble_eq_true rfl), Nat.le_trans (show _ ≤ 7293034 by omega) (Nat.le_of_ble_eq_true rfl)⟩ (fun H locs hP hS => ?_)
          refine lv_iload hx hb dL_law_1199 (lv_at hl 1 rfl) ?_
          refine lv_icmp_eq (tgt := 1206) hx hb dL_law_1201 (by decide) (fun h407 => ?_) (fun h407 => ?_)
          · rw [if_pos h407] at hf
            refine lv_iload hx hb dL_law_1206 (lv_at hl 1 rfl) ?_
            refine lv_if_ne (tgt := 1223) hx hb dL_law_1208 (by decide) (fun h408 => ?_) (fun h408 => ?_)
            · rw [if_neg h408] at hf
              refine lv_goto (tgt := 1534) hx hb dL_law_1223 (by decide) ?_
              obtain ⟨x409, ex409⟩ : ∃ y : Int32, y = x2 + 6 := ⟨_, rfl⟩
              replace hf := ltn_s ex409 hf
              refine lv_iinc (v := x409) (lv' := [(4, .int x409), (6, .int x401), (5, .int x399), (0, .ref b), (1, .ref (xa X 306)), (2, .ref (xa X 314)), (3, .ref (xa X 323))]) hx hb dL_law_1534 hl (k := 6) rfl (by rw [ex409]; rfl) (by decide) rfl (fun ls hl => ?_)
              refine lv_goto (tgt := 23) hx hb dL_law_1537 (by decide) ?_
              refine W.widen (k := cl + 1) (n := sl + 6) (by omega) (by omega) ?_
              exact ih (cl + 1) (sl + 6) x409 f3 g4 c5 y6 o7 z398 s9 u402 sv11 tx12 ow13 rs14 rn15 nu16 q403  _ _ _ hf (by omega) (by omega) hP hS (lv_sub hl [3, 4, 5, 6, 0] rfl)
            · rw [if_pos h408] at hf
              refine lv_aload_n hx hb dL_law_1211 rfl (lv_at hl 5 rfl) ?_
              refine lv_iconst (v := 0) hx hb dL_law_1212 (by decide) ?_
              obtain ⟨hin410, hf⟩ := ck_e hf
              refine ar_lald (gl := z398) hx hb AR_out law_z hP hK hin410 dL_law_1213 ?_
              refine lv_iload hx hb dL_law_1214 (lv_at hl 0 rfl) ?_
              refine lv_i2l hx hb dL_law_1216 rfl ?_
              refine W.lcmp hx hb dL_law_1217 ?_
              refine lv_if_eq (tgt := 1223) hx hb dL_law_1218 (by decide) (fun h411 => ?_) (fun h411 => ?_)
              · rw [if_pos h411] at hf
                refine lv_goto (tgt := 1534) hx hb dL_law_1223 (by decide) ?_
                obtain ⟨x412, ex412⟩ : ∃ y : Int32, y = x2 + 6 := ⟨_, rfl⟩
                replace hf := ltn_s ex412 hf
                refine lv_iinc (v := x412) (lv' := [(4, .int x412), (6, .int x401), (5, .int x399), (0, .ref b), (1, .ref (xa X 306)), (2, .ref (xa X 314)), (3, .ref (xa X 323))]) hx hb dL_law_1534 hl (k := 6) rfl (by rw [ex412]; rfl) (by decide) rfl (fun ls hl => ?_)
                refine lv_goto (tgt := 23) hx hb dL_law_1537 (by decide) ?_
                refine W.widen (k := cl + 1) (n := sl + 6) (by omega) (by omega) ?_
                exact ih (cl + 1) (sl + 6) x412 f3 g4 c5 y6 o7 z398 s9 u402 sv11 tx12 ow13 rs14 rn15 nu16 q403  _ _ _ hf (by omega) (by omega) hP hS (lv_sub hl [3, 4, 5, 6, 0] rfl)
              · rw [if_neg h411] at hf
                refine lv_iconst (v := 0) hx hb dL_law_1221 (by decide) ?_
                exact absurd (Option.some.inj hf) (by decide)
          · rw [if_neg h407] at hf
            refine lv_iconst (v := 0) hx hb dL_law_1204 (by decide) ?_
            exact absurd (Option.some.inj hf) (by decide)
        rw [if_neg hsw570] at hf
        by_cases hsw571 : ((xs x2.toNatClampNeg) &&& 31) = 18
        · rw [if_pos hsw571] at hf
          refine lv_tableIn (off := 1186) (tgt := 1226) hx hb dL_law_40 (by rw [hsw571]; decide) (by rw [hsw571]; decide) (by rw [hsw571]; rfl) (by decide) ?_
          refine lv_aload_n hx hb dL_law_1226 rfl (lv_at hl 1 rfl) ?_
          refine lv_aload_n hx hb dL_law_1227 rfl (lv_at hl 0 rfl) ?_
          refine lv_iload hx hb dL_law_1228 (lv_at hl 4 rfl) ?_
          refine lv_iconst (v := 1) hx hb dL_law_1230 (by decide) ?_
          refine lv_iadd hx hb dL_law_1231 ?_
          obtain ⟨hin413, hf⟩ := ck_e hf
          refine va_sld hx hb hXs hbl hbA hS hin413 dL_law_1232 ?_
          refine lv_aload_n hx hb dL_law_1233 rfl (lv_at hl 3 rfl) ?_
          obtain ⟨k414, x415, g416, hc417, hf⟩ := ob3_e hf
          obtain ⟨hcd418, hf⟩ := ckp_e hf
          refine va_calli (vx_runSW (As := [.ref (xa X 306), .int (xs (x2 + 1).toNatClampNeg), .ref (xa X 323)]) (rest := []) ⟨hx, hb, hml, hown, hts⟩ (by have hM := kL_heatIn l hst (Y := Y) hX (pmm w s9 u10 sv11 tx12 ow13 rs14 rn15 nu16 q17) (f0 := f3) (g0 := g4) (c0 := c5) (y0 := y6) (o0 := o7) (z := z8) hc417 hcd418; simp only [law_w] at hM; exact hM) hc_153 ⟨w_blindS, w_preS hP hK hG hS⟩ rfl rfl hl.1 rfl (Nat.le_of_ble_eq_true rfl) dL_law_1234 ⟨Nat.le_trans (show _ ≤ 601024 by omega) (Nat.le_of_ble_eq_true rfl), Nat.le_trans (show _ ≤ 7293034 by omega) (Nat.le_of_ble_eq_true rfl)⟩) hS (fun _ _ h => h) (fun _ h => h) (fun r u t H locs ht hvm hrr hB _ _ hS => ?_)
          subst hrr
          have hP : HW X (pmm (pbt (ul w 1 (if k414 = 0 then vp_updL z8 0 x415.toInt64 else z8)) f3 g416 c5 y6 o7) s9 u10 sv11 tx12 ow13 rs14 rn15 nu16 q17) H := by rw [← ht]; exact hB.1
          obtain ⟨z419, ez419⟩ : ∃ y, y = (if k414 = 0 then vp_updL z8 0 x415.toInt64 else z8) := ⟨_, rfl⟩
          rw [← ez419] at hP
          replace hf := ltn_s ez419 hf
          refine lv_topi (fun x420 ex420 => ?_)
          replace hf := ltn_s ex420 hf
          refine lv_istore (lv' := [(5, .int x420), (0, .ref b), (1, .ref (xa X 306)), (2, .ref (xa X 314)), (3, .ref (xa X 323)), (4, .int x2)]) hx hb dL_law_1237 hl (by decide) rfl (fun ls hl => ?_)
          refine lv_aload_n hx hb dL_law_1239 rfl (lv_at hl 3 rfl) ?_
          refine lv_aload_n hx hb dL_law_1240 rfl (lv_at hl 1 rfl) ?_
          refine lv_iload hx hb dL_law_1241 (lv_at hl 5 rfl) ?_
          refine lv_iconst (v := 1) hx hb dL_law_1243 (by decide) ?_
          refine lv_iadd hx hb dL_law_1244 ?_
          obtain ⟨hin421, hf⟩ := ck_e hf
          refine va_sld hx hb hXs hbl hbA hS hin421 dL_law_1245 ?_
          obtain ⟨x422, u423, q424, hc425, hf⟩ := ob3_e hf
          refine w_ci ⟨hx, hb, hml, hown, hts⟩ hP hK hS (k9_heatIn l hX (pbt (ul w 1 z419) f3 g416 c5 y6 o7) hc425) hc_155 (w_recv hP hK (by decide) emb_mm rfl) rfl hl.1 rfl (Nat.le_of_ble_eq_true rfl) dL_law_1246 ⟨Nat.le_trans (show _ ≤ 601024 by omega) (Nat.le_of_ble_eq_true rfl), Nat.le_trans (show _ ≤ 7293034 by omega) (Nat.le_of_ble_eq_true rfl)⟩ (fun H locs hP hS => ?_)
          refine lv_istore (lv' := [(6, .int x422), (5, .int x420), (0, .ref b), (1, .ref (xa X 306)), (2, .ref (xa X 314)), (3, .ref (xa X 323)), (4, .int x2)]) hx hb dL_law_1249 hl (by decide) rfl (fun ls hl => ?_)
          refine lv_aload_n hx hb dL_law_1251 rfl (lv_at hl 4 rfl) ?_
          obtain ⟨x426, hc427, hf⟩ := lt1_e hf
          refine w_ci ⟨hx, hb, hml, hown, hts⟩ hP hK hS (k9_thrown l hX (pbt (ul w 1 z419) f3 g416 c5 y6 o7) hc427) hc_93 (w_recv hP hK (by decide) emb_mm rfl) rfl hl.1 rfl (Nat.le_of_ble_eq_true rfl) dL_law_1252 ⟨Nat.le_trans (show _ ≤ 601024 by omega) (Nat.le_of_ble_eq_true rfl), Nat.le_trans (show _ ≤ 7293034 by omega) (Nat.le_of_ble_eq_true rfl)⟩ (fun H locs hP hS => ?_)
          refine lv_iload hx hb dL_law_1255 (lv_at hl 1 rfl) ?_
          refine lv_icmp_eq (tgt := 1262) hx hb dL_law_1257 (by decide) (fun h428 => ?_) (fun h428 => ?_)
          · rw [if_pos h428] at hf
            refine lv_iload hx hb dL_law_1262 (lv_at hl 1 rfl) ?_
            refine lv_if_ne (tgt := 1279) hx hb dL_law_1264 (by decide) (fun h429 => ?_) (fun h429 => ?_)
            · rw [if_neg h429] at hf
              refine lv_goto (tgt := 1534) hx hb dL_law_1279 (by decide) ?_
              obtain ⟨x430, ex430⟩ : ∃ y : Int32, y = x2 + 6 := ⟨_, rfl⟩
              replace hf := ltn_s ex430 hf
              refine lv_iinc (v := x430) (lv' := [(4, .int x430), (6, .int x422), (5, .int x420), (0, .ref b), (1, .ref (xa X 306)), (2, .ref (xa X 314)), (3, .ref (xa X 323))]) hx hb dL_law_1534 hl (k := 6) rfl (by rw [ex430]; rfl) (by decide) rfl (fun ls hl => ?_)
              refine lv_goto (tgt := 23) hx hb dL_law_1537 (by decide) ?_
              refine W.widen (k := cl + 1) (n := sl + 6) (by omega) (by omega) ?_
              exact ih (cl + 1) (sl + 6) x430 f3 g416 c5 y6 o7 z419 s9 u423 sv11 tx12 ow13 rs14 rn15 nu16 q424  _ _ _ hf (by omega) (by omega) hP hS (lv_sub hl [3, 4, 5, 6, 0] rfl)
            · rw [if_pos h429] at hf
              refine lv_aload_n hx hb dL_law_1267 rfl (lv_at hl 5 rfl) ?_
              refine lv_iconst (v := 0) hx hb dL_law_1268 (by decide) ?_
              obtain ⟨hin431, hf⟩ := ck_e hf
              refine ar_lald (gl := z419) hx hb AR_out law_z hP hK hin431 dL_law_1269 ?_
              refine lv_iload hx hb dL_law_1270 (lv_at hl 0 rfl) ?_
              refine lv_i2l hx hb dL_law_1272 rfl ?_
              refine W.lcmp hx hb dL_law_1273 ?_
              refine lv_if_eq (tgt := 1279) hx hb dL_law_1274 (by decide) (fun h432 => ?_) (fun h432 => ?_)
              · rw [if_pos h432] at hf
                refine lv_goto (tgt := 1534) hx hb dL_law_1279 (by decide) ?_
                obtain ⟨x433, ex433⟩ : ∃ y : Int32, y = x2 + 6 := ⟨_, rfl⟩
                replace hf := ltn_s ex433 hf
                refine lv_iinc (v := x433) (lv' := [(4, .int x433), (6, .int x422), (5, .int x420), (0, .ref b), (1, .ref (xa X 306)), (2, .ref (xa X 314)), (3, .ref (xa X 323))]) hx hb dL_law_1534 hl (k := 6) rfl (by rw [ex433]; rfl) (by decide) rfl (fun ls hl => ?_)
                refine lv_goto (tgt := 23) hx hb dL_law_1537 (by decide) ?_
                refine W.widen (k := cl + 1) (n := sl + 6) (by omega) (by omega) ?_
                exact ih (cl + 1) (sl + 6) x433 f3 g416 c5 y6 o7 z419 s9 u423 sv11 tx12 ow13 rs14 rn15 nu16 q424  _ _ _ hf (by omega) (by omega) hP hS (lv_sub hl [3, 4, 5, 6, 0] rfl)
              · rw [if_neg h432] at hf
                refine lv_iconst (v := 0) hx hb dL_law_1277 (by decide) ?_
                exact absurd (Option.some.inj hf) (by decide)
          · rw [if_neg h428] at hf
            refine lv_iconst (v := 0) hx hb dL_law_1260 (by decide) ?_
            exact absurd (Option.some.inj hf) (by decide)
        rw [if_neg hsw571] at hf
        by_cases hsw572 : ((xs x2.toNatClampNeg) &&& 31) = 19
        · rw [if_pos hsw572] at hf
          refine lv_tableIn (off := 1242) (tgt := 1282) hx hb dL_law_40 (by rw [hsw572]; decide) (by rw [hsw572]; decide) (by rw [hsw572]; rfl) (by decide) ?_
          refine lv_aload_n hx hb dL_law_1282 rfl (lv_at hl 1 rfl) ?_
          refine lv_aload_n hx hb dL_law_1283 rfl (lv_at hl 0 rfl) ?_
          refine lv_iload hx hb dL_law_1284 (lv_at hl 4 rfl) ?_
          refine lv_iconst (v := 1) hx hb dL_law_1286 (by decide) ?_
          refine lv_iadd hx hb dL_law_1287 ?_
          obtain ⟨hin434, hf⟩ := ck_e hf
          refine va_sld hx hb hXs hbl hbA hS hin434 dL_law_1288 ?_
          refine lv_aload_n hx hb dL_law_1289 rfl (lv_at hl 3 rfl) ?_
          obtain ⟨k435, x436, g437, hc438, hf⟩ := ob3_e hf
          obtain ⟨hcd439, hf⟩ := ckp_e hf
          refine va_calli (vx_runSW (As := [.ref (xa X 306), .int (xs (x2 + 1).toNatClampNeg), .ref (xa X 323)]) (rest := []) ⟨hx, hb, hml, hown, hts⟩ (by have hM := kL_spoiledIn l hst (Y := Y) hX (pmm w s9 u10 sv11 tx12 ow13 rs14 rn15 nu16 q17) (f0 := f3) (g0 := g4) (c0 := c5) (y0 := y6) (o0 := o7) (z := z8) hc438 hcd439; simp only [law_w] at hM; exact hM) hc_156 ⟨w_blindS, w_preS hP hK hG hS⟩ rfl rfl hl.1 rfl (Nat.le_of_ble_eq_true rfl) dL_law_1290 ⟨Nat.le_trans (show _ ≤ 601024 by omega) (Nat.le_of_ble_eq_true rfl), Nat.le_trans (show _ ≤ 7293034 by omega) (Nat.le_of_ble_eq_true rfl)⟩) hS (fun _ _ h => h) (fun _ h => h) (fun r u t H locs ht hvm hrr hB _ _ hS => ?_)
          subst hrr
          have hP : HW X (pmm (pbt (ul w 1 (if k435 = 0 then vp_updL z8 0 x436.toInt64 else z8)) f3 g437 c5 y6 o7) s9 u10 sv11 tx12 ow13 rs14 rn15 nu16 q17) H := by rw [← ht]; exact hB.1
          obtain ⟨z440, ez440⟩ : ∃ y, y = (if k435 = 0 then vp_updL z8 0 x436.toInt64 else z8) := ⟨_, rfl⟩
          rw [← ez440] at hP
          replace hf := ltn_s ez440 hf
          refine lv_topi (fun x441 ex441 => ?_)
          replace hf := ltn_s ex441 hf
          refine lv_istore (lv' := [(5, .int x441), (0, .ref b), (1, .ref (xa X 306)), (2, .ref (xa X 314)), (3, .ref (xa X 323)), (4, .int x2)]) hx hb dL_law_1293 hl (by decide) rfl (fun ls hl => ?_)
          refine lv_aload_n hx hb dL_law_1295 rfl (lv_at hl 3 rfl) ?_
          refine lv_aload_n hx hb dL_law_1296 rfl (lv_at hl 1 rfl) ?_
          refine lv_iload hx hb dL_law_1297 (lv_at hl 5 rfl) ?_
          refine lv_iconst (v := 1) hx hb dL_law_1299 (by decide) ?_
          refine lv_iadd hx hb dL_law_1300 ?_
          obtain ⟨hin442, hf⟩ := ck_e hf
          refine va_sld hx hb hXs hbl hbA hS hin442 dL_law_1301 ?_
          obtain ⟨x443, u444, q445, hc446, hf⟩ := ob3_e hf
          refine w_ci ⟨hx, hb, hml, hown, hts⟩ hP hK hS (k9_spoiledIn l hX (pbt (ul w 1 z440) f3 g437 c5 y6 o7) hc446) hc_158 (w_recv hP hK (by decide) emb_mm rfl) rfl hl.1 rfl (Nat.le_of_ble_eq_true rfl) dL_law_1302 ⟨Nat.le_trans (show _ ≤ 601024 by omega) (Nat.le_of_ble_eq_true rfl), Nat.le_trans (show _ ≤ 7293034 by omega) (Nat.le_of_ble_eq_true rfl)⟩ (fun H locs hP hS => ?_)
          refine lv_istore (lv' := [(6, .int x443), (5, .int x441), (0, .ref b), (1, .ref (xa X 306)), (2, .ref (xa X 314)), (3, .ref (xa X 323)), (4, .int x2)]) hx hb dL_law_1305 hl (by decide) rfl (fun ls hl => ?_)
          refine lv_aload_n hx hb dL_law_1307 rfl (lv_at hl 4 rfl) ?_
          obtain ⟨x447, hc448, hf⟩ := lt1_e hf
          refine w_ci ⟨hx, hb, hml, hown, hts⟩ hP hK hS (k9_thrown l hX (pbt (ul w 1 z440) f3 g437 c5 y6 o7) hc448) hc_93 (w_recv hP hK (by decide) emb_mm rfl) rfl hl.1 rfl (Nat.le_of_ble_eq_true rfl) dL_law_1308 ⟨Nat.le_trans (show _ ≤ 601024 by omega) (Nat.le_of_ble_eq_true rfl), Nat.le_trans (show _ ≤ 7293034 by omega) (Nat.le_of_ble_eq_true rfl)⟩ (fun H locs hP hS => ?_)
          refine lv_iload hx hb dL_law_1311 (lv_at hl 1 rfl) ?_
          refine lv_icmp_eq (tgt := 1318) hx hb dL_law_1313 (by decide) (fun h449 => ?_) (fun h449 => ?_)
          · rw [if_pos h449] at hf
            refine lv_iload hx hb dL_law_1318 (lv_at hl 1 rfl) ?_
            refine lv_if_ne (tgt := 1335) hx hb dL_law_1320 (by decide) (fun h450 => ?_) (fun h450 => ?_)
            · rw [if_neg h450] at hf
              refine lv_goto (tgt := 1534) hx hb dL_law_1335 (by decide) ?_
              obtain ⟨x451, ex451⟩ : ∃ y : Int32, y = x2 + 6 := ⟨_, rfl⟩
              replace hf := ltn_s ex451 hf
              refine lv_iinc (v := x451) (lv' := [(4, .int x451), (6, .int x443), (5, .int x441), (0, .ref b), (1, .ref (xa X 306)), (2, .ref (xa X 314)), (3, .ref (xa X 323))]) hx hb dL_law_1534 hl (k := 6) rfl (by rw [ex451]; rfl) (by decide) rfl (fun ls hl => ?_)
              refine lv_goto (tgt := 23) hx hb dL_law_1537 (by decide) ?_
              refine W.widen (k := cl + 1) (n := sl + 6) (by omega) (by omega) ?_
              exact ih (cl + 1) (sl + 6) x451 f3 g437 c5 y6 o7 z440 s9 u444 sv11 tx12 ow13 rs14 rn15 nu16 q445  _ _ _ hf (by omega) (by omega) hP hS (lv_sub hl [3, 4, 5, 6, 0] rfl)
            · rw [if_pos h450] at hf
              refine lv_aload_n hx hb dL_law_1323 rfl (lv_at hl 5 rfl) ?_
              refine lv_iconst (v := 0) hx hb dL_law_1324 (by decide) ?_
              obtain ⟨hin452, hf⟩ := ck_e hf
              refine ar_lald (gl := z440) hx hb AR_out law_z hP hK hin452 dL_law_1325 ?_
              refine lv_iload hx hb dL_law_1326 (lv_at hl 0 rfl) ?_
              refine lv_i2l hx hb dL_law_1328 rfl ?_
              refine W.lcmp hx hb dL_law_1329 ?_
              refine lv_if_eq (tgt := 1335) hx hb dL_law_1330 (by decide) (fun h453 => ?_) (fun h453 => ?_)
              · rw [if_pos h453] at hf
                refine lv_goto (tgt := 1534) hx hb dL_law_1335 (by decide) ?_
                obtain ⟨x454, ex454⟩ : ∃ y : Int32, y = x2 + 6 := ⟨_, rfl⟩
                replace hf := ltn_s ex454 hf
                refine lv_iinc (v := x454) (lv' := [(4, .int x454), (6, .int x443), (5, .int x441), (0, .ref b), (1, .ref (xa X 306)), (2, .ref (xa X 314)), (3, .ref (xa X 323))]) hx hb dL_law_1534 hl (k := 6) rfl (by rw [ex454]; rfl) (by decide) rfl (fun ls hl => ?_)
                refine lv_goto (tgt := 23) hx hb dL_law_1537 (by decide) ?_
                refine W.widen (k := cl + 1) (n := sl + 6) (by omega) (by omega) ?_
                exact ih (cl + 1) (sl + 6) x454 f3 g437 c5 y6 o7 z440 s9 u444 sv11 tx12 ow13 rs14 rn15 nu16 q445  _ _ _ hf (by omega) (by omega) hP hS (lv_sub hl [3, 4, 5, 6, 0] rfl)
              · rw [if_neg h453] at hf
                refine lv_iconst (v := 0) hx hb dL_law_1333 (by decide) ?_
                exact absurd (Option.some.inj hf) (by decide)
          · rw [if_neg h449] at hf
            refine lv_iconst (v := 0) hx hb dL_law_1316 (by decide) ?_
            exact absurd (Option.some.inj hf) (by decide)
        rw [if_neg hsw572] at hf
        by_cases hsw573 : ((xs x2.toNatClampNeg) &&& 31) = 20
        · rw [if_pos hsw573] at hf
          refine lv_tableIn (off := 1298) (tgt := 1338) hx hb dL_law_40 (by rw [hsw573]; decide) (by rw [hsw573]; decide) (by rw [hsw573]; rfl) (by decide) ?_
          refine lv_aload_n hx hb dL_law_1338 rfl (lv_at hl 1 rfl) ?_
          refine lv_aload_n hx hb dL_law_1339 rfl (lv_at hl 0 rfl) ?_
          refine lv_iload hx hb dL_law_1340 (lv_at hl 4 rfl) ?_
          refine lv_iconst (v := 1) hx hb dL_law_1342 (by decide) ?_
          refine lv_iadd hx hb dL_law_1343 ?_
          obtain ⟨hin455, hf⟩ := ck_e hf
          refine va_sld hx hb hXs hbl hbA hS hin455 dL_law_1344 ?_
          refine lv_aload_n hx hb dL_law_1345 rfl (lv_at hl 3 rfl) ?_
          obtain ⟨k456, x457, hc458, hf⟩ := ob2_e hf
          obtain ⟨hcd459, hf⟩ := ckp_e hf
          refine va_calli (vx_runSW (As := [.ref (xa X 306), .int (xs (x2 + 1).toNatClampNeg), .ref (xa X 323)]) (rest := []) ⟨hx, hb, hml, hown, hts⟩ (by have hM := kL_owes l hst (Y := Y) hX (pmm w s9 u10 sv11 tx12 ow13 rs14 rn15 nu16 q17) (f0 := f3) (g0 := g4) (c0 := c5) (y0 := y6) (o0 := o7) (z := z8) hc458 hcd459; simp only [law_w] at hM; exact hM) hc_159 ⟨w_blindS, w_preS hP hK hG hS⟩ rfl rfl hl.1 rfl (Nat.le_of_ble_eq_true rfl) dL_law_1346 ⟨Nat.le_trans (show _ ≤ 601024 by omega) (Nat.le_of_ble_eq_true rfl), Nat.le_trans (show _ ≤ 7293034 by omega) (Nat.le_of_ble_eq_true rfl)⟩) hS (fun _ _ h => h) (fun _ h => h) (fun r u t H locs ht hvm hrr hB _ _ hS => ?_)
          subst hrr
          have hP : HW X (pmm (pbt (ul w 1 (if k456 = 0 then vp_updL z8 0 x457.toInt64 else z8)) f3 g4 c5 y6 o7) s9 u10 sv11 tx12 ow13 rs14 rn15 nu16 q17) H := by rw [← ht]; exact hB.1
          obtain ⟨z460, ez460⟩ : ∃ y, y = (if k456 = 0 then vp_updL z8 0 x457.toInt64 else z8) := ⟨_, rfl⟩
          rw [← ez460] at hP
          replace hf := ltn_s ez460 hf
          refine lv_topi (fun x461 ex461 => ?_)
          replace hf := ltn_s ex461 hf
          refine lv_istore (lv' := [(5, .int x461), (0, .ref b), (1, .ref (xa X 306)), (2, .ref (xa X 314)), (3, .ref (xa X 323)), (4, .int x2)]) hx hb dL_law_1349 hl (by decide) rfl (fun ls hl => ?_)
          refine lv_aload_n hx hb dL_law_1351 rfl (lv_at hl 3 rfl) ?_
          refine lv_aload_n hx hb dL_law_1352 rfl (lv_at hl 1 rfl) ?_
          refine lv_iload hx hb dL_law_1353 (lv_at hl 5 rfl) ?_
          refine lv_iconst (v := 1) hx hb dL_law_1355 (by decide) ?_
          refine lv_iadd hx hb dL_law_1356 ?_
          obtain ⟨hin462, hf⟩ := ck_e hf
          refine va_sld hx hb hXs hbl hbA hS hin462 dL_law_1357 ?_
          obtain ⟨x463, ow464, rs465, q466, hc467, hf⟩ := ob4_e hf
          refine w_ci ⟨hx, hb, hml, hown, hts⟩ hP hK hS (k9_owes l hX (pbt (ul w 1 z460) f3 g4 c5 y6 o7) hc467) hc_161 (w_recv hP hK (by decide) emb_mm rfl) rfl hl.1 rfl (Nat.le_of_ble_eq_true rfl) dL_law_1358 ⟨Nat.le_trans (show _ ≤ 601024 by omega) (Nat.le_of_ble_eq_true rfl), Nat.le_trans (show _ ≤ 7293034 by omega) (Nat.le_of_ble_eq_true rfl)⟩ (fun H locs hP hS => ?_)
          refine lv_istore (lv' := [(6, .int x463), (5, .int x461), (0, .ref b), (1, .ref (xa X 306)), (2, .ref (xa X 314)), (3, .ref (xa X 323)), (4, .int x2)]) hx hb dL_law_1361 hl (by decide) rfl (fun ls hl => ?_)
          refine lv_aload_n hx hb dL_law_1363 rfl (lv_at hl 4 rfl) ?_
          obtain ⟨x468, hc469, hf⟩ := lt1_e hf
          refine w_ci ⟨hx, hb, hml, hown, hts⟩ hP hK hS (k9_thrown l hX (pbt (ul w 1 z460) f3 g4 c5 y6 o7) hc469) hc_93 (w_recv hP hK (by decide) emb_mm rfl) rfl hl.1 rfl (Nat.le_of_ble_eq_true rfl) dL_law_1364 ⟨Nat.le_trans (show _ ≤ 601024 by omega) (Nat.le_of_ble_eq_true rfl), Nat.le_trans (show _ ≤ 7293034 by omega) (Nat.le_of_ble_eq_true rfl)⟩ (fun H locs hP hS => ?_)
          refine lv_iload hx hb dL_law_1367 (lv_at hl 1 rfl) ?_
          refine lv_icmp_eq (tgt := 1374) hx hb dL_law_1369 (by decide) (fun h470 => ?_) (fun h470 => ?_)
          · rw [if_pos h470] at hf
            refine lv_iload hx hb dL_law_1374 (lv_at hl 1 rfl) ?_
            refine lv_if_ne (tgt := 1391) hx hb dL_law_1376 (by decide) (fun h471 => ?_) (fun h471 => ?_)
            · rw [if_neg h471] at hf
              refine lv_goto (tgt := 1534) hx hb dL_law_1391 (by decide) ?_
              obtain ⟨x472, ex472⟩ : ∃ y : Int32, y = x2 + 6 := ⟨_, rfl⟩
              replace hf := ltn_s ex472 hf
              refine lv_iinc (v := x472) (lv' := [(4, .int x472), (6, .int x463), (5, .int x461), (0, .ref b), (1, .ref (xa X 306)), (2, .ref (xa X 314)), (3, .ref (xa X 323))]) hx hb dL_law_1534 hl (k := 6) rfl (by rw [ex472]; rfl) (by decide) rfl (fun ls hl => ?_)
              refine lv_goto (tgt := 23) hx hb dL_law_1537 (by decide) ?_
              refine W.widen (k := cl + 1) (n := sl + 6) (by omega) (by omega) ?_
              exact ih (cl + 1) (sl + 6) x472 f3 g4 c5 y6 o7 z460 s9 u10 sv11 tx12 ow464 rs465 rn15 nu16 q466  _ _ _ hf (by omega) (by omega) hP hS (lv_sub hl [3, 4, 5, 6, 0] rfl)
            · rw [if_pos h471] at hf
              refine lv_aload_n hx hb dL_law_1379 rfl (lv_at hl 5 rfl) ?_
              refine lv_iconst (v := 0) hx hb dL_law_1380 (by decide) ?_
              obtain ⟨hin473, hf⟩ := ck_e hf
              refine ar_lald (gl := z460) hx hb AR_out law_z hP hK hin473 dL_law_1381 ?_
              refine lv_iload hx hb dL_law_1382 (lv_at hl 0 rfl) ?_
              refine lv_i2l hx hb dL_law_1384 rfl ?_
              refine W.lcmp hx hb dL_law_1385 ?_
              refine lv_if_eq (tgt := 1391) hx hb dL_law_1386 (by decide) (fun h474 => ?_) (fun h474 => ?_)
              · rw [if_pos h474] at hf
                refine lv_goto (tgt := 1534) hx hb dL_law_1391 (by decide) ?_
                obtain ⟨x475, ex475⟩ : ∃ y : Int32, y = x2 + 6 := ⟨_, rfl⟩
                replace hf := ltn_s ex475 hf
                refine lv_iinc (v := x475) (lv' := [(4, .int x475), (6, .int x463), (5, .int x461), (0, .ref b), (1, .ref (xa X 306)), (2, .ref (xa X 314)), (3, .ref (xa X 323))]) hx hb dL_law_1534 hl (k := 6) rfl (by rw [ex475]; rfl) (by decide) rfl (fun ls hl => ?_)
                refine lv_goto (tgt := 23) hx hb dL_law_1537 (by decide) ?_
                refine W.widen (k := cl + 1) (n := sl + 6) (by omega) (by omega) ?_
                exact ih (cl + 1) (sl + 6) x475 f3 g4 c5 y6 o7 z460 s9 u10 sv11 tx12 ow464 rs465 rn15 nu16 q466  _ _ _ hf (by omega) (by omega) hP hS (lv_sub hl [3, 4, 5, 6, 0] rfl)
              · rw [if_neg h474] at hf
                refine lv_iconst (v := 0) hx hb dL_law_1389 (by decide) ?_
                exact absurd (Option.some.inj hf) (by decide)
          · rw [if_neg h470] at hf
            refine lv_iconst (v := 0) hx hb dL_law_1372 (by decide) ?_
            exact absurd (Option.some.inj hf) (by decide)
        rw [if_neg hsw573] at hf
        by_cases hsw574 : ((xs x2.toNatClampNeg) &&& 31) = 21
        · rw [if_pos hsw574] at hf
          refine lv_tableIn (off := 1354) (tgt := 1394) hx hb dL_law_40 (by rw [hsw574]; decide) (by rw [hsw574]; decide) (by rw [hsw574]; rfl) (by decide) ?_
          refine lv_aload_n hx hb dL_law_1394 rfl (lv_at hl 1 rfl) ?_
          refine lv_aload_n hx hb dL_law_1395 rfl (lv_at hl 0 rfl) ?_
          refine lv_iload hx hb dL_law_1396 (lv_at hl 4 rfl) ?_
          refine lv_iconst (v := 1) hx hb dL_law_1398 (by decide) ?_
          refine lv_iadd hx hb dL_law_1399 ?_
          obtain ⟨hin476, hf⟩ := ck_e hf
          refine va_sld hx hb hXs hbl hbA hS hin476 dL_law_1400 ?_
          refine lv_aload_n hx hb dL_law_1401 rfl (lv_at hl 3 rfl) ?_
          obtain ⟨k477, x478, c479, hc480, hf⟩ := ob3_e hf
          obtain ⟨hcd481, hf⟩ := ckp_e hf
          refine va_calli (vx_runSW (As := [.ref (xa X 306), .int (xs (x2 + 1).toNatClampNeg), .ref (xa X 323)]) (rest := []) ⟨hx, hb, hml, hown, hts⟩ (by have hM := kL_type l hst (Y := Y) hX (pmm w s9 u10 sv11 tx12 ow13 rs14 rn15 nu16 q17) (f0 := f3) (g0 := g4) (c0 := c5) (y0 := y6) (o0 := o7) (z := z8) hc480 hcd481; simp only [law_w] at hM; exact hM) hc_162 ⟨w_blindS, w_preS hP hK hG hS⟩ rfl rfl hl.1 rfl (Nat.le_of_ble_eq_true rfl) dL_law_1402 ⟨Nat.le_trans (show _ ≤ 601024 by omega) (Nat.le_of_ble_eq_true rfl), Nat.le_trans (show _ ≤ 7293034 by omega) (Nat.le_of_ble_eq_true rfl)⟩) hS (fun _ _ h => h) (fun _ h => h) (fun r u t H locs ht hvm hrr hB _ _ hS => ?_)
          subst hrr
          have hP : HW X (pmm (pbt (ul w 1 (if k477 = 0 then vp_updL z8 0 x478.toInt64 else z8)) f3 g4 c479 y6 o7) s9 u10 sv11 tx12 ow13 rs14 rn15 nu16 q17) H := by rw [← ht]; exact hB.1
          obtain ⟨z482, ez482⟩ : ∃ y, y = (if k477 = 0 then vp_updL z8 0 x478.toInt64 else z8) := ⟨_, rfl⟩
          rw [← ez482] at hP
          replace hf := ltn_s ez482 hf
          refine lv_topi (fun x483 ex483 => ?_)
          replace hf := ltn_s ex483 hf
          refine lv_istore (lv' := [(5, .int x483), (0, .ref b), (1, .ref (xa X 306)), (2, .ref (xa X 314)), (3, .ref (xa X 323)), (4, .int x2)]) hx hb dL_law_1405 hl (by decide) rfl (fun ls hl => ?_)
          refine lv_aload_n hx hb dL_law_1407 rfl (lv_at hl 3 rfl) ?_
          refine lv_aload_n hx hb dL_law_1408 rfl (lv_at hl 1 rfl) ?_
          refine lv_iload hx hb dL_law_1409 (lv_at hl 5 rfl) ?_
          refine lv_iconst (v := 1) hx hb dL_law_1411 (by decide) ?_
          refine lv_iadd hx hb dL_law_1412 ?_
          obtain ⟨hin484, hf⟩ := ck_e hf
          refine va_sld hx hb hXs hbl hbA hS hin484 dL_law_1413 ?_
          obtain ⟨x485, tx486, q487, hc488, hf⟩ := ob3_e hf
          refine w_ci ⟨hx, hb, hml, hown, hts⟩ hP hK hS (k9_type l hX (pbt (ul w 1 z482) f3 g4 c479 y6 o7) hc488) hc_164 (w_recv hP hK (by decide) emb_mm rfl) rfl hl.1 rfl (Nat.le_of_ble_eq_true rfl) dL_law_1414 ⟨Nat.le_trans (show _ ≤ 601024 by omega) (Nat.le_of_ble_eq_true rfl), Nat.le_trans (show _ ≤ 7293034 by omega) (Nat.le_of_ble_eq_true rfl)⟩ (fun H locs hP hS => ?_)
          refine lv_istore (lv' := [(6, .int x485), (5, .int x483), (0, .ref b), (1, .ref (xa X 306)), (2, .ref (xa X 314)), (3, .ref (xa X 323)), (4, .int x2)]) hx hb dL_law_1417 hl (by decide) rfl (fun ls hl => ?_)
          refine lv_aload_n hx hb dL_law_1419 rfl (lv_at hl 4 rfl) ?_
          obtain ⟨x489, hc490, hf⟩ := lt1_e hf
          refine w_ci ⟨hx, hb, hml, hown, hts⟩ hP hK hS (k9_thrown l hX (pbt (ul w 1 z482) f3 g4 c479 y6 o7) hc490) hc_93 (w_recv hP hK (by decide) emb_mm rfl) rfl hl.1 rfl (Nat.le_of_ble_eq_true rfl) dL_law_1420 ⟨Nat.le_trans (show _ ≤ 601024 by omega) (Nat.le_of_ble_eq_true rfl), Nat.le_trans (show _ ≤ 7293034 by omega) (Nat.le_of_ble_eq_true rfl)⟩ (fun H locs hP hS => ?_)
          refine lv_iload hx hb dL_law_1423 (lv_at hl 1 rfl) ?_
          refine lv_icmp_eq (tgt := 1430) hx hb dL_law_1425 (by decide) (fun h491 => ?_) (fun h491 => ?_)
          · rw [if_pos h491] at hf
            refine lv_iload hx hb dL_law_1430 (lv_at hl 1 rfl) ?_
            refine lv_if_ne (tgt := 1447) hx hb dL_law_1432 (by decide) (fun h492 => ?_) (fun h492 => ?_)
            · rw [if_neg h492] at hf
              refine lv_goto (tgt := 1534) hx hb dL_law_1447 (by decide) ?_
              obtain ⟨x493, ex493⟩ : ∃ y : Int32, y = x2 + 6 := ⟨_, rfl⟩
              replace hf := ltn_s ex493 hf
              refine lv_iinc (v := x493) (lv' := [(4, .int x493), (6, .int x485), (5, .int x483), (0, .ref b), (1, .ref (xa X 306)), (2, .ref (xa X 314)), (3, .ref (xa X 323))]) hx hb dL_law_1534 hl (k := 6) rfl (by rw [ex493]; rfl) (by decide) rfl (fun ls hl => ?_)
              refine lv_goto (tgt := 23) hx hb dL_law_1537 (by decide) ?_
              refine W.widen (k := cl + 1) (n := sl + 6) (by omega) (by omega) ?_
              exact ih (cl + 1) (sl + 6) x493 f3 g4 c479 y6 o7 z482 s9 u10 sv11 tx486 ow13 rs14 rn15 nu16 q487  _ _ _ hf (by omega) (by omega) hP hS (lv_sub hl [3, 4, 5, 6, 0] rfl)
            · rw [if_pos h492] at hf
              refine lv_aload_n hx hb dL_law_1435 rfl (lv_at hl 5 rfl) ?_
              refine lv_iconst (v := 0) hx hb dL_law_1436 (by decide) ?_
              obtain ⟨hin494, hf⟩ := ck_e hf
              refine ar_lald (gl := z482) hx hb AR_out law_z hP hK hin494 dL_law_1437 ?_
              refine lv_iload hx hb dL_law_1438 (lv_at hl 0 rfl) ?_
              refine lv_i2l hx hb dL_law_1440 rfl ?_
              refine W.lcmp hx hb dL_law_1441 ?_
              refine lv_if_eq (tgt := 1447) hx hb dL_law_1442 (by decide) (fun h495 => ?_) (fun h495 => ?_)
              · rw [if_pos h495] at hf
                refine lv_goto (tgt := 1534) hx hb dL_law_1447 (by decide) ?_
                obtain ⟨x496, ex496⟩ : ∃ y : Int32, y = x2 + 6 := ⟨_, rfl⟩
                replace hf := ltn_s ex496 hf
                refine lv_iinc (v := x496) (lv' := [(4, .int x496), (6, .int x485), (5, .int x483), (0, .ref b), (1, .ref (xa X 306)), (2, .ref (xa X 314)), (3, .ref (xa X 323))]) hx hb dL_law_1534 hl (k := 6) rfl (by rw [ex496]; rfl) (by decide) rfl (fun ls hl => ?_)
                refine lv_goto (tgt := 23) hx hb dL_law_1537 (by decide) ?_
                refine W.widen (k := cl + 1) (n := sl + 6) (by omega) (by omega) ?_
                exact ih (cl + 1) (sl + 6) x496 f3 g4 c479 y6 o7 z482 s9 u10 sv11 tx486 ow13 rs14 rn15 nu16 q487  _ _ _ hf (by omega) (by omega) hP hS (lv_sub hl [3, 4, 5, 6, 0] rfl)
              · rw [if_neg h495] at hf
                refine lv_iconst (v := 0) hx hb dL_law_1445 (by decide) ?_
                exact absurd (Option.some.inj hf) (by decide)
          · rw [if_neg h491] at hf
            refine lv_iconst (v := 0) hx hb dL_law_1428 (by decide) ?_
            exact absurd (Option.some.inj hf) (by decide)
        rw [if_neg hsw574] at hf
        by_cases hsw575 : ((xs x2.toNatClampNeg) &&& 31) = 22
        · rw [if_pos hsw575] at hf
          refine lv_tableIn (off := 1410) (tgt := 1450) hx hb dL_law_40 (by rw [hsw575]; decide) (by rw [hsw575]; decide) (by rw [hsw575]; rfl) (by decide) ?_
          refine lv_aload_n hx hb dL_law_1450 rfl (lv_at hl 1 rfl) ?_
          obtain ⟨x497, c498, hc499, hf⟩ := lt2_e hf
          refine w_ci ⟨hx, hb, hml, hown, hts⟩ hP hK hS (show cI l yX8_clearCommands wsX8_clearCommands rmX8_clearCommands X s.heap.size [.ref (xa X 306)] (pmm (pbt (ul w 1 z8) f3 g4 c5 y6 o7) s9 u10 sv11 tx12 ow13 rs14 rn15 nu16 q17) x497 (pmm (pbt (ul w 1 z8) f3 g4 c498 y6 o7) s9 u10 sv11 tx12 ow13 rs14 rn15 nu16 q17) from by have hM := k8_clearCommands l hX (ul (pmm w s9 u10 sv11 tx12 ow13 rs14 rn15 nu16 q17) 1 z8) (f0 := f3) (g0 := g4) (c0 := c5) (y0 := y6) (o0 := o7) hc499; simp only [law_w] at hM; exact hM) hc_165 (w_recv hP hK (by decide) emb_bt rfl) rfl hl.1 rfl (Nat.le_of_ble_eq_true rfl) dL_law_1451 ⟨Nat.le_trans (show _ ≤ 601024 by omega) (Nat.le_of_ble_eq_true rfl), Nat.le_trans (show _ ≤ 7293034 by omega) (Nat.le_of_ble_eq_true rfl)⟩ (fun H locs hP hS => ?_)
          refine lv_aload_n hx hb dL_law_1454 rfl (lv_at hl 2 rfl) ?_
          obtain ⟨x500, q501, hc502, hf⟩ := lt2_e hf
          refine w_ci ⟨hx, hb, hml, hown, hts⟩ hP hK hS (k9_clearCommands l hX (pbt (ul w 1 z8) f3 g4 c498 y6 o7) hc502) hc_168 (w_recv hP hK (by decide) emb_mm rfl) rfl hl.1 rfl (Nat.le_of_ble_eq_true rfl) dL_law_1455 ⟨Nat.le_trans (show _ ≤ 601024 by omega) (Nat.le_of_ble_eq_true rfl), Nat.le_trans (show _ ≤ 7293034 by omega) (Nat.le_of_ble_eq_true rfl)⟩ (fun H locs hP hS => ?_)
          refine lv_icmp_eq (tgt := 1534) hx hb dL_law_1458 (by decide) (fun h503 => ?_) (fun h503 => ?_)
          · rw [if_pos h503] at hf
            obtain ⟨x504, ex504⟩ : ∃ y : Int32, y = x2 + 6 := ⟨_, rfl⟩
            replace hf := ltn_s ex504 hf
            refine lv_iinc (v := x504) (lv' := [(4, .int x504), (0, .ref b), (1, .ref (xa X 306)), (2, .ref (xa X 314)), (3, .ref (xa X 323))]) hx hb dL_law_1534 hl (k := 4) rfl (by rw [ex504]; rfl) (by decide) rfl (fun ls hl => ?_)
            refine lv_goto (tgt := 23) hx hb dL_law_1537 (by decide) ?_
            refine W.widen (k := cl + 1) (n := sl + 6) (by omega) (by omega) ?_
            exact ih (cl + 1) (sl + 6) x504 f3 g4 c498 y6 o7 z8 s9 u10 sv11 tx12 ow13 rs14 rn15 nu16 q501  _ _ _ hf (by omega) (by omega) hP hS (lv_sub hl [1, 2, 3, 4, 0] rfl)
          · rw [if_neg h503] at hf
            refine lv_iconst (v := 0) hx hb dL_law_1461 (by decide) ?_
            exact absurd (Option.some.inj hf) (by decide)
        rw [if_neg hsw575] at hf
        by_cases hsw576 : ((xs x2.toNatClampNeg) &&& 31) = 23
        · rw [if_pos hsw576] at hf
          refine lv_tableIn (off := 1423) (tgt := 1463) hx hb dL_law_40 (by rw [hsw576]; decide) (by rw [hsw576]; decide) (by rw [hsw576]; rfl) (by decide) ?_
          refine lv_aload_n hx hb dL_law_1463 rfl (lv_at hl 1 rfl) ?_
          obtain ⟨x505, f506, c507, y508, o509, hc510, hf⟩ := ob5_e hf
          refine w_ciS ⟨hx, hb, hml, hown, hts⟩ hP hK hG hS (show cIS l yX8_runCommands wsX8_runCommands rmX8_runCommands X Y s.heap.size [.ref (xa X 306)] (pmm (pbt (ul w 1 z8) f3 g4 c5 y6 o7) s9 u10 sv11 tx12 ow13 rs14 rn15 nu16 q17) x505 (pmm (pbt (ul w 1 z8) f506 g4 c507 y508 o509) s9 u10 sv11 tx12 ow13 rs14 rn15 nu16 q17) from by have hM := k8_runCommands l (Y := Y) hX (ul (pmm w s9 u10 sv11 tx12 ow13 rs14 rn15 nu16 q17) 1 z8) (f0 := f3) (g0 := g4) (c0 := c5) (y0 := y6) (o0 := o7) hc510; simp only [law_w] at hM; exact hM) hc_169 (w_recv hP hK (by decide) emb_bt rfl) rfl hl.1 rfl (Nat.le_of_ble_eq_true rfl) dL_law_1464 ⟨Nat.le_trans (show _ ≤ 601024 by omega) (Nat.le_of_ble_eq_true rfl), Nat.le_trans (show _ ≤ 7293034 by omega) (Nat.le_of_ble_eq_true rfl)⟩ (fun H locs hP hS => ?_)
          refine lv_aload_n hx hb dL_law_1467 rfl (lv_at hl 2 rfl) ?_
          obtain ⟨x511, s512, sv513, ow514, rs515, nu516, q517, hc518, hf⟩ := ob7_e hf
          refine w_ci ⟨hx, hb, hml, hown, hts⟩ hP hK hS (k9_runCommands l hX (pbt (ul w 1 z8) f506 g4 c507 y508 o509) hc518) hc_172 (w_recv hP hK (by decide) emb_mm rfl) rfl hl.1 rfl (Nat.le_of_ble_eq_true rfl) dL_law_1468 ⟨Nat.le_trans (show _ ≤ 601024 by omega) (Nat.le_of_ble_eq_true rfl), Nat.le_trans (show _ ≤ 7293034 by omega) (Nat.le_of_ble_eq_true rfl)⟩ (fun H locs hP hS => ?_)
          refine lv_icmp_eq (tgt := 1534) hx hb dL_law_1471 (by decide) (fun h519 => ?_) (fun h519 => ?_)
          · rw [if_pos h519] at hf
            obtain ⟨x520, ex520⟩ : ∃ y : Int32, y = x2 + 6 := ⟨_, rfl⟩
            replace hf := ltn_s ex520 hf
            refine lv_iinc (v := x520) (lv' := [(4, .int x520), (0, .ref b), (1, .ref (xa X 306)), (2, .ref (xa X 314)), (3, .ref (xa X 323))]) hx hb dL_law_1534 hl (k := 4) rfl (by rw [ex520]; rfl) (by decide) rfl (fun ls hl => ?_)
            refine lv_goto (tgt := 23) hx hb dL_law_1537 (by decide) ?_
            refine W.widen (k := cl + 1) (n := sl + 6) (by omega) (by omega) ?_
            exact ih (cl + 1) (sl + 6) x520 f506 g4 c507 y508 o509 z8 s512 u10 sv513 tx12 ow514 rs515 rn15 nu516 q517  _ _ _ hf (by omega) (by omega) hP hS (lv_sub hl [1, 2, 3, 4, 0] rfl)
          · rw [if_neg h519] at hf
            refine lv_iconst (v := 0) hx hb dL_law_1474 (by decide) ?_
            exact absurd (Option.some.inj hf) (by decide)
        rw [if_neg hsw576] at hf
        by_cases hsw577 : ((xs x2.toNatClampNeg) &&& 31) = 24
        · rw [if_pos hsw577] at hf
          refine lv_tableIn (off := 1436) (tgt := 1476) hx hb dL_law_40 (by rw [hsw577]; decide) (by rw [hsw577]; decide) (by rw [hsw577]; rfl) (by decide) ?_
          refine lv_aload_n hx hb dL_law_1476 rfl (lv_at hl 1 rfl) ?_
          refine lv_aload_n hx hb dL_law_1477 rfl (lv_at hl 3 rfl) ?_
          obtain ⟨k521, x522, f523, o524, hc525, hf⟩ := ob4_e hf
          obtain ⟨hcd526, hf⟩ := ckp_e hf
          refine va_calli (vx_runSW (As := [.ref (xa X 306), .ref (xa X 323)]) (rest := []) ⟨hx, hb, hml, hown, hts⟩ (by have hM := kL_undo l hst (Y := Y) hX (pmm w s9 u10 sv11 tx12 ow13 rs14 rn15 nu16 q17) (f0 := f3) (g0 := g4) (c0 := c5) (y0 := y6) (o0 := o7) (z := z8) hc525 hcd526; simp only [law_w] at hM; exact hM) hc_173 ⟨w_blindS, w_preS hP hK hG hS⟩ rfl rfl hl.1 rfl (Nat.le_of_ble_eq_true rfl) dL_law_1478 ⟨Nat.le_trans (show _ ≤ 601024 by omega) (Nat.le_of_ble_eq_true rfl), Nat.le_trans (show _ ≤ 7293034 by omega) (Nat.le_of_ble_eq_true rfl)⟩) hS (fun _ _ h => h) (fun _ h => h) (fun r u t H locs ht hvm hrr hB _ _ hS => ?_)
          subst hrr
          have hP : HW X (pmm (pbt (ul w 1 (if k521 = 0 then vp_updL z8 0 x522.toInt64 else z8)) f523 g4 c5 y6 o524) s9 u10 sv11 tx12 ow13 rs14 rn15 nu16 q17) H := by rw [← ht]; exact hB.1
          obtain ⟨z527, ez527⟩ : ∃ y, y = (if k521 = 0 then vp_updL z8 0 x522.toInt64 else z8) := ⟨_, rfl⟩
          rw [← ez527] at hP
          replace hf := ltn_s ez527 hf
          refine lv_topi (fun x528 ex528 => ?_)
          replace hf := ltn_s ex528 hf
          refine lv_istore (lv' := [(5, .int x528), (0, .ref b), (1, .ref (xa X 306)), (2, .ref (xa X 314)), (3, .ref (xa X 323)), (4, .int x2)]) hx hb dL_law_1481 hl (by decide) rfl (fun ls hl => ?_)
          refine lv_aload_n hx hb dL_law_1483 rfl (lv_at hl 3 rfl) ?_
          obtain ⟨x529, s530, q531, hc532, hf⟩ := ob3_e hf
          refine w_ci ⟨hx, hb, hml, hown, hts⟩ hP hK hS (k9_undo l hX (pbt (ul w 1 z527) f523 g4 c5 y6 o524) hc532) hc_175 (w_recv hP hK (by decide) emb_mm rfl) rfl hl.1 rfl (Nat.le_of_ble_eq_true rfl) dL_law_1484 ⟨Nat.le_trans (show _ ≤ 601024 by omega) (Nat.le_of_ble_eq_true rfl), Nat.le_trans (show _ ≤ 7293034 by omega) (Nat.le_of_ble_eq_true rfl)⟩ (fun H locs hP hS => ?_)
          refine lv_istore (lv' := [(6, .int x529), (5, .int x528), (0, .ref b), (1, .ref (xa X 306)), (2, .ref (xa X 314)), (3, .ref (xa X 323)), (4, .int x2)]) hx hb dL_law_1487 hl (by decide) rfl (fun ls hl => ?_)
          refine lv_aload_n hx hb dL_law_1489 rfl (lv_at hl 4 rfl) ?_
          obtain ⟨x533, hc534, hf⟩ := lt1_e hf
          refine w_ci ⟨hx, hb, hml, hown, hts⟩ hP hK hS (k9_thrown l hX (pbt (ul w 1 z527) f523 g4 c5 y6 o524) hc534) hc_93 (w_recv hP hK (by decide) emb_mm rfl) rfl hl.1 rfl (Nat.le_of_ble_eq_true rfl) dL_law_1490 ⟨Nat.le_trans (show _ ≤ 601024 by omega) (Nat.le_of_ble_eq_true rfl), Nat.le_trans (show _ ≤ 7293034 by omega) (Nat.le_of_ble_eq_true rfl)⟩ (fun H locs hP hS => ?_)
          refine lv_iload hx hb dL_law_1493 (lv_at hl 1 rfl) ?_
          refine lv_icmp_eq (tgt := 1500) hx hb dL_law_1495 (by decide) (fun h535 => ?_) (fun h535 => ?_)
          · rw [if_pos h535] at hf
            refine lv_iload hx hb dL_law_1500 (lv_at hl 1 rfl) ?_
            refine lv_if_ne (tgt := 1517) hx hb dL_law_1502 (by decide) (fun h536 => ?_) (fun h536 => ?_)
            · rw [if_neg h536] at hf
              refine lv_goto (tgt := 1534) hx hb dL_law_1517 (by decide) ?_
              obtain ⟨x537, ex537⟩ : ∃ y : Int32, y = x2 + 6 := ⟨_, rfl⟩
              replace hf := ltn_s ex537 hf
              refine lv_iinc (v := x537) (lv' := [(4, .int x537), (6, .int x529), (5, .int x528), (0, .ref b), (1, .ref (xa X 306)), (2, .ref (xa X 314)), (3, .ref (xa X 323))]) hx hb dL_law_1534 hl (k := 6) rfl (by rw [ex537]; rfl) (by decide) rfl (fun ls hl => ?_)
              refine lv_goto (tgt := 23) hx hb dL_law_1537 (by decide) ?_
              refine W.widen (k := cl + 1) (n := sl + 6) (by omega) (by omega) ?_
              exact ih (cl + 1) (sl + 6) x537 f523 g4 c5 y6 o524 z527 s530 u10 sv11 tx12 ow13 rs14 rn15 nu16 q531  _ _ _ hf (by omega) (by omega) hP hS (lv_sub hl [3, 4, 5, 6, 0] rfl)
            · rw [if_pos h536] at hf
              refine lv_aload_n hx hb dL_law_1505 rfl (lv_at hl 5 rfl) ?_
              refine lv_iconst (v := 0) hx hb dL_law_1506 (by decide) ?_
              obtain ⟨hin538, hf⟩ := ck_e hf
              refine ar_lald (gl := z527) hx hb AR_out law_z hP hK hin538 dL_law_1507 ?_
              refine lv_iload hx hb dL_law_1508 (lv_at hl 0 rfl) ?_
              refine lv_i2l hx hb dL_law_1510 rfl ?_
              refine W.lcmp hx hb dL_law_1511 ?_
              refine lv_if_eq (tgt := 1517) hx hb dL_law_1512 (by decide) (fun h539 => ?_) (fun h539 => ?_)
              · rw [if_pos h539] at hf
                refine lv_goto (tgt := 1534) hx hb dL_law_1517 (by decide) ?_
                obtain ⟨x540, ex540⟩ : ∃ y : Int32, y = x2 + 6 := ⟨_, rfl⟩
                replace hf := ltn_s ex540 hf
                refine lv_iinc (v := x540) (lv' := [(4, .int x540), (6, .int x529), (5, .int x528), (0, .ref b), (1, .ref (xa X 306)), (2, .ref (xa X 314)), (3, .ref (xa X 323))]) hx hb dL_law_1534 hl (k := 6) rfl (by rw [ex540]; rfl) (by decide) rfl (fun ls hl => ?_)
                refine lv_goto (tgt := 23) hx hb dL_law_1537 (by decide) ?_
                refine W.widen (k := cl + 1) (n := sl + 6) (by omega) (by omega) ?_
                exact ih (cl + 1) (sl + 6) x540 f523 g4 c5 y6 o524 z527 s530 u10 sv11 tx12 ow13 rs14 rn15 nu16 q531  _ _ _ hf (by omega) (by omega) hP hS (lv_sub hl [3, 4, 5, 6, 0] rfl)
              · rw [if_neg h539] at hf
                refine lv_iconst (v := 0) hx hb dL_law_1515 (by decide) ?_
                exact absurd (Option.some.inj hf) (by decide)
          · rw [if_neg h535] at hf
            refine lv_iconst (v := 0) hx hb dL_law_1498 (by decide) ?_
            exact absurd (Option.some.inj hf) (by decide)
        rw [if_neg hsw577] at hf
        by_cases hsw578 : ((xs x2.toNatClampNeg) &&& 31) = 25
        · rw [if_pos hsw578] at hf
          refine lv_tableIn (off := 1480) (tgt := 1520) hx hb dL_law_40 (by rw [hsw578]; decide) (by rw [hsw578]; decide) (by rw [hsw578]; rfl) (by decide) ?_
          refine lv_aload_n hx hb dL_law_1520 rfl (lv_at hl 1 rfl) ?_
          obtain ⟨x541, g542, hc543, hf⟩ := ob2_e hf
          refine w_cj ⟨hx, hb, hml, hown, hts⟩ hP hK hS (show cJ l yX8_digest wsX8_digest rmX8_digest X s.heap.size [.ref (xa X 306)] (pmm (pbt (ul w 1 z8) f3 g4 c5 y6 o7) s9 u10 sv11 tx12 ow13 rs14 rn15 nu16 q17) x541 (pmm (pbt (ul w 1 z8) f3 g542 c5 y6 o7) s9 u10 sv11 tx12 ow13 rs14 rn15 nu16 q17) from by have hM := k8_digest l hX (ul (pmm w s9 u10 sv11 tx12 ow13 rs14 rn15 nu16 q17) 1 z8) (f0 := f3) (g0 := g4) (c0 := c5) (y0 := y6) (o0 := o7) hc543; simp only [law_w] at hM; exact hM) hc_176 (w_recv hP hK (by decide) emb_bt rfl) rfl hl.1 rfl (Nat.le_of_ble_eq_true rfl) dL_law_1521 ⟨Nat.le_trans (show _ ≤ 601024 by omega) (Nat.le_of_ble_eq_true rfl), Nat.le_trans (show _ ≤ 7293034 by omega) (Nat.le_of_ble_eq_true rfl)⟩ (fun H locs hP hS => ?_)
          refine lv_aload_n hx hb dL_law_1524 rfl (lv_at hl 2 rfl) ?_
          obtain ⟨x544, u545, ow546, rs547, q548, hc549, hf⟩ := ob5_e hf
          refine w_cj ⟨hx, hb, hml, hown, hts⟩ hP hK hS (k9_digest l hX (pbt (ul w 1 z8) f3 g542 c5 y6 o7) hc549) hc_180 (w_recv hP hK (by decide) emb_mm rfl) rfl hl.1 rfl (Nat.le_of_ble_eq_true rfl) dL_law_1525 ⟨Nat.le_trans (show _ ≤ 601024 by omega) (Nat.le_of_ble_eq_true rfl), Nat.le_trans (show _ ≤ 7293034 by omega) (Nat.le_of_ble_eq_true rfl)⟩ (fun H locs hP hS => ?_)
          refine W.lcmp hx hb dL_law_1528 ?_
          refine lv_if_eq (tgt := 1534) hx hb dL_law_1529 (by decide) (fun h550 => ?_) (fun h550 => ?_)
          · rw [if_pos h550] at hf
            obtain ⟨x551, ex551⟩ : ∃ y : Int32, y = x2 + 6 := ⟨_, rfl⟩
            replace hf := ltn_s ex551 hf
            refine lv_iinc (v := x551) (lv' := [(4, .int x551), (0, .ref b), (1, .ref (xa X 306)), (2, .ref (xa X 314)), (3, .ref (xa X 323))]) hx hb dL_law_1534 hl (k := 4) rfl (by rw [ex551]; rfl) (by decide) rfl (fun ls hl => ?_)
            refine lv_goto (tgt := 23) hx hb dL_law_1537 (by decide) ?_
            refine W.widen (k := cl + 1) (n := sl + 6) (by omega) (by omega) ?_
            exact ih (cl + 1) (sl + 6) x551 f3 g542 c5 y6 o7 z8 s9 u545 sv11 tx12 ow546 rs547 rn15 nu16 q548  _ _ _ hf (by omega) (by omega) hP hS (lv_sub hl [1, 2, 3, 4, 0] rfl)
          · rw [if_neg h550] at hf
            refine lv_iconst (v := 0) hx hb dL_law_1532 (by decide) ?_
            exact absurd (Option.some.inj hf) (by decide)
        rw [if_neg hsw578] at hf
        have hdf : (((xs x2.toNatClampNeg) &&& 31)).toInt < 0 ∨ 25 < (((xs x2.toNatClampNeg) &&& 31)).toInt := by
          have ghsw553 := ne_i (z := 0) hsw553 (by decide)
          have ghsw554 := ne_i (z := 1) hsw554 (by decide)
          have ghsw555 := ne_i (z := 2) hsw555 (by decide)
          have ghsw556 := ne_i (z := 3) hsw556 (by decide)
          have ghsw557 := ne_i (z := 4) hsw557 (by decide)
          have ghsw558 := ne_i (z := 5) hsw558 (by decide)
          have ghsw559 := ne_i (z := 6) hsw559 (by decide)
          have ghsw560 := ne_i (z := 7) hsw560 (by decide)
          have ghsw561 := ne_i (z := 8) hsw561 (by decide)
          have ghsw562 := ne_i (z := 9) hsw562 (by decide)
          have ghsw563 := ne_i (z := 10) hsw563 (by decide)
          have ghsw564 := ne_i (z := 11) hsw564 (by decide)
          have ghsw565 := ne_i (z := 12) hsw565 (by decide)
          have ghsw566 := ne_i (z := 13) hsw566 (by decide)
          have ghsw567 := ne_i (z := 14) hsw567 (by decide)
          have ghsw568 := ne_i (z := 15) hsw568 (by decide)
          have ghsw569 := ne_i (z := 16) hsw569 (by decide)
          have ghsw570 := ne_i (z := 17) hsw570 (by decide)
          have ghsw571 := ne_i (z := 18) hsw571 (by decide)
          have ghsw572 := ne_i (z := 19) hsw572 (by decide)
          have ghsw573 := ne_i (z := 20) hsw573 (by decide)
          have ghsw574 := ne_i (z := 21) hsw574 (by decide)
          have ghsw575 := ne_i (z := 22) hsw575 (by decide)
          have ghsw576 := ne_i (z := 23) hsw576 (by decide)
          have ghsw577 := ne_i (z := 24) hsw577 (by decide)
          have ghsw578 := ne_i (z := 25) hsw578 (by decide)
          omega
        refine lv_tableOut (tgt := 1534) hx hb dL_law_40 hdf (by decide) ?_
        obtain ⟨x552, ex552⟩ : ∃ y : Int32, y = x2 + 6 := ⟨_, rfl⟩
        replace hf := ltn_s ex552 hf
        refine lv_iinc (v := x552) (lv' := [(4, .int x552), (0, .ref b), (1, .ref (xa X 306)), (2, .ref (xa X 314)), (3, .ref (xa X 323))]) hx hb dL_law_1534 hl (k := 4) rfl (by rw [ex552]; rfl) (by decide) rfl (fun ls hl => ?_)
        refine lv_goto (tgt := 23) hx hb dL_law_1537 (by decide) ?_
        refine W.widen (k := cl + 1) (n := sl + 6) (by omega) (by omega) ?_
        exact ih (cl + 1) (sl + 6) x552 f3 g4 c5 y6 o7 z8 s9 u10 sv11 tx12 ow13 rs14 rn15 nu16 q17  _ _ _ hf (by omega) (by omega) hP hS (lv_sub hl [1, 2, 3, 4, 0] rfl)
  exact L23
