-- L_isAskingSo
abbrev rL_isAskingSo : Room := { frames := 7, cells := 0, slots := 0, locals := 169 }
def fL_isAskingSo_b616 (i0 : Nat) (x : xS) : Option (Int32 × xS) :=
  some (0, x)
def fL_isAskingSo_b581 (i0 : Nat) (v1 : Int32) (v10 : Int32) (v14 : Int32) (s0 : Int32) (s1 : Int32) (x : xS) : Option (Int32 × xS) :=
  (if s0 = s1 then
  Option.bind (fpX6_undo i0 x) (fun r585 =>
  (if r585.1 < 0 then
  fL_isAskingSo_b616 i0 r585.2
  else
  Option.bind (fpX6_count i0 2 r585.2) (fun r593 =>
  (if r593 = v14 then
  Option.bind (fpX6_lodgerOf i0 v1 1 r585.2) (fun r604 =>
  (if r604 = v10 then
  some (1, r585.2)
  else
  fL_isAskingSo_b616 i0 r585.2))
  else
  fL_isAskingSo_b616 i0 r585.2))))
  else
  fL_isAskingSo_b616 i0 x)
def fL_isAskingSo_b565 (i0 : Nat) (v1 : Int32) (v10 : Int32) (v12 : Int32) (v14 : Int32) (s0 : Int32) (x : xS) : Option (Int32 × xS) :=
  Option.bind (fpX6_count i0 7 x) (fun r568 =>
  (if r568 ≤ v12 then
  fL_isAskingSo_b581 i0 v1 v10 v14 s0 0 x
  else
  fL_isAskingSo_b581 i0 v1 v10 v14 s0 1 x))
def fL_isAskingSo_b520 (i0 : Nat) (v1 : Int32) (v3 : Int32) (v9 : Int32) (v10 : Int32) (v12 : Int32) (v13 : Int32) (v14 : Int32) (s0 : Int32) (s1 : Int32) (x : xS) : Option (Int32 × xS) :=
  (if s0 = s1 then
  Option.bind (fpX6_count i0 2 x) (fun r525 =>
  Option.bind (fpX6_count i0 7 x) (fun r535 =>
  (if r525 = ((v14 + v3) - (r535 - v12)) then
  Option.bind (fpX6_count i0 3 x) (fun r547 =>
  (if r547 = v13 then
  (if v9 ≤ 0 then
  fL_isAskingSo_b565 i0 v1 v10 v12 v14 0 x
  else
  fL_isAskingSo_b565 i0 v1 v10 v12 v14 1 x)
  else
  fL_isAskingSo_b616 i0 x))
  else
  fL_isAskingSo_b616 i0 x)))
  else
  fL_isAskingSo_b616 i0 x)
def fL_isAskingSo_b511 (i0 : Nat) (v1 : Int32) (v3 : Int32) (v9 : Int32) (v10 : Int32) (v11 : Int32) (v12 : Int32) (v13 : Int32) (v14 : Int32) (s0 : Int32) (x : xS) : Option (Int32 × xS) :=
  fL_isAskingSo_b520 i0 v1 v3 v9 v10 v12 v13 v14 s0 v11 x
def fL_isAskingSo_b473 (k413 : Int32 → Int32 → Int32 → Int32 → Int32 → Int32 → Int32 → Int32 → Int32 → Int32 → xS → Option (Int32 × xS)) (i0 : Nat) (v1 : Int32) (v3 : Int32) (v5 : Int32) (v6 : Int32) (v9 : Int32) (v10 : Int32) (v11 : Int32) (v12 : Int32) (v13 : Int32) (v14 : Int32) (v16 : Int32) (s0 : Int32) (x : xS) : Option (Int32 × xS) :=
  k413 v5 v6 v9 v10 v11 v12 v13 v14 s0 (v16 + 1) x
def fL_isAskingSo_b472 (k413 : Int32 → Int32 → Int32 → Int32 → Int32 → Int32 → Int32 → Int32 → Int32 → Int32 → xS → Option (Int32 × xS)) (i0 : Nat) (v1 : Int32) (v3 : Int32) (v5 : Int32) (v6 : Int32) (v9 : Int32) (v10 : Int32) (v11 : Int32) (v12 : Int32) (v13 : Int32) (v14 : Int32) (v16 : Int32) (x : xS) : Option (Int32 × xS) :=
  fL_isAskingSo_b473 k413 i0 v1 v3 v5 v6 v9 v10 v11 v12 v13 v14 v16 0 x
def fL_isAskingSo_b468 (k413 : Int32 → Int32 → Int32 → Int32 → Int32 → Int32 → Int32 → Int32 → Int32 → Int32 → xS → Option (Int32 × xS)) (i0 : Nat) (v1 : Int32) (v3 : Int32) (v5 : Int32) (v6 : Int32) (v9 : Int32) (v10 : Int32) (v11 : Int32) (v12 : Int32) (v13 : Int32) (v14 : Int32) (v16 : Int32) (x : xS) : Option (Int32 × xS) :=
  fL_isAskingSo_b473 k413 i0 v1 v3 v5 v6 v9 v10 v11 v12 v13 v14 v16 1 x
def fL_isAskingSo_b436 (k413 : Int32 → Int32 → Int32 → Int32 → Int32 → Int32 → Int32 → Int32 → Int32 → Int32 → xS → Option (Int32 × xS)) (i0 : Nat) (v1 : Int32) (v3 : Int32) (v5 : Int32) (v6 : Int32) (v9 : Int32) (v10 : Int32) (v11 : Int32) (v12 : Int32) (v13 : Int32) (v14 : Int32) (v15 : Int32) (v16 : Int32) (s0 : Int32) (x : xS) : Option (Int32 × xS) :=
  (if v15 = 0 then
  fL_isAskingSo_b472 k413 i0 v1 v3 v5 v6 v9 v10 v11 v12 v13 v14 v16 x
  else
  (if s0 = 0 then
  fL_isAskingSo_b468 k413 i0 v1 v3 v5 v6 v9 v10 v11 v12 v13 v14 v16 x
  else
  Option.bind (fpX6_lodgerOf i0 v16 1 x) (fun r452 =>
  (if r452 ≤ 0 then
  fL_isAskingSo_b472 k413 i0 v1 v3 v5 v6 v9 v10 v11 v12 v13 v14 v16 x
  else
  Option.bind (fpX6_lodgerOf i0 v16 5 x) (fun r462 =>
  (if r462 ≤ 0 then
  fL_isAskingSo_b472 k413 i0 v1 v3 v5 v6 v9 v10 v11 v12 v13 v14 v16 x
  else
  fL_isAskingSo_b468 k413 i0 v1 v3 v5 v6 v9 v10 v11 v12 v13 v14 v16 x))))))
def fL_isAskingSo_b413 (i0 : Nat) (v1 : Int32) (v3 : Int32) : Nat → Int32 → Int32 → Int32 → Int32 → Int32 → Int32 → Int32 → Int32 → Int32 → Int32 → xS → Option (Int32 × xS)
  | 0, _, _, _, _, _, _, _, _, _, _, _ => none
  | n + 1, v5, v6, v9, v10, v11, v12, v13, v14, v15, v16, x => (if (10 : Int32) ≤ v16 then
  (if v15 = 0 then
  fL_isAskingSo_b616 i0 x
  else
  Option.bind (fpX6_lodgerOf i0 v1 1 x) (fun r489 =>
  (if r489 = 0 then
  Option.bind (fpX6_lodgerOf i0 v1 2 x) (fun r498 =>
  (if v5 = 0 then
  (if v6 = 0 then
  fL_isAskingSo_b520 i0 v1 v3 v9 v10 v12 v13 v14 r498 (v11 - 1) x
  else
  fL_isAskingSo_b511 i0 v1 v3 v9 v10 v11 v12 v13 v14 r498 x)
  else
  fL_isAskingSo_b511 i0 v1 v3 v9 v10 v11 v12 v13 v14 r498 x))
  else
  fL_isAskingSo_b616 i0 x)))
  else
  (if ((v9 >>> (v16 &&& 31)) &&& 1) = 1 then
  fL_isAskingSo_b436 (fL_isAskingSo_b413 i0 v1 v3 n) i0 v1 v3 v5 v6 v9 v10 v11 v12 v13 v14 v15 v16 1 x
  else
  fL_isAskingSo_b436 (fL_isAskingSo_b413 i0 v1 v3 n) i0 v1 v3 v5 v6 v9 v10 v11 v12 v13 v14 v15 v16 0 x))
def fL_isAskingSo_b402 (k369 : Int32 → Int32 → Int32 → Int32 → Int32 → Int32 → Int32 → Int32 → Int32 → Int32 → Int32 → xS → Option (Int32 × xS)) (i0 : Nat) (v1 : Int32) (v2 : Int32) (v3 : Int32) (v5 : Int32) (v6 : Int32) (v8 : Int32) (v9 : Int32) (v10 : Int32) (v11 : Int32) (v12 : Int32) (v13 : Int32) (v14 : Int32) (v16 : Int32) (s0 : Int32) (x : xS) : Option (Int32 × xS) :=
  k369 v5 v6 v8 v9 v10 v11 v12 v13 v14 s0 (v16 + 1) x
def fL_isAskingSo_b401 (k369 : Int32 → Int32 → Int32 → Int32 → Int32 → Int32 → Int32 → Int32 → Int32 → Int32 → Int32 → xS → Option (Int32 × xS)) (i0 : Nat) (v1 : Int32) (v2 : Int32) (v3 : Int32) (v5 : Int32) (v6 : Int32) (v8 : Int32) (v9 : Int32) (v10 : Int32) (v11 : Int32) (v12 : Int32) (v13 : Int32) (v14 : Int32) (v16 : Int32) (x : xS) : Option (Int32 × xS) :=
  fL_isAskingSo_b402 k369 i0 v1 v2 v3 v5 v6 v8 v9 v10 v11 v12 v13 v14 v16 0 x
def fL_isAskingSo_b369 (i0 : Nat) (v1 : Int32) (v2 : Int32) (v3 : Int32) : Nat → Int32 → Int32 → Int32 → Int32 → Int32 → Int32 → Int32 → Int32 → Int32 → Int32 → Int32 → xS → Option (Int32 × xS)
  | 0, _, _, _, _, _, _, _, _, _, _, _, _ => none
  | n + 1, v5, v6, v8, v9, v10, v11, v12, v13, v14, v15, v16, x => (if (v2 + v3) ≤ v16 then
  fL_isAskingSo_b413 i0 v1 v3 FU v5 v6 v9 v10 v11 v12 v13 v14 v15 0 x
  else
  (if v15 = 0 then
  fL_isAskingSo_b401 (fL_isAskingSo_b369 i0 v1 v2 v3 n) i0 v1 v2 v3 v5 v6 v8 v9 v10 v11 v12 v13 v14 v16 x
  else
  Option.bind (fpX6_at i0 (v8 - 10) v16 x) (fun r390 =>
  (if r390 = v1 then
  fL_isAskingSo_b402 (fL_isAskingSo_b369 i0 v1 v2 v3 n) i0 v1 v2 v3 v5 v6 v8 v9 v10 v11 v12 v13 v14 v16 1 x
  else
  fL_isAskingSo_b401 (fL_isAskingSo_b369 i0 v1 v2 v3 n) i0 v1 v2 v3 v5 v6 v8 v9 v10 v11 v12 v13 v14 v16 x))))
def fL_isAskingSo_b364 (i0 : Nat) (x : xS) : Option (Int32 × xS) :=
  some (0, x)
def fL_isAskingSo_b329 (i0 : Nat) (v1 : Int32) (v11 : Int32) (v14 : Int32) (s0 : Int32) (s1 : Int32) (x : xS) : Option (Int32 × xS) :=
  (if s0 = s1 then
  Option.bind (fpX6_lodgerOf i0 v1 2 x) (fun r335 =>
  (if r335 = v11 then
  Option.bind (fpX6_count i0 2 x) (fun r345 =>
  (if r345 = v14 then
  Option.bind (fpX6_undo i0 x) (fun r354 =>
  (if r354.1 < 0 then
  fL_isAskingSo_b364 i0 r354.2
  else
  some (1, r354.2)))
  else
  fL_isAskingSo_b364 i0 x))
  else
  fL_isAskingSo_b364 i0 x))
  else
  fL_isAskingSo_b364 i0 x)
def fL_isAskingSo_b320 (i0 : Nat) (v1 : Int32) (v10 : Int32) (v11 : Int32) (v14 : Int32) (s0 : Int32) (x : xS) : Option (Int32 × xS) :=
  fL_isAskingSo_b329 i0 v1 v11 v14 s0 v10 x
def fL_isAskingSo_b289 (i0 : Nat) (v1 : Int32) (v2 : Int32) (v3 : Int32) (v5 : Int32) (v6 : Int32) (v7 : Int32) (v8 : Int32) (v9 : Int32) (v10 : Int32) (v11 : Int32) (v12 : Int32) (v13 : Int32) (v14 : Int32) (s0 : Int32) (x : xS) : Option (Int32 × xS) :=
  (if v7 ≤ 0 then
  fL_isAskingSo_b369 i0 v1 v2 v3 FU v5 v6 v8 v9 v10 v11 v12 v13 v14 s0 v2 x
  else
  (if s0 = 0 then
  fL_isAskingSo_b364 i0 x
  else
  Option.bind (fpX6_lodgerOf i0 v1 1 x) (fun r304 =>
  (if v7 < 3 then
  fL_isAskingSo_b320 i0 v1 v10 v11 v14 r304 x
  else
  (if v10 = 7 then
  fL_isAskingSo_b320 i0 v1 v10 v11 v14 r304 x
  else
  fL_isAskingSo_b329 i0 v1 v11 v14 r304 (v10 + 1) x)))))
def fL_isAskingSo_b288 (i0 : Nat) (v1 : Int32) (v2 : Int32) (v3 : Int32) (v5 : Int32) (v6 : Int32) (v7 : Int32) (v8 : Int32) (v9 : Int32) (v10 : Int32) (v11 : Int32) (v12 : Int32) (v13 : Int32) (v14 : Int32) (x : xS) : Option (Int32 × xS) :=
  fL_isAskingSo_b289 i0 v1 v2 v3 v5 v6 v7 v8 v9 v10 v11 v12 v13 v14 0 x
def fL_isAskingSo_b263 (i0 : Nat) (v1 : Int32) (v2 : Int32) (v3 : Int32) (v5 : Int32) (v6 : Int32) (v7 : Int32) (v8 : Int32) (v9 : Int32) (v10 : Int32) (v11 : Int32) (v12 : Int32) (v13 : Int32) (v14 : Int32) (x : xS) : Option (Int32 × xS) :=
  (if ((v9 >>> (v1 &&& 31)) &&& 1) = 0 then
  Option.bind (fpX6_ask i0 v1 v2 v3 x) (fun r276 =>
  (if r276.1 = v8 then
  fL_isAskingSo_b289 i0 v1 v2 v3 v5 v6 v7 v8 v9 v10 v11 v12 v13 v14 1 r276.2
  else
  fL_isAskingSo_b288 i0 v1 v2 v3 v5 v6 v7 v8 v9 v10 v11 v12 v13 v14 r276.2))
  else
  fL_isAskingSo_b288 i0 v1 v2 v3 v5 v6 v7 v8 v9 v10 v11 v12 v13 v14 x)
def fL_isAskingSo_b253 (i0 : Nat) (v1 : Int32) (v2 : Int32) (v3 : Int32) (v4 : Int32) (v5 : Int32) (v6 : Int32) (v7 : Int32) (v8 : Int32) (v9 : Int32) (v10 : Int32) (v11 : Int32) (v12 : Int32) (v13 : Int32) (v14 : Int32) (x : xS) : Option (Int32 × xS) :=
  (if (0 : Int32) ≤ v4 then
  fL_isAskingSo_b263 i0 v1 v2 v3 v5 v6 v7 v8 v9 v10 v11 v12 v13 v14 x
  else
  (if v9 ≤ 0 then
  fL_isAskingSo_b288 i0 v1 v2 v3 v5 v6 v7 v8 v9 v10 v11 v12 v13 v14 x
  else
  fL_isAskingSo_b263 i0 v1 v2 v3 v5 v6 v7 v8 v9 v10 v11 v12 v13 v14 x))
def fL_isAskingSo_b141 (i0 : Nat) (v1 : Int32) (v2 : Int32) (v3 : Int32) (v4 : Int32) (v5 : Int32) (v6 : Int32) (s0 : Int32) (x : xS) : Option (Int32 × xS) :=
  Option.bind (fpX6_ifAsked i0 v1 v2 v3 x) (fun r147 =>
  Option.bind (fpX6_ifPutOut i0 v1 v2 v3 x) (fun r156 =>
  Option.bind (fpX6_lodgerOf i0 v1 1 x) (fun r164 =>
  Option.bind (fpX6_lodgerOf i0 v1 2 x) (fun r172 =>
  Option.bind (fpX6_count i0 7 x) (fun r180 =>
  Option.bind (fpX6_count i0 3 x) (fun r187 =>
  Option.bind (fpX6_count i0 2 x) (fun r194 =>
  (if s0 ≤ 0 then
  (if r147 ≤ 9 then
  fL_isAskingSo_b288 i0 v1 v2 v3 v5 v6 s0 r147 r156 r164 r172 r180 r187 r194 x
  else
  (if (14 : Int32) ≤ r147 then
  fL_isAskingSo_b288 i0 v1 v2 v3 v5 v6 s0 r147 r156 r164 r172 r180 r187 r194 x
  else
  (if v4 < 0 then
  fL_isAskingSo_b253 i0 v1 v2 v3 v4 v5 v6 s0 r147 r156 r164 r172 r180 r187 r194 x
  else
  (if r147 = (10 + v4) then
  (if r156 = 0 then
  fL_isAskingSo_b253 i0 v1 v2 v3 v4 v5 v6 s0 r147 r156 r164 r172 r180 r187 r194 x
  else
  fL_isAskingSo_b288 i0 v1 v2 v3 v5 v6 s0 r147 r156 r164 r172 r180 r187 r194 x)
  else
  fL_isAskingSo_b288 i0 v1 v2 v3 v5 v6 s0 r147 r156 r164 r172 r180 r187 r194 x))))
  else
  (if r147 = s0 then
  (if r156 = 0 then
  fL_isAskingSo_b263 i0 v1 v2 v3 v5 v6 s0 r147 r156 r164 r172 r180 r187 r194 x
  else
  fL_isAskingSo_b288 i0 v1 v2 v3 v5 v6 s0 r147 r156 r164 r172 r180 r187 r194 x)
  else
  fL_isAskingSo_b288 i0 v1 v2 v3 v5 v6 s0 r147 r156 r164 r172 r180 r187 r194 x)))))))))
def fL_isAskingSo_b131 (i0 : Nat) (v1 : Int32) (v2 : Int32) (v3 : Int32) (v4 : Int32) (v5 : Int32) (v6 : Int32) (x : xS) : Option (Int32 × xS) :=
  (if (0 : Int32) ≤ v4 then
  fL_isAskingSo_b141 i0 v1 v2 v3 v4 v5 v6 0 x
  else
  fL_isAskingSo_b141 i0 v1 v2 v3 v4 v5 v6 4 x)
def fL_isAskingSo_b75 (i0 : Nat) (v1 : Int32) (v2 : Int32) (v3 : Int32) (v4 : Int32) (v5 : Int32) (s0 : Int32) (x : xS) : Option (Int32 × xS) :=
  Option.bind (fpX6_count i0 0 x) (fun r80 =>
  (if r80 ≤ v2 then
  Option.bind (fL_has i0 v1 v2 v3 x) (fun r94 =>
  (if r94 = 0 then
  (if v5 = 0 then
  (if s0 = 0 then
  Option.bind (fpX6_lodgerOf i0 v1 2 x) (fun r121 =>
  (if r121 = 0 then
  fL_isAskingSo_b141 i0 v1 v2 v3 v4 v5 s0 3 x
  else
  fL_isAskingSo_b131 i0 v1 v2 v3 v4 v5 s0 x))
  else
  fL_isAskingSo_b131 i0 v1 v2 v3 v4 v5 s0 x)
  else
  fL_isAskingSo_b141 i0 v1 v2 v3 v4 v5 s0 0 x)
  else
  fL_isAskingSo_b141 i0 v1 v2 v3 v4 v5 s0 2 x))
  else
  fL_isAskingSo_b141 i0 v1 v2 v3 v4 v5 s0 1 x))
def fL_isAskingSo_b53 (i0 : Nat) (v1 : Int32) (v2 : Int32) (v3 : Int32) (v4 : Int32) (s0 : Int32) (x : xS) : Option (Int32 × xS) :=
  Option.bind (fpX6_lodgerOf i0 v1 0 x) (fun r58 =>
  Option.bind (fpX6_count i0 9 x) (fun r64 =>
  (if r58 < r64 then
  fL_isAskingSo_b75 i0 v1 v2 v3 v4 s0 0 x
  else
  fL_isAskingSo_b75 i0 v1 v2 v3 v4 s0 1 x)))
def fL_isAskingSo_b29 (k6 : Int32 → Int32 → xS → Option (Int32 × xS)) (i0 : Nat) (v1 : Int32) (v2 : Int32) (v3 : Int32) (v5 : Int32) (s0 : Int32) (x : xS) : Option (Int32 × xS) :=
  k6 s0 (v5 + (-1)) x
def fL_isAskingSo_b6 (i0 : Nat) (v1 : Int32) (v2 : Int32) (v3 : Int32) : Nat → Int32 → Int32 → xS → Option (Int32 × xS)
  | 0, _, _, _ => none
  | n + 1, v4, v5, x => (if v5 < 0 then
  Option.bind (fpX6_lodgerOf i0 v1 1 x) (fun r40 =>
  (if r40 = 7 then
  fL_isAskingSo_b53 i0 v1 v2 v3 v4 1 x
  else
  fL_isAskingSo_b53 i0 v1 v2 v3 v4 0 x))
  else
  Option.bind (fL_isFree i0 v5 v2 v3 x) (fun r16 =>
  (if r16 = 0 then
  fL_isAskingSo_b29 (fL_isAskingSo_b6 i0 v1 v2 v3 n) i0 v1 v2 v3 v5 v4 x
  else
  fL_isAskingSo_b29 (fL_isAskingSo_b6 i0 v1 v2 v3 n) i0 v1 v2 v3 v5 v5 x)))
def fL_isAskingSo_b0 (i0 : Nat) (v1 : Int32) (v2 : Int32) (v3 : Int32) (x : xS) : Option (Int32 × xS) :=
  fL_isAskingSo_b6 i0 v1 v2 v3 FU (-1) 3 x
def fL_isAskingSo (i0 : Nat) (v1 : Int32) (v2 : Int32) (v3 : Int32) (x : xS) : Option (Int32 × xS) := fL_isAskingSo_b0 i0 v1 v2 v3 x
section
variable {p : Program} {l : Launch} {e : Env} {R : Room} {s : State} {m : MethodId} {args : Array Value} {below : List Frame} {meth : Method} {c : Code} {G : gT}
set_option maxHeartbeats 4000000 in
set_option maxRecDepth 100000 in
theorem wL_isAskingSo_b616 (C : CT p s m args meth c cL_isAskingSo 18 RL (some (.boolean)) G (pA G s.heap.size)) {i0 : Nat} {x : xS} {r : (Int32 × xS)} (hk0 : KD G i0 6) (hf : fL_isAskingSo_b616 i0 x = some r) : WB p l e rL_isAskingSo s m args below meth c 18 G (pA G s.heap.size) (qI below G r args s 0 0) 0 0 616 [(0, .ref (G.2.2 i0))] [] x := by
  unfold fL_isAskingSo_b616 at hf
  refine b_iconst (v := 0) C dL_isAskingSo_616 (by decide) ?_
  exact b_iretz C (by decide) dL_isAskingSo_617 hf
set_option maxHeartbeats 4000000 in
set_option maxRecDepth 100000 in
theorem wL_isAskingSo_b581 (C : CT p s m args meth c cL_isAskingSo 18 RL (some (.boolean)) G (pA G s.heap.size)) {i0 : Nat} {v1 : Int32} {v10 : Int32} {v14 : Int32} {s0 : Int32} {s1 : Int32} {x : xS} {r : (Int32 × xS)} (hk0 : KD G i0 6) (hf : fL_isAskingSo_b581 i0 v1 v10 v14 s0 s1 x = some r) : WB p l e rL_isAskingSo s m args below meth c 18 G (pA G s.heap.size) (qI below G r args s 0 0) 0 0 581 [(0, .ref (G.2.2 i0)), (1, .int v1), (10, .int v10), (14, .int v14)] [.int s1, .int s0] x := by
  unfold fL_isAskingSo_b581 at hf
  refine b_icmp_ne (tgt := 616) C dL_isAskingSo_581 (by decide) (fun c581 => ?_) (fun c581 => ?_)
  · have hf := iF c581 hf
    refine b_pm [0] (lv' := [(0, .ref (G.2.2 i0))]) rfl ?_
    exact wL_isAskingSo_b616 C  hk0 hf
  · have hf := iT c581 hf
    refine b_aload_n C dL_isAskingSo_584 rfl 0 rfl ?_
    obtain ⟨r585, c585, hf⟩ := oB hf
    refine b_callVi (K := 6) (As := []) (res := r585) C (metpX6_undo l G _ _ _ hk0 c585) hk0 (by decide) rfl gkL_87 ekL_87 rfl ⟨rfl, rfl⟩ ⟨Nat.le_of_ble_eq_true rfl, Nat.le_of_ble_eq_true rfl⟩ (by simp [Value.category]) ⟨Nat.zero_le _, Nat.zero_le _⟩ rfl dL_isAskingSo_585 ?_
    refine b_if_lt (tgt := 616) C dL_isAskingSo_588 (by decide) (fun c588 => ?_) (fun c588 => ?_)
    · have hf := iT c588 hf
      refine b_pm [0] (lv' := [(0, .ref (G.2.2 i0))]) rfl ?_
      exact wL_isAskingSo_b616 C  hk0 hf
    · have hf := iF c588 hf
      refine b_aload_n C dL_isAskingSo_591 rfl 0 rfl ?_
      refine b_iconst (v := 2) C dL_isAskingSo_592 (by decide) ?_
      obtain ⟨r593, c593, hf⟩ := oB hf
      refine b_callVi (K := 6) (As := [.int 2]) (res := (r593, r585.2)) C (metpX6_count l G _ _ _ _ hk0 c593) hk0 (by decide) rfl gkL_53 ekL_53 rfl ⟨rfl, rfl⟩ ⟨Nat.le_of_ble_eq_true rfl, Nat.le_of_ble_eq_true rfl⟩ (by simp [Value.category]) ⟨Nat.zero_le _, Nat.zero_le _⟩ rfl dL_isAskingSo_593 ?_
      refine b_iload C dL_isAskingSo_596 3 rfl ?_
      refine b_icmp_ne (tgt := 616) C dL_isAskingSo_598 (by decide) (fun c598 => ?_) (fun c598 => ?_)
      · have hf := iF c598 hf
        refine b_pm [0] (lv' := [(0, .ref (G.2.2 i0))]) rfl ?_
        exact wL_isAskingSo_b616 C  hk0 hf
      · have hf := iT c598 hf
        refine b_aload_n C dL_isAskingSo_601 rfl 0 rfl ?_
        refine b_iload_n C dL_isAskingSo_602 rfl 1 rfl ?_
        refine b_iconst (v := 1) C dL_isAskingSo_603 (by decide) ?_
        obtain ⟨r604, c604, hf⟩ := oB hf
        refine b_callVi (K := 6) (As := [.int v1, .int 1]) (res := (r604, r585.2)) C (metpX6_lodgerOf l G _ _ _ _ _ hk0 c604) hk0 (by decide) rfl gkL_56 ekL_56 rfl ⟨rfl, rfl⟩ ⟨Nat.le_of_ble_eq_true rfl, Nat.le_of_ble_eq_true rfl⟩ (by simp [Value.category]) ⟨Nat.zero_le _, Nat.zero_le _⟩ rfl dL_isAskingSo_604 ?_
        refine b_iload C dL_isAskingSo_607 2 rfl ?_
        refine b_icmp_ne (tgt := 616) C dL_isAskingSo_609 (by decide) (fun c609 => ?_) (fun c609 => ?_)
        · have hf := iF c609 hf
          refine b_pm [0] (lv' := [(0, .ref (G.2.2 i0))]) rfl ?_
          exact wL_isAskingSo_b616 C  hk0 hf
        · have hf := iT c609 hf
          refine b_iconst (v := 1) C dL_isAskingSo_612 (by decide) ?_
          refine b_goto (tgt := 617) C dL_isAskingSo_613 (by decide) ?_
          exact b_iretz C (by decide) dL_isAskingSo_617 hf
set_option maxHeartbeats 4000000 in
set_option maxRecDepth 100000 in
theorem wL_isAskingSo_b565 (C : CT p s m args meth c cL_isAskingSo 18 RL (some (.boolean)) G (pA G s.heap.size)) {i0 : Nat} {v1 : Int32} {v10 : Int32} {v12 : Int32} {v14 : Int32} {s0 : Int32} {x : xS} {r : (Int32 × xS)} (hk0 : KD G i0 6) (hf : fL_isAskingSo_b565 i0 v1 v10 v12 v14 s0 x = some r) : WB p l e rL_isAskingSo s m args below meth c 18 G (pA G s.heap.size) (qI below G r args s 0 0) 0 0 565 [(0, .ref (G.2.2 i0)), (1, .int v1), (10, .int v10), (12, .int v12), (14, .int v14)] [.int s0] x := by
  unfold fL_isAskingSo_b565 at hf
  refine b_aload_n C dL_isAskingSo_565 rfl 0 rfl ?_
  refine b_bipush (v := 7) C dL_isAskingSo_566 (by decide) ?_
  obtain ⟨r568, c568, hf⟩ := oB hf
  refine b_callVi (K := 6) (As := [.int 7]) (res := (r568, x)) C (metpX6_count l G _ _ _ _ hk0 c568) hk0 (by decide) rfl gkL_53 ekL_53 rfl ⟨rfl, rfl⟩ ⟨Nat.le_of_ble_eq_true rfl, Nat.le_of_ble_eq_true rfl⟩ (by simp [Value.category]) ⟨Nat.zero_le _, Nat.zero_le _⟩ rfl dL_isAskingSo_568 ?_
  refine b_iload C dL_isAskingSo_571 3 rfl ?_
  refine b_icmp_le (tgt := 580) C dL_isAskingSo_573 (by decide) (fun c573 => ?_) (fun c573 => ?_)
  · have hf := iT c573 hf
    refine b_iconst (v := 0) C dL_isAskingSo_580 (by decide) ?_
    refine b_pm [0, 1, 2, 4] (lv' := [(0, .ref (G.2.2 i0)), (1, .int v1), (10, .int v10), (14, .int v14)]) rfl ?_
    exact wL_isAskingSo_b581 C  hk0 hf
  · have hf := iF c573 hf
    refine b_iconst (v := 1) C dL_isAskingSo_576 (by decide) ?_
    refine b_goto (tgt := 581) C dL_isAskingSo_577 (by decide) ?_
    refine b_pm [0, 1, 2, 4] (lv' := [(0, .ref (G.2.2 i0)), (1, .int v1), (10, .int v10), (14, .int v14)]) rfl ?_
    exact wL_isAskingSo_b581 C  hk0 hf
set_option maxHeartbeats 4000000 in
set_option maxRecDepth 100000 in
theorem wL_isAskingSo_b520 (C : CT p s m args meth c cL_isAskingSo 18 RL (some (.boolean)) G (pA G s.heap.size)) {i0 : Nat} {v1 : Int32} {v3 : Int32} {v9 : Int32} {v10 : Int32} {v12 : Int32} {v13 : Int32} {v14 : Int32} {s0 : Int32} {s1 : Int32} {x : xS} {r : (Int32 × xS)} (hk0 : KD G i0 6) (hf : fL_isAskingSo_b520 i0 v1 v3 v9 v10 v12 v13 v14 s0 s1 x = some r) : WB p l e rL_isAskingSo s m args below meth c 18 G (pA G s.heap.size) (qI below G r args s 0 0) 0 0 520 [(0, .ref (G.2.2 i0)), (1, .int v1), (3, .int v3), (9, .int v9), (10, .int v10), (12, .int v12), (13, .int v13), (14, .int v14)] [.int s1, .int s0] x := by
  unfold fL_isAskingSo_b520 at hf
  refine b_icmp_ne (tgt := 616) C dL_isAskingSo_520 (by decide) (fun c520 => ?_) (fun c520 => ?_)
  · have hf := iF c520 hf
    refine b_pm [0] (lv' := [(0, .ref (G.2.2 i0))]) rfl ?_
    exact wL_isAskingSo_b616 C  hk0 hf
  · have hf := iT c520 hf
    refine b_aload_n C dL_isAskingSo_523 rfl 0 rfl ?_
    refine b_iconst (v := 2) C dL_isAskingSo_524 (by decide) ?_
    obtain ⟨r525, c525, hf⟩ := oB hf
    refine b_callVi (K := 6) (As := [.int 2]) (res := (r525, x)) C (metpX6_count l G _ _ _ _ hk0 c525) hk0 (by decide) rfl gkL_53 ekL_53 rfl ⟨rfl, rfl⟩ ⟨Nat.le_of_ble_eq_true rfl, Nat.le_of_ble_eq_true rfl⟩ (by simp [Value.category]) ⟨Nat.zero_le _, Nat.zero_le _⟩ rfl dL_isAskingSo_525 ?_
    refine b_iload C dL_isAskingSo_528 7 rfl ?_
    refine b_iload_n C dL_isAskingSo_530 rfl 2 rfl ?_
    refine b_iadd C dL_isAskingSo_531 ?_
    refine b_aload_n C dL_isAskingSo_532 rfl 0 rfl ?_
    refine b_bipush (v := 7) C dL_isAskingSo_533 (by decide) ?_
    obtain ⟨r535, c535, hf⟩ := oB hf
    refine b_callVi (K := 6) (As := [.int 7]) (res := (r535, x)) C (metpX6_count l G _ _ _ _ hk0 c535) hk0 (by decide) rfl gkL_53 ekL_53 rfl ⟨rfl, rfl⟩ ⟨Nat.le_of_ble_eq_true rfl, Nat.le_of_ble_eq_true rfl⟩ (by simp [Value.category]) ⟨Nat.zero_le _, Nat.zero_le _⟩ rfl dL_isAskingSo_535 ?_
    refine b_iload C dL_isAskingSo_538 5 rfl ?_
    refine b_isub C dL_isAskingSo_540 ?_
    refine b_isub C dL_isAskingSo_541 ?_
    refine b_icmp_ne (tgt := 616) C dL_isAskingSo_542 (by decide) (fun c542 => ?_) (fun c542 => ?_)
    · have hf := iF c542 hf
      refine b_pm [0] (lv' := [(0, .ref (G.2.2 i0))]) rfl ?_
      exact wL_isAskingSo_b616 C  hk0 hf
    · have hf := iT c542 hf
      refine b_aload_n C dL_isAskingSo_545 rfl 0 rfl ?_
      refine b_iconst (v := 3) C dL_isAskingSo_546 (by decide) ?_
      obtain ⟨r547, c547, hf⟩ := oB hf
      refine b_callVi (K := 6) (As := [.int 3]) (res := (r547, x)) C (metpX6_count l G _ _ _ _ hk0 c547) hk0 (by decide) rfl gkL_53 ekL_53 rfl ⟨rfl, rfl⟩ ⟨Nat.le_of_ble_eq_true rfl, Nat.le_of_ble_eq_true rfl⟩ (by simp [Value.category]) ⟨Nat.zero_le _, Nat.zero_le _⟩ rfl dL_isAskingSo_547 ?_
      refine b_iload C dL_isAskingSo_550 6 rfl ?_
      refine b_icmp_ne (tgt := 616) C dL_isAskingSo_552 (by decide) (fun c552 => ?_) (fun c552 => ?_)
      · have hf := iF c552 hf
        refine b_pm [0] (lv' := [(0, .ref (G.2.2 i0))]) rfl ?_
        exact wL_isAskingSo_b616 C  hk0 hf
      · have hf := iT c552 hf
        refine b_iload C dL_isAskingSo_555 3 rfl ?_
        refine b_if_le (tgt := 564) C dL_isAskingSo_557 (by decide) (fun c557 => ?_) (fun c557 => ?_)
        · have hf := iT c557 hf
          refine b_iconst (v := 0) C dL_isAskingSo_564 (by decide) ?_
          refine b_pm [0, 1, 4, 5, 7] (lv' := [(0, .ref (G.2.2 i0)), (1, .int v1), (10, .int v10), (12, .int v12), (14, .int v14)]) rfl ?_
          exact wL_isAskingSo_b565 C  hk0 hf
        · have hf := iF c557 hf
          refine b_iconst (v := 1) C dL_isAskingSo_560 (by decide) ?_
          refine b_goto (tgt := 565) C dL_isAskingSo_561 (by decide) ?_
          refine b_pm [0, 1, 4, 5, 7] (lv' := [(0, .ref (G.2.2 i0)), (1, .int v1), (10, .int v10), (12, .int v12), (14, .int v14)]) rfl ?_
          exact wL_isAskingSo_b565 C  hk0 hf
set_option maxHeartbeats 4000000 in
set_option maxRecDepth 100000 in
theorem wL_isAskingSo_b511 (C : CT p s m args meth c cL_isAskingSo 18 RL (some (.boolean)) G (pA G s.heap.size)) {i0 : Nat} {v1 : Int32} {v3 : Int32} {v9 : Int32} {v10 : Int32} {v11 : Int32} {v12 : Int32} {v13 : Int32} {v14 : Int32} {s0 : Int32} {x : xS} {r : (Int32 × xS)} (hk0 : KD G i0 6) (hf : fL_isAskingSo_b511 i0 v1 v3 v9 v10 v11 v12 v13 v14 s0 x = some r) : WB p l e rL_isAskingSo s m args below meth c 18 G (pA G s.heap.size) (qI below G r args s 0 0) 0 0 511 [(0, .ref (G.2.2 i0)), (1, .int v1), (3, .int v3), (9, .int v9), (10, .int v10), (11, .int v11), (12, .int v12), (13, .int v13), (14, .int v14)] [.int s0] x := by
  unfold fL_isAskingSo_b511 at hf
  refine b_iload C dL_isAskingSo_511 5 rfl ?_
  refine b_goto (tgt := 520) C dL_isAskingSo_513 (by decide) ?_
  refine b_pm [0, 1, 2, 3, 4, 6, 7, 8] (lv' := [(0, .ref (G.2.2 i0)), (1, .int v1), (3, .int v3), (9, .int v9), (10, .int v10), (12, .int v12), (13, .int v13), (14, .int v14)]) rfl ?_
  exact wL_isAskingSo_b520 C  hk0 hf
set_option maxHeartbeats 4000000 in
set_option maxRecDepth 100000 in
theorem wL_isAskingSo_b473 (C : CT p s m args meth c cL_isAskingSo 18 RL (some (.boolean)) G (pA G s.heap.size)) {k413 : Int32 → Int32 → Int32 → Int32 → Int32 → Int32 → Int32 → Int32 → Int32 → Int32 → xS → Option (Int32 × xS)} {i0 : Nat} {v1 : Int32} {v3 : Int32} {v5 : Int32} {v6 : Int32} {v9 : Int32} {v10 : Int32} {v11 : Int32} {v12 : Int32} {v13 : Int32} {v14 : Int32} {v16 : Int32} {s0 : Int32} {x : xS} {r : (Int32 × xS)} (h413 : ∀ (v5 : Int32) (v6 : Int32) (v9 : Int32) (v10 : Int32) (v11 : Int32) (v12 : Int32) (v13 : Int32) (v14 : Int32) (v15 : Int32) (v16 : Int32) (x : xS), k413 v5 v6 v9 v10 v11 v12 v13 v14 v15 v16 x = some r → WB p l e rL_isAskingSo s m args below meth c 18 G (pA G s.heap.size) (qI below G r args s 0 0) 0 0 413 [(0, .ref (G.2.2 i0)), (1, .int v1), (3, .int v3), (5, .int v5), (6, .int v6), (9, .int v9), (10, .int v10), (11, .int v11), (12, .int v12), (13, .int v13), (14, .int v14), (15, .int v15), (16, .int v16)] [] x) (hk0 : KD G i0 6) (hf : fL_isAskingSo_b473 k413 i0 v1 v3 v5 v6 v9 v10 v11 v12 v13 v14 v16 s0 x = some r) : WB p l e rL_isAskingSo s m args below meth c 18 G (pA G s.heap.size) (qI below G r args s 0 0) 0 0 473 [(0, .ref (G.2.2 i0)), (1, .int v1), (3, .int v3), (5, .int v5), (6, .int v6), (9, .int v9), (10, .int v10), (11, .int v11), (12, .int v12), (13, .int v13), (14, .int v14), (16, .int v16)] [.int s0] x := by
  unfold fL_isAskingSo_b473 at hf
  refine b_istore (lv' := [(15, .int s0), (0, .ref (G.2.2 i0)), (1, .int v1), (3, .int v3), (5, .int v5), (6, .int v6), (9, .int v9), (10, .int v10), (11, .int v11), (12, .int v12), (13, .int v13), (14, .int v14), (16, .int v16)]) C dL_isAskingSo_473 (by decide) rfl ?_
  refine b_iinc (q := 12) (v' := (v16 + 1)) (lv' := [(16, .int (v16 + 1)), (15, .int s0), (0, .ref (G.2.2 i0)), (1, .int v1), (3, .int v3), (5, .int v5), (6, .int v6), (9, .int v9), (10, .int v10), (11, .int v11), (12, .int v12), (13, .int v13), (14, .int v14)]) C dL_isAskingSo_475 rfl rfl (by decide) rfl ?_
  refine b_goto (tgt := 413) C dL_isAskingSo_478 (by decide) ?_
  refine b_pm [2, 3, 4, 5, 6, 7, 8, 9, 10, 11, 12, 1, 0] (lv' := [(0, .ref (G.2.2 i0)), (1, .int v1), (3, .int v3), (5, .int v5), (6, .int v6), (9, .int v9), (10, .int v10), (11, .int v11), (12, .int v12), (13, .int v13), (14, .int v14), (15, .int s0), (16, .int (v16 + 1))]) rfl ?_
  exact h413 _ _ _ _ _ _ _ _ _ _ _ hf
set_option maxHeartbeats 4000000 in
set_option maxRecDepth 100000 in
theorem wL_isAskingSo_b472 (C : CT p s m args meth c cL_isAskingSo 18 RL (some (.boolean)) G (pA G s.heap.size)) {k413 : Int32 → Int32 → Int32 → Int32 → Int32 → Int32 → Int32 → Int32 → Int32 → Int32 → xS → Option (Int32 × xS)} {i0 : Nat} {v1 : Int32} {v3 : Int32} {v5 : Int32} {v6 : Int32} {v9 : Int32} {v10 : Int32} {v11 : Int32} {v12 : Int32} {v13 : Int32} {v14 : Int32} {v16 : Int32} {x : xS} {r : (Int32 × xS)} (h413 : ∀ (v5 : Int32) (v6 : Int32) (v9 : Int32) (v10 : Int32) (v11 : Int32) (v12 : Int32) (v13 : Int32) (v14 : Int32) (v15 : Int32) (v16 : Int32) (x : xS), k413 v5 v6 v9 v10 v11 v12 v13 v14 v15 v16 x = some r → WB p l e rL_isAskingSo s m args below meth c 18 G (pA G s.heap.size) (qI below G r args s 0 0) 0 0 413 [(0, .ref (G.2.2 i0)), (1, .int v1), (3, .int v3), (5, .int v5), (6, .int v6), (9, .int v9), (10, .int v10), (11, .int v11), (12, .int v12), (13, .int v13), (14, .int v14), (15, .int v15), (16, .int v16)] [] x) (hk0 : KD G i0 6) (hf : fL_isAskingSo_b472 k413 i0 v1 v3 v5 v6 v9 v10 v11 v12 v13 v14 v16 x = some r) : WB p l e rL_isAskingSo s m args below meth c 18 G (pA G s.heap.size) (qI below G r args s 0 0) 0 0 472 [(0, .ref (G.2.2 i0)), (1, .int v1), (3, .int v3), (5, .int v5), (6, .int v6), (9, .int v9), (10, .int v10), (11, .int v11), (12, .int v12), (13, .int v13), (14, .int v14), (16, .int v16)] [] x := by
  unfold fL_isAskingSo_b472 at hf
  refine b_iconst (v := 0) C dL_isAskingSo_472 (by decide) ?_
  exact wL_isAskingSo_b473 C h413 hk0 hf
set_option maxHeartbeats 4000000 in
set_option maxRecDepth 100000 in
theorem wL_isAskingSo_b468 (C : CT p s m args meth c cL_isAskingSo 18 RL (some (.boolean)) G (pA G s.heap.size)) {k413 : Int32 → Int32 → Int32 → Int32 → Int32 → Int32 → Int32 → Int32 → Int32 → Int32 → xS → Option (Int32 × xS)} {i0 : Nat} {v1 : Int32} {v3 : Int32} {v5 : Int32} {v6 : Int32} {v9 : Int32} {v10 : Int32} {v11 : Int32} {v12 : Int32} {v13 : Int32} {v14 : Int32} {v16 : Int32} {x : xS} {r : (Int32 × xS)} (h413 : ∀ (v5 : Int32) (v6 : Int32) (v9 : Int32) (v10 : Int32) (v11 : Int32) (v12 : Int32) (v13 : Int32) (v14 : Int32) (v15 : Int32) (v16 : Int32) (x : xS), k413 v5 v6 v9 v10 v11 v12 v13 v14 v15 v16 x = some r → WB p l e rL_isAskingSo s m args below meth c 18 G (pA G s.heap.size) (qI below G r args s 0 0) 0 0 413 [(0, .ref (G.2.2 i0)), (1, .int v1), (3, .int v3), (5, .int v5), (6, .int v6), (9, .int v9), (10, .int v10), (11, .int v11), (12, .int v12), (13, .int v13), (14, .int v14), (15, .int v15), (16, .int v16)] [] x) (hk0 : KD G i0 6) (hf : fL_isAskingSo_b468 k413 i0 v1 v3 v5 v6 v9 v10 v11 v12 v13 v14 v16 x = some r) : WB p l e rL_isAskingSo s m args below meth c 18 G (pA G s.heap.size) (qI below G r args s 0 0) 0 0 468 [(0, .ref (G.2.2 i0)), (1, .int v1), (3, .int v3), (5, .int v5), (6, .int v6), (9, .int v9), (10, .int v10), (11, .int v11), (12, .int v12), (13, .int v13), (14, .int v14), (16, .int v16)] [] x := by
  unfold fL_isAskingSo_b468 at hf
  refine b_iconst (v := 1) C dL_isAskingSo_468 (by decide) ?_
  refine b_goto (tgt := 473) C dL_isAskingSo_469 (by decide) ?_
  exact wL_isAskingSo_b473 C h413 hk0 hf
set_option maxHeartbeats 4000000 in
set_option maxRecDepth 100000 in
theorem wL_isAskingSo_b436 (C : CT p s m args meth c cL_isAskingSo 18 RL (some (.boolean)) G (pA G s.heap.size)) {k413 : Int32 → Int32 → Int32 → Int32 → Int32 → Int32 → Int32 → Int32 → Int32 → Int32 → xS → Option (Int32 × xS)} {i0 : Nat} {v1 : Int32} {v3 : Int32} {v5 : Int32} {v6 : Int32} {v9 : Int32} {v10 : Int32} {v11 : Int32} {v12 : Int32} {v13 : Int32} {v14 : Int32} {v15 : Int32} {v16 : Int32} {s0 : Int32} {x : xS} {r : (Int32 × xS)} (h413 : ∀ (v5 : Int32) (v6 : Int32) (v9 : Int32) (v10 : Int32) (v11 : Int32) (v12 : Int32) (v13 : Int32) (v14 : Int32) (v15 : Int32) (v16 : Int32) (x : xS), k413 v5 v6 v9 v10 v11 v12 v13 v14 v15 v16 x = some r → WB p l e rL_isAskingSo s m args below meth c 18 G (pA G s.heap.size) (qI below G r args s 0 0) 0 0 413 [(0, .ref (G.2.2 i0)), (1, .int v1), (3, .int v3), (5, .int v5), (6, .int v6), (9, .int v9), (10, .int v10), (11, .int v11), (12, .int v12), (13, .int v13), (14, .int v14), (15, .int v15), (16, .int v16)] [] x) (hk0 : KD G i0 6) (hf : fL_isAskingSo_b436 k413 i0 v1 v3 v5 v6 v9 v10 v11 v12 v13 v14 v15 v16 s0 x = some r) : WB p l e rL_isAskingSo s m args below meth c 18 G (pA G s.heap.size) (qI below G r args s 0 0) 0 0 436 [(0, .ref (G.2.2 i0)), (1, .int v1), (3, .int v3), (5, .int v5), (6, .int v6), (9, .int v9), (10, .int v10), (11, .int v11), (12, .int v12), (13, .int v13), (14, .int v14), (15, .int v15), (16, .int v16)] [.int s0] x := by
  unfold fL_isAskingSo_b436 at hf
  refine b_istore (lv' := [(17, .int s0), (0, .ref (G.2.2 i0)), (1, .int v1), (3, .int v3), (5, .int v5), (6, .int v6), (9, .int v9), (10, .int v10), (11, .int v11), (12, .int v12), (13, .int v13), (14, .int v14), (15, .int v15), (16, .int v16)]) C dL_isAskingSo_436 (by decide) rfl ?_
  refine b_iload C dL_isAskingSo_438 12 rfl ?_
  refine b_if_eq (tgt := 472) C dL_isAskingSo_440 (by decide) (fun c440 => ?_) (fun c440 => ?_)
  · have hf := iT c440 hf
    refine b_pm [1, 2, 3, 4, 5, 6, 7, 8, 9, 10, 11, 13] (lv' := [(0, .ref (G.2.2 i0)), (1, .int v1), (3, .int v3), (5, .int v5), (6, .int v6), (9, .int v9), (10, .int v10), (11, .int v11), (12, .int v12), (13, .int v13), (14, .int v14), (16, .int v16)]) rfl ?_
    exact wL_isAskingSo_b472 C h413 hk0 hf
  · have hf := iF c440 hf
    refine b_iload C dL_isAskingSo_443 0 rfl ?_
    refine b_if_eq (tgt := 468) C dL_isAskingSo_445 (by decide) (fun c445 => ?_) (fun c445 => ?_)
    · have hf := iT c445 hf
      refine b_pm [1, 2, 3, 4, 5, 6, 7, 8, 9, 10, 11, 13] (lv' := [(0, .ref (G.2.2 i0)), (1, .int v1), (3, .int v3), (5, .int v5), (6, .int v6), (9, .int v9), (10, .int v10), (11, .int v11), (12, .int v12), (13, .int v13), (14, .int v14), (16, .int v16)]) rfl ?_
      exact wL_isAskingSo_b468 C h413 hk0 hf
    · have hf := iF c445 hf
      refine b_aload_n C dL_isAskingSo_448 rfl 1 rfl ?_
      refine b_iload C dL_isAskingSo_449 13 rfl ?_
      refine b_iconst (v := 1) C dL_isAskingSo_451 (by decide) ?_
      obtain ⟨r452, c452, hf⟩ := oB hf
      refine b_callVi (K := 6) (As := [.int v16, .int 1]) (res := (r452, x)) C (metpX6_lodgerOf l G _ _ _ _ _ hk0 c452) hk0 (by decide) rfl gkL_56 ekL_56 rfl ⟨rfl, rfl⟩ ⟨Nat.le_of_ble_eq_true rfl, Nat.le_of_ble_eq_true rfl⟩ (by simp [Value.category]) ⟨Nat.zero_le _, Nat.zero_le _⟩ rfl dL_isAskingSo_452 ?_
      refine b_if_le (tgt := 472) C dL_isAskingSo_455 (by decide) (fun c455 => ?_) (fun c455 => ?_)
      · have hf := iT c455 hf
        refine b_pm [1, 2, 3, 4, 5, 6, 7, 8, 9, 10, 11, 13] (lv' := [(0, .ref (G.2.2 i0)), (1, .int v1), (3, .int v3), (5, .int v5), (6, .int v6), (9, .int v9), (10, .int v10), (11, .int v11), (12, .int v12), (13, .int v13), (14, .int v14), (16, .int v16)]) rfl ?_
        exact wL_isAskingSo_b472 C h413 hk0 hf
      · have hf := iF c455 hf
        refine b_aload_n C dL_isAskingSo_458 rfl 1 rfl ?_
        refine b_iload C dL_isAskingSo_459 13 rfl ?_
        refine b_iconst (v := 5) C dL_isAskingSo_461 (by decide) ?_
        obtain ⟨r462, c462, hf⟩ := oB hf
        refine b_callVi (K := 6) (As := [.int v16, .int 5]) (res := (r462, x)) C (metpX6_lodgerOf l G _ _ _ _ _ hk0 c462) hk0 (by decide) rfl gkL_56 ekL_56 rfl ⟨rfl, rfl⟩ ⟨Nat.le_of_ble_eq_true rfl, Nat.le_of_ble_eq_true rfl⟩ (by simp [Value.category]) ⟨Nat.zero_le _, Nat.zero_le _⟩ rfl dL_isAskingSo_462 ?_
        refine b_if_le (tgt := 472) C dL_isAskingSo_465 (by decide) (fun c465 => ?_) (fun c465 => ?_)
        · have hf := iT c465 hf
          refine b_pm [1, 2, 3, 4, 5, 6, 7, 8, 9, 10, 11, 13] (lv' := [(0, .ref (G.2.2 i0)), (1, .int v1), (3, .int v3), (5, .int v5), (6, .int v6), (9, .int v9), (10, .int v10), (11, .int v11), (12, .int v12), (13, .int v13), (14, .int v14), (16, .int v16)]) rfl ?_
          exact wL_isAskingSo_b472 C h413 hk0 hf
        · have hf := iF c465 hf
          refine b_pm [1, 2, 3, 4, 5, 6, 7, 8, 9, 10, 11, 13] (lv' := [(0, .ref (G.2.2 i0)), (1, .int v1), (3, .int v3), (5, .int v5), (6, .int v6), (9, .int v9), (10, .int v10), (11, .int v11), (12, .int v12), (13, .int v13), (14, .int v14), (16, .int v16)]) rfl ?_
          exact wL_isAskingSo_b468 C h413 hk0 hf
set_option maxHeartbeats 4000000 in
set_option maxRecDepth 100000 in
theorem wL_isAskingSo_b413 (C : CT p s m args meth c cL_isAskingSo 18 RL (some (.boolean)) G (pA G s.heap.size)) {i0 : Nat} {v1 : Int32} {v3 : Int32} {r : (Int32 × xS)} (hk0 : KD G i0 6) : ∀ (n : Nat) (v5 : Int32) (v6 : Int32) (v9 : Int32) (v10 : Int32) (v11 : Int32) (v12 : Int32) (v13 : Int32) (v14 : Int32) (v15 : Int32) (v16 : Int32) (x : xS), fL_isAskingSo_b413 i0 v1 v3 n v5 v6 v9 v10 v11 v12 v13 v14 v15 v16 x = some r → WB p l e rL_isAskingSo s m args below meth c 18 G (pA G s.heap.size) (qI below G r args s 0 0) 0 0 413 [(0, .ref (G.2.2 i0)), (1, .int v1), (3, .int v3), (5, .int v5), (6, .int v6), (9, .int v9), (10, .int v10), (11, .int v11), (12, .int v12), (13, .int v13), (14, .int v14), (15, .int v15), (16, .int v16)] [] x := by
  intro n
  induction n with
  | zero =>
    intro v5 v6 v9 v10 v11 v12 v13 v14 v15 v16 x hf
    cases hf
  | succ n ih =>
    intro v5 v6 v9 v10 v11 v12 v13 v14 v15 v16 x hf
    rw [fL_isAskingSo_b413] at hf
    refine b_iload C dL_isAskingSo_413 12 rfl ?_
    refine b_bipush (v := 10) C dL_isAskingSo_415 (by decide) ?_
    refine b_icmp_ge (tgt := 481) C dL_isAskingSo_417 (by decide) (fun c417 => ?_) (fun c417 => ?_)
    · have hf := iT c417 hf
      refine b_iload C dL_isAskingSo_481 11 rfl ?_
      refine b_if_eq (tgt := 616) C dL_isAskingSo_483 (by decide) (fun c483 => ?_) (fun c483 => ?_)
      · have hf := iT c483 hf
        refine b_pm [0] (lv' := [(0, .ref (G.2.2 i0))]) rfl ?_
        exact wL_isAskingSo_b616 C  hk0 hf
      · have hf := iF c483 hf
        refine b_aload_n C dL_isAskingSo_486 rfl 0 rfl ?_
        refine b_iload_n C dL_isAskingSo_487 rfl 1 rfl ?_
        refine b_iconst (v := 1) C dL_isAskingSo_488 (by decide) ?_
        obtain ⟨r489, c489, hf⟩ := oB hf
        refine b_callVi (K := 6) (As := [.int v1, .int 1]) (res := (r489, x)) C (metpX6_lodgerOf l G _ _ _ _ _ hk0 c489) hk0 (by decide) rfl gkL_56 ekL_56 rfl ⟨rfl, rfl⟩ ⟨Nat.le_of_ble_eq_true rfl, Nat.le_of_ble_eq_true rfl⟩ (by simp [Value.category]) ⟨Nat.zero_le _, Nat.zero_le _⟩ rfl dL_isAskingSo_489 ?_
        refine b_if_ne (tgt := 616) C dL_isAskingSo_492 (by decide) (fun c492 => ?_) (fun c492 => ?_)
        · have hf := iF c492 hf
          refine b_pm [0] (lv' := [(0, .ref (G.2.2 i0))]) rfl ?_
          exact wL_isAskingSo_b616 C  hk0 hf
        · have hf := iT c492 hf
          refine b_aload_n C dL_isAskingSo_495 rfl 0 rfl ?_
          refine b_iload_n C dL_isAskingSo_496 rfl 1 rfl ?_
          refine b_iconst (v := 2) C dL_isAskingSo_497 (by decide) ?_
          obtain ⟨r498, c498, hf⟩ := oB hf
          refine b_callVi (K := 6) (As := [.int v1, .int 2]) (res := (r498, x)) C (metpX6_lodgerOf l G _ _ _ _ _ hk0 c498) hk0 (by decide) rfl gkL_56 ekL_56 rfl ⟨rfl, rfl⟩ ⟨Nat.le_of_ble_eq_true rfl, Nat.le_of_ble_eq_true rfl⟩ (by simp [Value.category]) ⟨Nat.zero_le _, Nat.zero_le _⟩ rfl dL_isAskingSo_498 ?_
          refine b_iload C dL_isAskingSo_501 3 rfl ?_
          refine b_if_ne (tgt := 511) C dL_isAskingSo_503 (by decide) (fun c503 => ?_) (fun c503 => ?_)
          · have hf := iF c503 hf
            refine b_pm [0, 1, 2, 5, 6, 7, 8, 9, 10] (lv' := [(0, .ref (G.2.2 i0)), (1, .int v1), (3, .int v3), (9, .int v9), (10, .int v10), (11, .int v11), (12, .int v12), (13, .int v13), (14, .int v14)]) rfl ?_
            exact wL_isAskingSo_b511 C  hk0 hf
          · have hf := iT c503 hf
            refine b_iload C dL_isAskingSo_506 4 rfl ?_
            refine b_if_eq (tgt := 516) C dL_isAskingSo_508 (by decide) (fun c508 => ?_) (fun c508 => ?_)
            · have hf := iT c508 hf
              refine b_iload C dL_isAskingSo_516 7 rfl ?_
              refine b_iconst (v := 1) C dL_isAskingSo_518 (by decide) ?_
              refine b_isub C dL_isAskingSo_519 ?_
              refine b_pm [0, 1, 2, 5, 6, 8, 9, 10] (lv' := [(0, .ref (G.2.2 i0)), (1, .int v1), (3, .int v3), (9, .int v9), (10, .int v10), (12, .int v12), (13, .int v13), (14, .int v14)]) rfl ?_
              exact wL_isAskingSo_b520 C  hk0 hf
            · have hf := iF c508 hf
              refine b_pm [0, 1, 2, 5, 6, 7, 8, 9, 10] (lv' := [(0, .ref (G.2.2 i0)), (1, .int v1), (3, .int v3), (9, .int v9), (10, .int v10), (11, .int v11), (12, .int v12), (13, .int v13), (14, .int v14)]) rfl ?_
              exact wL_isAskingSo_b511 C  hk0 hf
    · have hf := iF c417 hf
      refine b_iload C dL_isAskingSo_420 5 rfl ?_
      refine b_iload C dL_isAskingSo_422 12 rfl ?_
      refine b_ishr C dL_isAskingSo_424 ?_
      refine b_iconst (v := 1) C dL_isAskingSo_425 (by decide) ?_
      refine b_iand C dL_isAskingSo_426 ?_
      refine b_iconst (v := 1) C dL_isAskingSo_427 (by decide) ?_
      refine b_icmp_ne (tgt := 435) C dL_isAskingSo_428 (by decide) (fun c428 => ?_) (fun c428 => ?_)
      · have hf := iF c428 hf
        refine b_iconst (v := 0) C dL_isAskingSo_435 (by decide) ?_
        exact wL_isAskingSo_b436 C ih hk0 hf
      · have hf := iT c428 hf
        refine b_iconst (v := 1) C dL_isAskingSo_431 (by decide) ?_
        refine b_goto (tgt := 436) C dL_isAskingSo_432 (by decide) ?_
        exact wL_isAskingSo_b436 C ih hk0 hf
set_option maxHeartbeats 4000000 in
set_option maxRecDepth 100000 in
theorem wL_isAskingSo_b402 (C : CT p s m args meth c cL_isAskingSo 18 RL (some (.boolean)) G (pA G s.heap.size)) {k369 : Int32 → Int32 → Int32 → Int32 → Int32 → Int32 → Int32 → Int32 → Int32 → Int32 → Int32 → xS → Option (Int32 × xS)} {i0 : Nat} {v1 : Int32} {v2 : Int32} {v3 : Int32} {v5 : Int32} {v6 : Int32} {v8 : Int32} {v9 : Int32} {v10 : Int32} {v11 : Int32} {v12 : Int32} {v13 : Int32} {v14 : Int32} {v16 : Int32} {s0 : Int32} {x : xS} {r : (Int32 × xS)} (h369 : ∀ (v5 : Int32) (v6 : Int32) (v8 : Int32) (v9 : Int32) (v10 : Int32) (v11 : Int32) (v12 : Int32) (v13 : Int32) (v14 : Int32) (v15 : Int32) (v16 : Int32) (x : xS), k369 v5 v6 v8 v9 v10 v11 v12 v13 v14 v15 v16 x = some r → WB p l e rL_isAskingSo s m args below meth c 18 G (pA G s.heap.size) (qI below G r args s 0 0) 0 0 369 [(0, .ref (G.2.2 i0)), (1, .int v1), (2, .int v2), (3, .int v3), (5, .int v5), (6, .int v6), (8, .int v8), (9, .int v9), (10, .int v10), (11, .int v11), (12, .int v12), (13, .int v13), (14, .int v14), (15, .int v15), (16, .int v16)] [] x) (hk0 : KD G i0 6) (hf : fL_isAskingSo_b402 k369 i0 v1 v2 v3 v5 v6 v8 v9 v10 v11 v12 v13 v14 v16 s0 x = some r) : WB p l e rL_isAskingSo s m args below meth c 18 G (pA G s.heap.size) (qI below G r args s 0 0) 0 0 402 [(0, .ref (G.2.2 i0)), (1, .int v1), (2, .int v2), (3, .int v3), (5, .int v5), (6, .int v6), (8, .int v8), (9, .int v9), (10, .int v10), (11, .int v11), (12, .int v12), (13, .int v13), (14, .int v14), (16, .int v16)] [.int s0] x := by
  unfold fL_isAskingSo_b402 at hf
  refine b_istore (lv' := [(15, .int s0), (0, .ref (G.2.2 i0)), (1, .int v1), (2, .int v2), (3, .int v3), (5, .int v5), (6, .int v6), (8, .int v8), (9, .int v9), (10, .int v10), (11, .int v11), (12, .int v12), (13, .int v13), (14, .int v14), (16, .int v16)]) C dL_isAskingSo_402 (by decide) rfl ?_
  refine b_iinc (q := 14) (v' := (v16 + 1)) (lv' := [(16, .int (v16 + 1)), (15, .int s0), (0, .ref (G.2.2 i0)), (1, .int v1), (2, .int v2), (3, .int v3), (5, .int v5), (6, .int v6), (8, .int v8), (9, .int v9), (10, .int v10), (11, .int v11), (12, .int v12), (13, .int v13), (14, .int v14)]) C dL_isAskingSo_404 rfl rfl (by decide) rfl ?_
  refine b_goto (tgt := 369) C dL_isAskingSo_407 (by decide) ?_
  refine b_pm [2, 3, 4, 5, 6, 7, 8, 9, 10, 11, 12, 13, 14, 1, 0] (lv' := [(0, .ref (G.2.2 i0)), (1, .int v1), (2, .int v2), (3, .int v3), (5, .int v5), (6, .int v6), (8, .int v8), (9, .int v9), (10, .int v10), (11, .int v11), (12, .int v12), (13, .int v13), (14, .int v14), (15, .int s0), (16, .int (v16 + 1))]) rfl ?_
  exact h369 _ _ _ _ _ _ _ _ _ _ _ _ hf
set_option maxHeartbeats 4000000 in
set_option maxRecDepth 100000 in
theorem wL_isAskingSo_b401 (C : CT p s m args meth c cL_isAskingSo 18 RL (some (.boolean)) G (pA G s.heap.size)) {k369 : Int32 → Int32 → Int32 → Int32 → Int32 → Int32 → Int32 → Int32 → Int32 → Int32 → Int32 → xS → Option (Int32 × xS)} {i0 : Nat} {v1 : Int32} {v2 : Int32} {v3 : Int32} {v5 : Int32} {v6 : Int32} {v8 : Int32} {v9 : Int32} {v10 : Int32} {v11 : Int32} {v12 : Int32} {v13 : Int32} {v14 : Int32} {v16 : Int32} {x : xS} {r : (Int32 × xS)} (h369 : ∀ (v5 : Int32) (v6 : Int32) (v8 : Int32) (v9 : Int32) (v10 : Int32) (v11 : Int32) (v12 : Int32) (v13 : Int32) (v14 : Int32) (v15 : Int32) (v16 : Int32) (x : xS), k369 v5 v6 v8 v9 v10 v11 v12 v13 v14 v15 v16 x = some r → WB p l e rL_isAskingSo s m args below meth c 18 G (pA G s.heap.size) (qI below G r args s 0 0) 0 0 369 [(0, .ref (G.2.2 i0)), (1, .int v1), (2, .int v2), (3, .int v3), (5, .int v5), (6, .int v6), (8, .int v8), (9, .int v9), (10, .int v10), (11, .int v11), (12, .int v12), (13, .int v13), (14, .int v14), (15, .int v15), (16, .int v16)] [] x) (hk0 : KD G i0 6) (hf : fL_isAskingSo_b401 k369 i0 v1 v2 v3 v5 v6 v8 v9 v10 v11 v12 v13 v14 v16 x = some r) : WB p l e rL_isAskingSo s m args below meth c 18 G (pA G s.heap.size) (qI below G r args s 0 0) 0 0 401 [(0, .ref (G.2.2 i0)), (1, .int v1), (2, .int v2), (3, .int v3), (5, .int v5), (6, .int v6), (8, .int v8), (9, .int v9), (10, .int v10), (11, .int v11), (12, .int v12), (13, .int v13), (14, .int v14), (16, .int v16)] [] x := by
  unfold fL_isAskingSo_b401 at hf
  refine b_iconst (v := 0) C dL_isAskingSo_401 (by decide) ?_
  exact wL_isAskingSo_b402 C h369 hk0 hf
set_option maxHeartbeats 4000000 in
set_option maxRecDepth 100000 in
theorem wL_isAskingSo_b369 (C : CT p s m args meth c cL_isAskingSo 18 RL (some (.boolean)) G (pA G s.heap.size)) {i0 : Nat} {v1 : Int32} {v2 : Int32} {v3 : Int32} {r : (Int32 × xS)} (hk0 : KD G i0 6) : ∀ (n : Nat) (v5 : Int32) (v6 : Int32) (v8 : Int32) (v9 : Int32) (v10 : Int32) (v11 : Int32) (v12 : Int32) (v13 : Int32) (v14 : Int32) (v15 : Int32) (v16 : Int32) (x : xS), fL_isAskingSo_b369 i0 v1 v2 v3 n v5 v6 v8 v9 v10 v11 v12 v13 v14 v15 v16 x = some r → WB p l e rL_isAskingSo s m args below meth c 18 G (pA G s.heap.size) (qI below G r args s 0 0) 0 0 369 [(0, .ref (G.2.2 i0)), (1, .int v1), (2, .int v2), (3, .int v3), (5, .int v5), (6, .int v6), (8, .int v8), (9, .int v9), (10, .int v10), (11, .int v11), (12, .int v12), (13, .int v13), (14, .int v14), (15, .int v15), (16, .int v16)] [] x := by
  intro n
  induction n with
  | zero =>
    intro v5 v6 v8 v9 v10 v11 v12 v13 v14 v15 v16 x hf
    cases hf
  | succ n ih =>
    intro v5 v6 v8 v9 v10 v11 v12 v13 v14 v15 v16 x hf
    rw [fL_isAskingSo_b369] at hf
    refine b_iload C dL_isAskingSo_369 14 rfl ?_
    refine b_iload_n C dL_isAskingSo_371 rfl 2 rfl ?_
    refine b_iload_n C dL_isAskingSo_372 rfl 3 rfl ?_
    refine b_iadd C dL_isAskingSo_373 ?_
    refine b_icmp_ge (tgt := 410) C dL_isAskingSo_374 (by decide) (fun c374 => ?_) (fun c374 => ?_)
    · have hf := iT c374 hf
      refine b_iconst (v := 0) C dL_isAskingSo_410 (by decide) ?_
      refine b_istore (lv' := [(16, .int 0), (0, .ref (G.2.2 i0)), (1, .int v1), (2, .int v2), (3, .int v3), (5, .int v5), (6, .int v6), (8, .int v8), (9, .int v9), (10, .int v10), (11, .int v11), (12, .int v12), (13, .int v13), (14, .int v14), (15, .int v15)]) C dL_isAskingSo_411 (by decide) rfl ?_
      refine b_pm [1, 2, 4, 5, 6, 8, 9, 10, 11, 12, 13, 14, 0] (lv' := [(0, .ref (G.2.2 i0)), (1, .int v1), (3, .int v3), (5, .int v5), (6, .int v6), (9, .int v9), (10, .int v10), (11, .int v11), (12, .int v12), (13, .int v13), (14, .int v14), (15, .int v15), (16, .int 0)]) rfl ?_
      exact wL_isAskingSo_b413 C  hk0 FU _ _ _ _ _ _ _ _ _ _ _ hf
    · have hf := iF c374 hf
      refine b_iload C dL_isAskingSo_377 13 rfl ?_
      refine b_if_eq (tgt := 401) C dL_isAskingSo_379 (by decide) (fun c379 => ?_) (fun c379 => ?_)
      · have hf := iT c379 hf
        refine b_pm [0, 1, 2, 3, 4, 5, 6, 7, 8, 9, 10, 11, 12, 14] (lv' := [(0, .ref (G.2.2 i0)), (1, .int v1), (2, .int v2), (3, .int v3), (5, .int v5), (6, .int v6), (8, .int v8), (9, .int v9), (10, .int v10), (11, .int v11), (12, .int v12), (13, .int v13), (14, .int v14), (16, .int v16)]) rfl ?_
        exact wL_isAskingSo_b401 C ih hk0 hf
      · have hf := iF c379 hf
        refine b_aload_n C dL_isAskingSo_382 rfl 0 rfl ?_
        refine b_iload C dL_isAskingSo_383 6 rfl ?_
        refine b_bipush (v := 10) C dL_isAskingSo_385 (by decide) ?_
        refine b_isub C dL_isAskingSo_387 ?_
        refine b_iload C dL_isAskingSo_388 14 rfl ?_
        obtain ⟨r390, c390, hf⟩ := oB hf
        refine b_callVi (K := 6) (As := [.int (v8 - 10), .int v16]) (res := (r390, x)) C (metpX6_at l G _ _ _ _ _ hk0 c390) hk0 (by decide) rfl gkL_59 ekL_59 rfl ⟨rfl, rfl⟩ ⟨Nat.le_of_ble_eq_true rfl, Nat.le_of_ble_eq_true rfl⟩ (by simp [Value.category]) ⟨Nat.zero_le _, Nat.zero_le _⟩ rfl dL_isAskingSo_390 ?_
        refine b_iload_n C dL_isAskingSo_393 rfl 1 rfl ?_
        refine b_icmp_ne (tgt := 401) C dL_isAskingSo_394 (by decide) (fun c394 => ?_) (fun c394 => ?_)
        · have hf := iF c394 hf
          refine b_pm [0, 1, 2, 3, 4, 5, 6, 7, 8, 9, 10, 11, 12, 14] (lv' := [(0, .ref (G.2.2 i0)), (1, .int v1), (2, .int v2), (3, .int v3), (5, .int v5), (6, .int v6), (8, .int v8), (9, .int v9), (10, .int v10), (11, .int v11), (12, .int v12), (13, .int v13), (14, .int v14), (16, .int v16)]) rfl ?_
          exact wL_isAskingSo_b401 C ih hk0 hf
        · have hf := iT c394 hf
          refine b_iconst (v := 1) C dL_isAskingSo_397 (by decide) ?_
          refine b_goto (tgt := 402) C dL_isAskingSo_398 (by decide) ?_
          refine b_pm [0, 1, 2, 3, 4, 5, 6, 7, 8, 9, 10, 11, 12, 14] (lv' := [(0, .ref (G.2.2 i0)), (1, .int v1), (2, .int v2), (3, .int v3), (5, .int v5), (6, .int v6), (8, .int v8), (9, .int v9), (10, .int v10), (11, .int v11), (12, .int v12), (13, .int v13), (14, .int v14), (16, .int v16)]) rfl ?_
          exact wL_isAskingSo_b402 C ih hk0 hf
set_option maxHeartbeats 4000000 in
set_option maxRecDepth 100000 in
theorem wL_isAskingSo_b364 (C : CT p s m args meth c cL_isAskingSo 18 RL (some (.boolean)) G (pA G s.heap.size)) {i0 : Nat} {x : xS} {r : (Int32 × xS)} (hk0 : KD G i0 6) (hf : fL_isAskingSo_b364 i0 x = some r) : WB p l e rL_isAskingSo s m args below meth c 18 G (pA G s.heap.size) (qI below G r args s 0 0) 0 0 364 [(0, .ref (G.2.2 i0))] [] x := by
  unfold fL_isAskingSo_b364 at hf
  refine b_iconst (v := 0) C dL_isAskingSo_364 (by decide) ?_
  exact b_iretz C (by decide) dL_isAskingSo_365 hf
set_option maxHeartbeats 4000000 in
set_option maxRecDepth 100000 in
theorem wL_isAskingSo_b329 (C : CT p s m args meth c cL_isAskingSo 18 RL (some (.boolean)) G (pA G s.heap.size)) {i0 : Nat} {v1 : Int32} {v11 : Int32} {v14 : Int32} {s0 : Int32} {s1 : Int32} {x : xS} {r : (Int32 × xS)} (hk0 : KD G i0 6) (hf : fL_isAskingSo_b329 i0 v1 v11 v14 s0 s1 x = some r) : WB p l e rL_isAskingSo s m args below meth c 18 G (pA G s.heap.size) (qI below G r args s 0 0) 0 0 329 [(0, .ref (G.2.2 i0)), (1, .int v1), (11, .int v11), (14, .int v14)] [.int s1, .int s0] x := by
  unfold fL_isAskingSo_b329 at hf
  refine b_icmp_ne (tgt := 364) C dL_isAskingSo_329 (by decide) (fun c329 => ?_) (fun c329 => ?_)
  · have hf := iF c329 hf
    refine b_pm [0] (lv' := [(0, .ref (G.2.2 i0))]) rfl ?_
    exact wL_isAskingSo_b364 C  hk0 hf
  · have hf := iT c329 hf
    refine b_aload_n C dL_isAskingSo_332 rfl 0 rfl ?_
    refine b_iload_n C dL_isAskingSo_333 rfl 1 rfl ?_
    refine b_iconst (v := 2) C dL_isAskingSo_334 (by decide) ?_
    obtain ⟨r335, c335, hf⟩ := oB hf
    refine b_callVi (K := 6) (As := [.int v1, .int 2]) (res := (r335, x)) C (metpX6_lodgerOf l G _ _ _ _ _ hk0 c335) hk0 (by decide) rfl gkL_56 ekL_56 rfl ⟨rfl, rfl⟩ ⟨Nat.le_of_ble_eq_true rfl, Nat.le_of_ble_eq_true rfl⟩ (by simp [Value.category]) ⟨Nat.zero_le _, Nat.zero_le _⟩ rfl dL_isAskingSo_335 ?_
    refine b_iload C dL_isAskingSo_338 2 rfl ?_
    refine b_icmp_ne (tgt := 364) C dL_isAskingSo_340 (by decide) (fun c340 => ?_) (fun c340 => ?_)
    · have hf := iF c340 hf
      refine b_pm [0] (lv' := [(0, .ref (G.2.2 i0))]) rfl ?_
      exact wL_isAskingSo_b364 C  hk0 hf
    · have hf := iT c340 hf
      refine b_aload_n C dL_isAskingSo_343 rfl 0 rfl ?_
      refine b_iconst (v := 2) C dL_isAskingSo_344 (by decide) ?_
      obtain ⟨r345, c345, hf⟩ := oB hf
      refine b_callVi (K := 6) (As := [.int 2]) (res := (r345, x)) C (metpX6_count l G _ _ _ _ hk0 c345) hk0 (by decide) rfl gkL_53 ekL_53 rfl ⟨rfl, rfl⟩ ⟨Nat.le_of_ble_eq_true rfl, Nat.le_of_ble_eq_true rfl⟩ (by simp [Value.category]) ⟨Nat.zero_le _, Nat.zero_le _⟩ rfl dL_isAskingSo_345 ?_
      refine b_iload C dL_isAskingSo_348 3 rfl ?_
      refine b_icmp_ne (tgt := 364) C dL_isAskingSo_350 (by decide) (fun c350 => ?_) (fun c350 => ?_)
      · have hf := iF c350 hf
        refine b_pm [0] (lv' := [(0, .ref (G.2.2 i0))]) rfl ?_
        exact wL_isAskingSo_b364 C  hk0 hf
      · have hf := iT c350 hf
        refine b_aload_n C dL_isAskingSo_353 rfl 0 rfl ?_
        obtain ⟨r354, c354, hf⟩ := oB hf
        refine b_callVi (K := 6) (As := []) (res := r354) C (metpX6_undo l G _ _ _ hk0 c354) hk0 (by decide) rfl gkL_87 ekL_87 rfl ⟨rfl, rfl⟩ ⟨Nat.le_of_ble_eq_true rfl, Nat.le_of_ble_eq_true rfl⟩ (by simp [Value.category]) ⟨Nat.zero_le _, Nat.zero_le _⟩ rfl dL_isAskingSo_354 ?_
        refine b_if_lt (tgt := 364) C dL_isAskingSo_357 (by decide) (fun c357 => ?_) (fun c357 => ?_)
        · have hf := iT c357 hf
          refine b_pm [0] (lv' := [(0, .ref (G.2.2 i0))]) rfl ?_
          exact wL_isAskingSo_b364 C  hk0 hf
        · have hf := iF c357 hf
          refine b_iconst (v := 1) C dL_isAskingSo_360 (by decide) ?_
          refine b_goto (tgt := 365) C dL_isAskingSo_361 (by decide) ?_
          exact b_iretz C (by decide) dL_isAskingSo_365 hf
set_option maxHeartbeats 4000000 in
set_option maxRecDepth 100000 in
theorem wL_isAskingSo_b320 (C : CT p s m args meth c cL_isAskingSo 18 RL (some (.boolean)) G (pA G s.heap.size)) {i0 : Nat} {v1 : Int32} {v10 : Int32} {v11 : Int32} {v14 : Int32} {s0 : Int32} {x : xS} {r : (Int32 × xS)} (hk0 : KD G i0 6) (hf : fL_isAskingSo_b320 i0 v1 v10 v11 v14 s0 x = some r) : WB p l e rL_isAskingSo s m args below meth c 18 G (pA G s.heap.size) (qI below G r args s 0 0) 0 0 320 [(0, .ref (G.2.2 i0)), (1, .int v1), (10, .int v10), (11, .int v11), (14, .int v14)] [.int s0] x := by
  unfold fL_isAskingSo_b320 at hf
  refine b_iload C dL_isAskingSo_320 2 rfl ?_
  refine b_goto (tgt := 329) C dL_isAskingSo_322 (by decide) ?_
  refine b_pm [0, 1, 3, 4] (lv' := [(0, .ref (G.2.2 i0)), (1, .int v1), (11, .int v11), (14, .int v14)]) rfl ?_
  exact wL_isAskingSo_b329 C  hk0 hf
set_option maxHeartbeats 4000000 in
set_option maxRecDepth 100000 in
theorem wL_isAskingSo_b289 (C : CT p s m args meth c cL_isAskingSo 18 RL (some (.boolean)) G (pA G s.heap.size)) {i0 : Nat} {v1 : Int32} {v2 : Int32} {v3 : Int32} {v5 : Int32} {v6 : Int32} {v7 : Int32} {v8 : Int32} {v9 : Int32} {v10 : Int32} {v11 : Int32} {v12 : Int32} {v13 : Int32} {v14 : Int32} {s0 : Int32} {x : xS} {r : (Int32 × xS)} (hk0 : KD G i0 6) (hf : fL_isAskingSo_b289 i0 v1 v2 v3 v5 v6 v7 v8 v9 v10 v11 v12 v13 v14 s0 x = some r) : WB p l e rL_isAskingSo s m args below meth c 18 G (pA G s.heap.size) (qI below G r args s 0 0) 0 0 289 [(0, .ref (G.2.2 i0)), (1, .int v1), (2, .int v2), (3, .int v3), (5, .int v5), (6, .int v6), (7, .int v7), (8, .int v8), (9, .int v9), (10, .int v10), (11, .int v11), (12, .int v12), (13, .int v13), (14, .int v14)] [.int s0] x := by
  unfold fL_isAskingSo_b289 at hf
  refine b_istore (lv' := [(15, .int s0), (0, .ref (G.2.2 i0)), (1, .int v1), (2, .int v2), (3, .int v3), (5, .int v5), (6, .int v6), (7, .int v7), (8, .int v8), (9, .int v9), (10, .int v10), (11, .int v11), (12, .int v12), (13, .int v13), (14, .int v14)]) C dL_isAskingSo_289 (by decide) rfl ?_
  refine b_iload C dL_isAskingSo_291 7 rfl ?_
  refine b_if_le (tgt := 366) C dL_isAskingSo_293 (by decide) (fun c293 => ?_) (fun c293 => ?_)
  · have hf := iT c293 hf
    refine b_iload_n C dL_isAskingSo_366 rfl 3 rfl ?_
    refine b_istore (lv' := [(16, .int v2), (15, .int s0), (0, .ref (G.2.2 i0)), (1, .int v1), (2, .int v2), (3, .int v3), (5, .int v5), (6, .int v6), (7, .int v7), (8, .int v8), (9, .int v9), (10, .int v10), (11, .int v11), (12, .int v12), (13, .int v13), (14, .int v14)]) C dL_isAskingSo_367 (by decide) rfl ?_
    refine b_pm [2, 3, 4, 5, 6, 7, 9, 10, 11, 12, 13, 14, 15, 1, 0] (lv' := [(0, .ref (G.2.2 i0)), (1, .int v1), (2, .int v2), (3, .int v3), (5, .int v5), (6, .int v6), (8, .int v8), (9, .int v9), (10, .int v10), (11, .int v11), (12, .int v12), (13, .int v13), (14, .int v14), (15, .int s0), (16, .int v2)]) rfl ?_
    exact wL_isAskingSo_b369 C  hk0 FU _ _ _ _ _ _ _ _ _ _ _ _ hf
  · have hf := iF c293 hf
    refine b_iload C dL_isAskingSo_296 0 rfl ?_
    refine b_if_eq (tgt := 364) C dL_isAskingSo_298 (by decide) (fun c298 => ?_) (fun c298 => ?_)
    · have hf := iT c298 hf
      refine b_pm [1] (lv' := [(0, .ref (G.2.2 i0))]) rfl ?_
      exact wL_isAskingSo_b364 C  hk0 hf
    · have hf := iF c298 hf
      refine b_aload_n C dL_isAskingSo_301 rfl 1 rfl ?_
      refine b_iload_n C dL_isAskingSo_302 rfl 2 rfl ?_
      refine b_iconst (v := 1) C dL_isAskingSo_303 (by decide) ?_
      obtain ⟨r304, c304, hf⟩ := oB hf
      refine b_callVi (K := 6) (As := [.int v1, .int 1]) (res := (r304, x)) C (metpX6_lodgerOf l G _ _ _ _ _ hk0 c304) hk0 (by decide) rfl gkL_56 ekL_56 rfl ⟨rfl, rfl⟩ ⟨Nat.le_of_ble_eq_true rfl, Nat.le_of_ble_eq_true rfl⟩ (by simp [Value.category]) ⟨Nat.zero_le _, Nat.zero_le _⟩ rfl dL_isAskingSo_304 ?_
      refine b_iload C dL_isAskingSo_307 7 rfl ?_
      refine b_iconst (v := 3) C dL_isAskingSo_309 (by decide) ?_
      refine b_icmp_lt (tgt := 320) C dL_isAskingSo_310 (by decide) (fun c310 => ?_) (fun c310 => ?_)
      · have hf := iT c310 hf
        refine b_pm [1, 2, 10, 11, 14] (lv' := [(0, .ref (G.2.2 i0)), (1, .int v1), (10, .int v10), (11, .int v11), (14, .int v14)]) rfl ?_
        exact wL_isAskingSo_b320 C  hk0 hf
      · have hf := iF c310 hf
        refine b_iload C dL_isAskingSo_313 10 rfl ?_
        refine b_bipush (v := 7) C dL_isAskingSo_315 (by decide) ?_
        refine b_icmp_ne (tgt := 325) C dL_isAskingSo_317 (by decide) (fun c317 => ?_) (fun c317 => ?_)
        · have hf := iF c317 hf
          refine b_iload C dL_isAskingSo_325 10 rfl ?_
          refine b_iconst (v := 1) C dL_isAskingSo_327 (by decide) ?_
          refine b_iadd C dL_isAskingSo_328 ?_
          refine b_pm [1, 2, 11, 14] (lv' := [(0, .ref (G.2.2 i0)), (1, .int v1), (11, .int v11), (14, .int v14)]) rfl ?_
          exact wL_isAskingSo_b329 C  hk0 hf
        · have hf := iT c317 hf
          refine b_pm [1, 2, 10, 11, 14] (lv' := [(0, .ref (G.2.2 i0)), (1, .int v1), (10, .int v10), (11, .int v11), (14, .int v14)]) rfl ?_
          exact wL_isAskingSo_b320 C  hk0 hf
set_option maxHeartbeats 4000000 in
set_option maxRecDepth 100000 in
theorem wL_isAskingSo_b288 (C : CT p s m args meth c cL_isAskingSo 18 RL (some (.boolean)) G (pA G s.heap.size)) {i0 : Nat} {v1 : Int32} {v2 : Int32} {v3 : Int32} {v5 : Int32} {v6 : Int32} {v7 : Int32} {v8 : Int32} {v9 : Int32} {v10 : Int32} {v11 : Int32} {v12 : Int32} {v13 : Int32} {v14 : Int32} {x : xS} {r : (Int32 × xS)} (hk0 : KD G i0 6) (hf : fL_isAskingSo_b288 i0 v1 v2 v3 v5 v6 v7 v8 v9 v10 v11 v12 v13 v14 x = some r) : WB p l e rL_isAskingSo s m args below meth c 18 G (pA G s.heap.size) (qI below G r args s 0 0) 0 0 288 [(0, .ref (G.2.2 i0)), (1, .int v1), (2, .int v2), (3, .int v3), (5, .int v5), (6, .int v6), (7, .int v7), (8, .int v8), (9, .int v9), (10, .int v10), (11, .int v11), (12, .int v12), (13, .int v13), (14, .int v14)] [] x := by
  unfold fL_isAskingSo_b288 at hf
  refine b_iconst (v := 0) C dL_isAskingSo_288 (by decide) ?_
  exact wL_isAskingSo_b289 C  hk0 hf
set_option maxHeartbeats 4000000 in
set_option maxRecDepth 100000 in
theorem wL_isAskingSo_b263 (C : CT p s m args meth c cL_isAskingSo 18 RL (some (.boolean)) G (pA G s.heap.size)) {i0 : Nat} {v1 : Int32} {v2 : Int32} {v3 : Int32} {v5 : Int32} {v6 : Int32} {v7 : Int32} {v8 : Int32} {v9 : Int32} {v10 : Int32} {v11 : Int32} {v12 : Int32} {v13 : Int32} {v14 : Int32} {x : xS} {r : (Int32 × xS)} (hk0 : KD G i0 6) (hf : fL_isAskingSo_b263 i0 v1 v2 v3 v5 v6 v7 v8 v9 v10 v11 v12 v13 v14 x = some r) : WB p l e rL_isAskingSo s m args below meth c 18 G (pA G s.heap.size) (qI below G r args s 0 0) 0 0 263 [(0, .ref (G.2.2 i0)), (1, .int v1), (2, .int v2), (3, .int v3), (5, .int v5), (6, .int v6), (7, .int v7), (8, .int v8), (9, .int v9), (10, .int v10), (11, .int v11), (12, .int v12), (13, .int v13), (14, .int v14)] [] x := by
  unfold fL_isAskingSo_b263 at hf
  refine b_iload C dL_isAskingSo_263 8 rfl ?_
  refine b_iload_n C dL_isAskingSo_265 rfl 1 rfl ?_
  refine b_ishr C dL_isAskingSo_266 ?_
  refine b_iconst (v := 1) C dL_isAskingSo_267 (by decide) ?_
  refine b_iand C dL_isAskingSo_268 ?_
  refine b_if_ne (tgt := 288) C dL_isAskingSo_269 (by decide) (fun c269 => ?_) (fun c269 => ?_)
  · have hf := iF c269 hf
    exact wL_isAskingSo_b288 C  hk0 hf
  · have hf := iT c269 hf
    refine b_aload_n C dL_isAskingSo_272 rfl 0 rfl ?_
    refine b_iload_n C dL_isAskingSo_273 rfl 1 rfl ?_
    refine b_iload_n C dL_isAskingSo_274 rfl 2 rfl ?_
    refine b_iload_n C dL_isAskingSo_275 rfl 3 rfl ?_
    obtain ⟨r276, c276, hf⟩ := oB hf
    refine b_callVi (K := 6) (As := [.int v1, .int v2, .int v3]) (res := r276) C (metpX6_ask l G _ _ _ _ _ _ hk0 c276) hk0 (by decide) rfl gkL_8 ekL_8 rfl ⟨rfl, rfl⟩ ⟨Nat.le_of_ble_eq_true rfl, Nat.le_of_ble_eq_true rfl⟩ (by simp [Value.category]) ⟨Nat.zero_le _, Nat.zero_le _⟩ rfl dL_isAskingSo_276 ?_
    refine b_iload C dL_isAskingSo_279 7 rfl ?_
    refine b_icmp_ne (tgt := 288) C dL_isAskingSo_281 (by decide) (fun c281 => ?_) (fun c281 => ?_)
    · have hf := iF c281 hf
      exact wL_isAskingSo_b288 C  hk0 hf
    · have hf := iT c281 hf
      refine b_iconst (v := 1) C dL_isAskingSo_284 (by decide) ?_
      refine b_goto (tgt := 289) C dL_isAskingSo_285 (by decide) ?_
      exact wL_isAskingSo_b289 C  hk0 hf
set_option maxHeartbeats 4000000 in
set_option maxRecDepth 100000 in
theorem wL_isAskingSo_b253 (C : CT p s m args meth c cL_isAskingSo 18 RL (some (.boolean)) G (pA G s.heap.size)) {i0 : Nat} {v1 : Int32} {v2 : Int32} {v3 : Int32} {v4 : Int32} {v5 : Int32} {v6 : Int32} {v7 : Int32} {v8 : Int32} {v9 : Int32} {v10 : Int32} {v11 : Int32} {v12 : Int32} {v13 : Int32} {v14 : Int32} {x : xS} {r : (Int32 × xS)} (hk0 : KD G i0 6) (hf : fL_isAskingSo_b253 i0 v1 v2 v3 v4 v5 v6 v7 v8 v9 v10 v11 v12 v13 v14 x = some r) : WB p l e rL_isAskingSo s m args below meth c 18 G (pA G s.heap.size) (qI below G r args s 0 0) 0 0 253 [(0, .ref (G.2.2 i0)), (1, .int v1), (2, .int v2), (3, .int v3), (4, .int v4), (5, .int v5), (6, .int v6), (7, .int v7), (8, .int v8), (9, .int v9), (10, .int v10), (11, .int v11), (12, .int v12), (13, .int v13), (14, .int v14)] [] x := by
  unfold fL_isAskingSo_b253 at hf
  refine b_iload C dL_isAskingSo_253 4 rfl ?_
  refine b_if_ge (tgt := 263) C dL_isAskingSo_255 (by decide) (fun c255 => ?_) (fun c255 => ?_)
  · have hf := iT c255 hf
    refine b_pm [0, 1, 2, 3, 5, 6, 7, 8, 9, 10, 11, 12, 13, 14] (lv' := [(0, .ref (G.2.2 i0)), (1, .int v1), (2, .int v2), (3, .int v3), (5, .int v5), (6, .int v6), (7, .int v7), (8, .int v8), (9, .int v9), (10, .int v10), (11, .int v11), (12, .int v12), (13, .int v13), (14, .int v14)]) rfl ?_
    exact wL_isAskingSo_b263 C  hk0 hf
  · have hf := iF c255 hf
    refine b_iload C dL_isAskingSo_258 9 rfl ?_
    refine b_if_le (tgt := 288) C dL_isAskingSo_260 (by decide) (fun c260 => ?_) (fun c260 => ?_)
    · have hf := iT c260 hf
      refine b_pm [0, 1, 2, 3, 5, 6, 7, 8, 9, 10, 11, 12, 13, 14] (lv' := [(0, .ref (G.2.2 i0)), (1, .int v1), (2, .int v2), (3, .int v3), (5, .int v5), (6, .int v6), (7, .int v7), (8, .int v8), (9, .int v9), (10, .int v10), (11, .int v11), (12, .int v12), (13, .int v13), (14, .int v14)]) rfl ?_
      exact wL_isAskingSo_b288 C  hk0 hf
    · have hf := iF c260 hf
      refine b_pm [0, 1, 2, 3, 5, 6, 7, 8, 9, 10, 11, 12, 13, 14] (lv' := [(0, .ref (G.2.2 i0)), (1, .int v1), (2, .int v2), (3, .int v3), (5, .int v5), (6, .int v6), (7, .int v7), (8, .int v8), (9, .int v9), (10, .int v10), (11, .int v11), (12, .int v12), (13, .int v13), (14, .int v14)]) rfl ?_
      exact wL_isAskingSo_b263 C  hk0 hf
set_option maxHeartbeats 4000000 in
set_option maxRecDepth 100000 in
theorem wL_isAskingSo_b141 (C : CT p s m args meth c cL_isAskingSo 18 RL (some (.boolean)) G (pA G s.heap.size)) {i0 : Nat} {v1 : Int32} {v2 : Int32} {v3 : Int32} {v4 : Int32} {v5 : Int32} {v6 : Int32} {s0 : Int32} {x : xS} {r : (Int32 × xS)} (hk0 : KD G i0 6) (hf : fL_isAskingSo_b141 i0 v1 v2 v3 v4 v5 v6 s0 x = some r) : WB p l e rL_isAskingSo s m args below meth c 18 G (pA G s.heap.size) (qI below G r args s 0 0) 0 0 141 [(0, .ref (G.2.2 i0)), (1, .int v1), (2, .int v2), (3, .int v3), (4, .int v4), (5, .int v5), (6, .int v6)] [.int s0] x := by
  unfold fL_isAskingSo_b141 at hf
  refine b_istore (lv' := [(7, .int s0), (0, .ref (G.2.2 i0)), (1, .int v1), (2, .int v2), (3, .int v3), (4, .int v4), (5, .int v5), (6, .int v6)]) C dL_isAskingSo_141 (by decide) rfl ?_
  refine b_aload_n C dL_isAskingSo_143 rfl 1 rfl ?_
  refine b_iload_n C dL_isAskingSo_144 rfl 2 rfl ?_
  refine b_iload_n C dL_isAskingSo_145 rfl 3 rfl ?_
  refine b_iload_n C dL_isAskingSo_146 rfl 4 rfl ?_
  obtain ⟨r147, c147, hf⟩ := oB hf
  refine b_callVi (K := 6) (As := [.int v1, .int v2, .int v3]) (res := (r147, x)) C (metpX6_ifAsked l G _ _ _ _ _ _ hk0 c147) hk0 (by decide) rfl gkL_81 ekL_81 rfl ⟨rfl, rfl⟩ ⟨Nat.le_of_ble_eq_true rfl, Nat.le_of_ble_eq_true rfl⟩ (by simp [Value.category]) ⟨Nat.zero_le _, Nat.zero_le _⟩ rfl dL_isAskingSo_147 ?_
  refine b_istore (lv' := [(8, .int r147), (7, .int s0), (0, .ref (G.2.2 i0)), (1, .int v1), (2, .int v2), (3, .int v3), (4, .int v4), (5, .int v5), (6, .int v6)]) C dL_isAskingSo_150 (by decide) rfl ?_
  refine b_aload_n C dL_isAskingSo_152 rfl 2 rfl ?_
  refine b_iload_n C dL_isAskingSo_153 rfl 3 rfl ?_
  refine b_iload_n C dL_isAskingSo_154 rfl 4 rfl ?_
  refine b_iload_n C dL_isAskingSo_155 rfl 5 rfl ?_
  obtain ⟨r156, c156, hf⟩ := oB hf
  refine b_callVi (K := 6) (As := [.int v1, .int v2, .int v3]) (res := (r156, x)) C (metpX6_ifPutOut l G _ _ _ _ _ _ hk0 c156) hk0 (by decide) rfl gkL_84 ekL_84 rfl ⟨rfl, rfl⟩ ⟨Nat.le_of_ble_eq_true rfl, Nat.le_of_ble_eq_true rfl⟩ (by simp [Value.category]) ⟨Nat.zero_le _, Nat.zero_le _⟩ rfl dL_isAskingSo_156 ?_
  refine b_istore (lv' := [(9, .int r156), (8, .int r147), (7, .int s0), (0, .ref (G.2.2 i0)), (1, .int v1), (2, .int v2), (3, .int v3), (4, .int v4), (5, .int v5), (6, .int v6)]) C dL_isAskingSo_159 (by decide) rfl ?_
  refine b_aload_n C dL_isAskingSo_161 rfl 3 rfl ?_
  refine b_iload_n C dL_isAskingSo_162 rfl 4 rfl ?_
  refine b_iconst (v := 1) C dL_isAskingSo_163 (by decide) ?_
  obtain ⟨r164, c164, hf⟩ := oB hf
  refine b_callVi (K := 6) (As := [.int v1, .int 1]) (res := (r164, x)) C (metpX6_lodgerOf l G _ _ _ _ _ hk0 c164) hk0 (by decide) rfl gkL_56 ekL_56 rfl ⟨rfl, rfl⟩ ⟨Nat.le_of_ble_eq_true rfl, Nat.le_of_ble_eq_true rfl⟩ (by simp [Value.category]) ⟨Nat.zero_le _, Nat.zero_le _⟩ rfl dL_isAskingSo_164 ?_
  refine b_istore (lv' := [(10, .int r164), (9, .int r156), (8, .int r147), (7, .int s0), (0, .ref (G.2.2 i0)), (1, .int v1), (2, .int v2), (3, .int v3), (4, .int v4), (5, .int v5), (6, .int v6)]) C dL_isAskingSo_167 (by decide) rfl ?_
  refine b_aload_n C dL_isAskingSo_169 rfl 4 rfl ?_
  refine b_iload_n C dL_isAskingSo_170 rfl 5 rfl ?_
  refine b_iconst (v := 2) C dL_isAskingSo_171 (by decide) ?_
  obtain ⟨r172, c172, hf⟩ := oB hf
  refine b_callVi (K := 6) (As := [.int v1, .int 2]) (res := (r172, x)) C (metpX6_lodgerOf l G _ _ _ _ _ hk0 c172) hk0 (by decide) rfl gkL_56 ekL_56 rfl ⟨rfl, rfl⟩ ⟨Nat.le_of_ble_eq_true rfl, Nat.le_of_ble_eq_true rfl⟩ (by simp [Value.category]) ⟨Nat.zero_le _, Nat.zero_le _⟩ rfl dL_isAskingSo_172 ?_
  refine b_istore (lv' := [(11, .int r172), (10, .int r164), (9, .int r156), (8, .int r147), (7, .int s0), (0, .ref (G.2.2 i0)), (1, .int v1), (2, .int v2), (3, .int v3), (4, .int v4), (5, .int v5), (6, .int v6)]) C dL_isAskingSo_175 (by decide) rfl ?_
  refine b_aload_n C dL_isAskingSo_177 rfl 5 rfl ?_
  refine b_bipush (v := 7) C dL_isAskingSo_178 (by decide) ?_
  obtain ⟨r180, c180, hf⟩ := oB hf
  refine b_callVi (K := 6) (As := [.int 7]) (res := (r180, x)) C (metpX6_count l G _ _ _ _ hk0 c180) hk0 (by decide) rfl gkL_53 ekL_53 rfl ⟨rfl, rfl⟩ ⟨Nat.le_of_ble_eq_true rfl, Nat.le_of_ble_eq_true rfl⟩ (by simp [Value.category]) ⟨Nat.zero_le _, Nat.zero_le _⟩ rfl dL_isAskingSo_180 ?_
  refine b_istore (lv' := [(12, .int r180), (11, .int r172), (10, .int r164), (9, .int r156), (8, .int r147), (7, .int s0), (0, .ref (G.2.2 i0)), (1, .int v1), (2, .int v2), (3, .int v3), (4, .int v4), (5, .int v5), (6, .int v6)]) C dL_isAskingSo_183 (by decide) rfl ?_
  refine b_aload_n C dL_isAskingSo_185 rfl 6 rfl ?_
  refine b_iconst (v := 3) C dL_isAskingSo_186 (by decide) ?_
  obtain ⟨r187, c187, hf⟩ := oB hf
  refine b_callVi (K := 6) (As := [.int 3]) (res := (r187, x)) C (metpX6_count l G _ _ _ _ hk0 c187) hk0 (by decide) rfl gkL_53 ekL_53 rfl ⟨rfl, rfl⟩ ⟨Nat.le_of_ble_eq_true rfl, Nat.le_of_ble_eq_true rfl⟩ (by simp [Value.category]) ⟨Nat.zero_le _, Nat.zero_le _⟩ rfl dL_isAskingSo_187 ?_
  refine b_istore (lv' := [(13, .int r187), (12, .int r180), (11, .int r172), (10, .int r164), (9, .int r156), (8, .int r147), (7, .int s0), (0, .ref (G.2.2 i0)), (1, .int v1), (2, .int v2), (3, .int v3), (4, .int v4), (5, .int v5), (6, .int v6)]) C dL_isAskingSo_190 (by decide) rfl ?_
  refine b_aload_n C dL_isAskingSo_192 rfl 7 rfl ?_
  refine b_iconst (v := 2) C dL_isAskingSo_193 (by decide) ?_
  obtain ⟨r194, c194, hf⟩ := oB hf
  refine b_callVi (K := 6) (As := [.int 2]) (res := (r194, x)) C (metpX6_count l G _ _ _ _ hk0 c194) hk0 (by decide) rfl gkL_53 ekL_53 rfl ⟨rfl, rfl⟩ ⟨Nat.le_of_ble_eq_true rfl, Nat.le_of_ble_eq_true rfl⟩ (by simp [Value.category]) ⟨Nat.zero_le _, Nat.zero_le _⟩ rfl dL_isAskingSo_194 ?_
  refine b_istore (lv' := [(14, .int r194), (13, .int r187), (12, .int r180), (11, .int r172), (10, .int r164), (9, .int r156), (8, .int r147), (7, .int s0), (0, .ref (G.2.2 i0)), (1, .int v1), (2, .int v2), (3, .int v3), (4, .int v4), (5, .int v5), (6, .int v6)]) C dL_isAskingSo_197 (by decide) rfl ?_
  refine b_iload C dL_isAskingSo_199 7 rfl ?_
  refine b_if_le (tgt := 219) C dL_isAskingSo_201 (by decide) (fun c201 => ?_) (fun c201 => ?_)
  · have hf := iT c201 hf
    refine b_iload C dL_isAskingSo_219 6 rfl ?_
    refine b_bipush (v := 9) C dL_isAskingSo_221 (by decide) ?_
    refine b_icmp_le (tgt := 288) C dL_isAskingSo_223 (by decide) (fun c223 => ?_) (fun c223 => ?_)
    · have hf := iT c223 hf
      refine b_pm [8, 9, 10, 11, 13, 14, 7, 6, 5, 4, 3, 2, 1, 0] (lv' := [(0, .ref (G.2.2 i0)), (1, .int v1), (2, .int v2), (3, .int v3), (5, .int v5), (6, .int v6), (7, .int s0), (8, .int r147), (9, .int r156), (10, .int r164), (11, .int r172), (12, .int r180), (13, .int r187), (14, .int r194)]) rfl ?_
      exact wL_isAskingSo_b288 C  hk0 hf
    · have hf := iF c223 hf
      refine b_iload C dL_isAskingSo_226 6 rfl ?_
      refine b_bipush (v := 14) C dL_isAskingSo_228 (by decide) ?_
      refine b_icmp_ge (tgt := 288) C dL_isAskingSo_230 (by decide) (fun c230 => ?_) (fun c230 => ?_)
      · have hf := iT c230 hf
        refine b_pm [8, 9, 10, 11, 13, 14, 7, 6, 5, 4, 3, 2, 1, 0] (lv' := [(0, .ref (G.2.2 i0)), (1, .int v1), (2, .int v2), (3, .int v3), (5, .int v5), (6, .int v6), (7, .int s0), (8, .int r147), (9, .int r156), (10, .int r164), (11, .int r172), (12, .int r180), (13, .int r187), (14, .int r194)]) rfl ?_
        exact wL_isAskingSo_b288 C  hk0 hf
      · have hf := iF c230 hf
        refine b_iload C dL_isAskingSo_233 12 rfl ?_
        refine b_if_lt (tgt := 253) C dL_isAskingSo_235 (by decide) (fun c235 => ?_) (fun c235 => ?_)
        · have hf := iT c235 hf
          refine b_pm [8, 9, 10, 11, 12, 13, 14, 7, 6, 5, 4, 3, 2, 1, 0] (lv' := [(0, .ref (G.2.2 i0)), (1, .int v1), (2, .int v2), (3, .int v3), (4, .int v4), (5, .int v5), (6, .int v6), (7, .int s0), (8, .int r147), (9, .int r156), (10, .int r164), (11, .int r172), (12, .int r180), (13, .int r187), (14, .int r194)]) rfl ?_
          exact wL_isAskingSo_b253 C  hk0 hf
        · have hf := iF c235 hf
          refine b_iload C dL_isAskingSo_238 6 rfl ?_
          refine b_bipush (v := 10) C dL_isAskingSo_240 (by decide) ?_
          refine b_iload C dL_isAskingSo_242 12 rfl ?_
          refine b_iadd C dL_isAskingSo_244 ?_
          refine b_icmp_ne (tgt := 288) C dL_isAskingSo_245 (by decide) (fun c245 => ?_) (fun c245 => ?_)
          · have hf := iF c245 hf
            refine b_pm [8, 9, 10, 11, 13, 14, 7, 6, 5, 4, 3, 2, 1, 0] (lv' := [(0, .ref (G.2.2 i0)), (1, .int v1), (2, .int v2), (3, .int v3), (5, .int v5), (6, .int v6), (7, .int s0), (8, .int r147), (9, .int r156), (10, .int r164), (11, .int r172), (12, .int r180), (13, .int r187), (14, .int r194)]) rfl ?_
            exact wL_isAskingSo_b288 C  hk0 hf
          · have hf := iT c245 hf
            refine b_iload C dL_isAskingSo_248 5 rfl ?_
            refine b_if_ne (tgt := 288) C dL_isAskingSo_250 (by decide) (fun c250 => ?_) (fun c250 => ?_)
            · have hf := iF c250 hf
              refine b_pm [8, 9, 10, 11, 13, 14, 7, 6, 5, 4, 3, 2, 1, 0] (lv' := [(0, .ref (G.2.2 i0)), (1, .int v1), (2, .int v2), (3, .int v3), (5, .int v5), (6, .int v6), (7, .int s0), (8, .int r147), (9, .int r156), (10, .int r164), (11, .int r172), (12, .int r180), (13, .int r187), (14, .int r194)]) rfl ?_
              exact wL_isAskingSo_b288 C  hk0 hf
            · have hf := iT c250 hf
              refine b_pm [8, 9, 10, 11, 12, 13, 14, 7, 6, 5, 4, 3, 2, 1, 0] (lv' := [(0, .ref (G.2.2 i0)), (1, .int v1), (2, .int v2), (3, .int v3), (4, .int v4), (5, .int v5), (6, .int v6), (7, .int s0), (8, .int r147), (9, .int r156), (10, .int r164), (11, .int r172), (12, .int r180), (13, .int r187), (14, .int r194)]) rfl ?_
              exact wL_isAskingSo_b253 C  hk0 hf
  · have hf := iF c201 hf
    refine b_iload C dL_isAskingSo_204 6 rfl ?_
    refine b_iload C dL_isAskingSo_206 7 rfl ?_
    refine b_icmp_ne (tgt := 288) C dL_isAskingSo_208 (by decide) (fun c208 => ?_) (fun c208 => ?_)
    · have hf := iF c208 hf
      refine b_pm [8, 9, 10, 11, 13, 14, 7, 6, 5, 4, 3, 2, 1, 0] (lv' := [(0, .ref (G.2.2 i0)), (1, .int v1), (2, .int v2), (3, .int v3), (5, .int v5), (6, .int v6), (7, .int s0), (8, .int r147), (9, .int r156), (10, .int r164), (11, .int r172), (12, .int r180), (13, .int r187), (14, .int r194)]) rfl ?_
      exact wL_isAskingSo_b288 C  hk0 hf
    · have hf := iT c208 hf
      refine b_iload C dL_isAskingSo_211 5 rfl ?_
      refine b_if_ne (tgt := 288) C dL_isAskingSo_213 (by decide) (fun c213 => ?_) (fun c213 => ?_)
      · have hf := iF c213 hf
        refine b_pm [8, 9, 10, 11, 13, 14, 7, 6, 5, 4, 3, 2, 1, 0] (lv' := [(0, .ref (G.2.2 i0)), (1, .int v1), (2, .int v2), (3, .int v3), (5, .int v5), (6, .int v6), (7, .int s0), (8, .int r147), (9, .int r156), (10, .int r164), (11, .int r172), (12, .int r180), (13, .int r187), (14, .int r194)]) rfl ?_
        exact wL_isAskingSo_b288 C  hk0 hf
      · have hf := iT c213 hf
        refine b_goto (tgt := 263) C dL_isAskingSo_216 (by decide) ?_
        refine b_pm [8, 9, 10, 11, 13, 14, 7, 6, 5, 4, 3, 2, 1, 0] (lv' := [(0, .ref (G.2.2 i0)), (1, .int v1), (2, .int v2), (3, .int v3), (5, .int v5), (6, .int v6), (7, .int s0), (8, .int r147), (9, .int r156), (10, .int r164), (11, .int r172), (12, .int r180), (13, .int r187), (14, .int r194)]) rfl ?_
        exact wL_isAskingSo_b263 C  hk0 hf
set_option maxHeartbeats 4000000 in
set_option maxRecDepth 100000 in
theorem wL_isAskingSo_b131 (C : CT p s m args meth c cL_isAskingSo 18 RL (some (.boolean)) G (pA G s.heap.size)) {i0 : Nat} {v1 : Int32} {v2 : Int32} {v3 : Int32} {v4 : Int32} {v5 : Int32} {v6 : Int32} {x : xS} {r : (Int32 × xS)} (hk0 : KD G i0 6) (hf : fL_isAskingSo_b131 i0 v1 v2 v3 v4 v5 v6 x = some r) : WB p l e rL_isAskingSo s m args below meth c 18 G (pA G s.heap.size) (qI below G r args s 0 0) 0 0 131 [(0, .ref (G.2.2 i0)), (1, .int v1), (2, .int v2), (3, .int v3), (4, .int v4), (5, .int v5), (6, .int v6)] [] x := by
  unfold fL_isAskingSo_b131 at hf
  refine b_iload C dL_isAskingSo_131 4 rfl ?_
  refine b_if_ge (tgt := 140) C dL_isAskingSo_133 (by decide) (fun c133 => ?_) (fun c133 => ?_)
  · have hf := iT c133 hf
    refine b_iconst (v := 0) C dL_isAskingSo_140 (by decide) ?_
    exact wL_isAskingSo_b141 C  hk0 hf
  · have hf := iF c133 hf
    refine b_iconst (v := 4) C dL_isAskingSo_136 (by decide) ?_
    refine b_goto (tgt := 141) C dL_isAskingSo_137 (by decide) ?_
    exact wL_isAskingSo_b141 C  hk0 hf
set_option maxHeartbeats 4000000 in
set_option maxRecDepth 100000 in
theorem wL_isAskingSo_b75 (C : CT p s m args meth c cL_isAskingSo 18 RL (some (.boolean)) G (pA G s.heap.size)) {i0 : Nat} {v1 : Int32} {v2 : Int32} {v3 : Int32} {v4 : Int32} {v5 : Int32} {s0 : Int32} {x : xS} {r : (Int32 × xS)} (hk0 : KD G i0 6) (hf : fL_isAskingSo_b75 i0 v1 v2 v3 v4 v5 s0 x = some r) : WB p l e rL_isAskingSo s m args below meth c 18 G (pA G s.heap.size) (qI below G r args s 0 0) 0 0 75 [(0, .ref (G.2.2 i0)), (1, .int v1), (2, .int v2), (3, .int v3), (4, .int v4), (5, .int v5)] [.int s0] x := by
  unfold fL_isAskingSo_b75 at hf
  refine b_istore (lv' := [(6, .int s0), (0, .ref (G.2.2 i0)), (1, .int v1), (2, .int v2), (3, .int v3), (4, .int v4), (5, .int v5)]) C dL_isAskingSo_75 (by decide) rfl ?_
  refine b_iload_n C dL_isAskingSo_77 rfl 3 rfl ?_
  refine b_aload_n C dL_isAskingSo_78 rfl 1 rfl ?_
  refine b_iconst (v := 0) C dL_isAskingSo_79 (by decide) ?_
  obtain ⟨r80, c80, hf⟩ := oB hf
  refine b_callVi (K := 6) (As := [.int 0]) (res := (r80, x)) C (metpX6_count l G _ _ _ _ hk0 c80) hk0 (by decide) rfl gkL_53 ekL_53 rfl ⟨rfl, rfl⟩ ⟨Nat.le_of_ble_eq_true rfl, Nat.le_of_ble_eq_true rfl⟩ (by simp [Value.category]) ⟨Nat.zero_le _, Nat.zero_le _⟩ rfl dL_isAskingSo_80 ?_
  refine b_icmp_ge (tgt := 90) C dL_isAskingSo_83 (by decide) (fun c83 => ?_) (fun c83 => ?_)
  · have hf := iT c83 hf
    refine b_aload_n C dL_isAskingSo_90 rfl 1 rfl ?_
    refine b_iload_n C dL_isAskingSo_91 rfl 2 rfl ?_
    refine b_iload_n C dL_isAskingSo_92 rfl 3 rfl ?_
    refine b_iload_n C dL_isAskingSo_93 rfl 4 rfl ?_
    obtain ⟨r94, c94, hf⟩ := oB hf
    refine b_callSi (As := [.ref (G.2.2 i0), .int v1, .int v2, .int v3]) (res := (r94, x)) C (metL_has l G _ _ _ _ _ _ hk0 c94) gkL_78 ekL_78 rfl ⟨rfl, rfl⟩ ⟨Nat.le_of_ble_eq_true rfl, Nat.le_of_ble_eq_true rfl⟩ (by simp [Value.category]) ⟨Nat.zero_le _, Nat.zero_le _⟩ rfl dL_isAskingSo_94 ?_
    refine b_if_eq (tgt := 104) C dL_isAskingSo_97 (by decide) (fun c97 => ?_) (fun c97 => ?_)
    · have hf := iT c97 hf
      refine b_iload C dL_isAskingSo_104 6 rfl ?_
      refine b_if_eq (tgt := 113) C dL_isAskingSo_106 (by decide) (fun c106 => ?_) (fun c106 => ?_)
      · have hf := iT c106 hf
        refine b_iload C dL_isAskingSo_113 0 rfl ?_
        refine b_if_ne (tgt := 131) C dL_isAskingSo_115 (by decide) (fun c115 => ?_) (fun c115 => ?_)
        · have hf := iF c115 hf
          refine b_pm [1, 2, 3, 4, 5, 6, 0] (lv' := [(0, .ref (G.2.2 i0)), (1, .int v1), (2, .int v2), (3, .int v3), (4, .int v4), (5, .int v5), (6, .int s0)]) rfl ?_
          exact wL_isAskingSo_b131 C  hk0 hf
        · have hf := iT c115 hf
          refine b_aload_n C dL_isAskingSo_118 rfl 1 rfl ?_
          refine b_iload_n C dL_isAskingSo_119 rfl 2 rfl ?_
          refine b_iconst (v := 2) C dL_isAskingSo_120 (by decide) ?_
          obtain ⟨r121, c121, hf⟩ := oB hf
          refine b_callVi (K := 6) (As := [.int v1, .int 2]) (res := (r121, x)) C (metpX6_lodgerOf l G _ _ _ _ _ hk0 c121) hk0 (by decide) rfl gkL_56 ekL_56 rfl ⟨rfl, rfl⟩ ⟨Nat.le_of_ble_eq_true rfl, Nat.le_of_ble_eq_true rfl⟩ (by simp [Value.category]) ⟨Nat.zero_le _, Nat.zero_le _⟩ rfl dL_isAskingSo_121 ?_
          refine b_if_ne (tgt := 131) C dL_isAskingSo_124 (by decide) (fun c124 => ?_) (fun c124 => ?_)
          · have hf := iF c124 hf
            refine b_pm [1, 2, 3, 4, 5, 6, 0] (lv' := [(0, .ref (G.2.2 i0)), (1, .int v1), (2, .int v2), (3, .int v3), (4, .int v4), (5, .int v5), (6, .int s0)]) rfl ?_
            exact wL_isAskingSo_b131 C  hk0 hf
          · have hf := iT c124 hf
            refine b_iconst (v := 3) C dL_isAskingSo_127 (by decide) ?_
            refine b_goto (tgt := 141) C dL_isAskingSo_128 (by decide) ?_
            refine b_pm [1, 2, 3, 4, 5, 6, 0] (lv' := [(0, .ref (G.2.2 i0)), (1, .int v1), (2, .int v2), (3, .int v3), (4, .int v4), (5, .int v5), (6, .int s0)]) rfl ?_
            exact wL_isAskingSo_b141 C  hk0 hf
      · have hf := iF c106 hf
        refine b_iconst (v := 0) C dL_isAskingSo_109 (by decide) ?_
        refine b_goto (tgt := 141) C dL_isAskingSo_110 (by decide) ?_
        refine b_pm [1, 2, 3, 4, 5, 6, 0] (lv' := [(0, .ref (G.2.2 i0)), (1, .int v1), (2, .int v2), (3, .int v3), (4, .int v4), (5, .int v5), (6, .int s0)]) rfl ?_
        exact wL_isAskingSo_b141 C  hk0 hf
    · have hf := iF c97 hf
      refine b_iconst (v := 2) C dL_isAskingSo_100 (by decide) ?_
      refine b_goto (tgt := 141) C dL_isAskingSo_101 (by decide) ?_
      refine b_pm [1, 2, 3, 4, 5, 6, 0] (lv' := [(0, .ref (G.2.2 i0)), (1, .int v1), (2, .int v2), (3, .int v3), (4, .int v4), (5, .int v5), (6, .int s0)]) rfl ?_
      exact wL_isAskingSo_b141 C  hk0 hf
  · have hf := iF c83 hf
    refine b_iconst (v := 1) C dL_isAskingSo_86 (by decide) ?_
    refine b_goto (tgt := 141) C dL_isAskingSo_87 (by decide) ?_
    refine b_pm [1, 2, 3, 4, 5, 6, 0] (lv' := [(0, .ref (G.2.2 i0)), (1, .int v1), (2, .int v2), (3, .int v3), (4, .int v4), (5, .int v5), (6, .int s0)]) rfl ?_
    exact wL_isAskingSo_b141 C  hk0 hf
set_option maxHeartbeats 4000000 in
set_option maxRecDepth 100000 in
theorem wL_isAskingSo_b53 (C : CT p s m args meth c cL_isAskingSo 18 RL (some (.boolean)) G (pA G s.heap.size)) {i0 : Nat} {v1 : Int32} {v2 : Int32} {v3 : Int32} {v4 : Int32} {s0 : Int32} {x : xS} {r : (Int32 × xS)} (hk0 : KD G i0 6) (hf : fL_isAskingSo_b53 i0 v1 v2 v3 v4 s0 x = some r) : WB p l e rL_isAskingSo s m args below meth c 18 G (pA G s.heap.size) (qI below G r args s 0 0) 0 0 53 [(0, .ref (G.2.2 i0)), (1, .int v1), (2, .int v2), (3, .int v3), (4, .int v4)] [.int s0] x := by
  unfold fL_isAskingSo_b53 at hf
  refine b_istore (lv' := [(5, .int s0), (0, .ref (G.2.2 i0)), (1, .int v1), (2, .int v2), (3, .int v3), (4, .int v4)]) C dL_isAskingSo_53 (by decide) rfl ?_
  refine b_aload_n C dL_isAskingSo_55 rfl 1 rfl ?_
  refine b_iload_n C dL_isAskingSo_56 rfl 2 rfl ?_
  refine b_iconst (v := 0) C dL_isAskingSo_57 (by decide) ?_
  obtain ⟨r58, c58, hf⟩ := oB hf
  refine b_callVi (K := 6) (As := [.int v1, .int 0]) (res := (r58, x)) C (metpX6_lodgerOf l G _ _ _ _ _ hk0 c58) hk0 (by decide) rfl gkL_56 ekL_56 rfl ⟨rfl, rfl⟩ ⟨Nat.le_of_ble_eq_true rfl, Nat.le_of_ble_eq_true rfl⟩ (by simp [Value.category]) ⟨Nat.zero_le _, Nat.zero_le _⟩ rfl dL_isAskingSo_58 ?_
  refine b_aload_n C dL_isAskingSo_61 rfl 1 rfl ?_
  refine b_bipush (v := 9) C dL_isAskingSo_62 (by decide) ?_
  obtain ⟨r64, c64, hf⟩ := oB hf
  refine b_callVi (K := 6) (As := [.int 9]) (res := (r64, x)) C (metpX6_count l G _ _ _ _ hk0 c64) hk0 (by decide) rfl gkL_53 ekL_53 rfl ⟨rfl, rfl⟩ ⟨Nat.le_of_ble_eq_true rfl, Nat.le_of_ble_eq_true rfl⟩ (by simp [Value.category]) ⟨Nat.zero_le _, Nat.zero_le _⟩ rfl dL_isAskingSo_64 ?_
  refine b_icmp_lt (tgt := 74) C dL_isAskingSo_67 (by decide) (fun c67 => ?_) (fun c67 => ?_)
  · have hf := iT c67 hf
    refine b_iconst (v := 0) C dL_isAskingSo_74 (by decide) ?_
    refine b_pm [1, 2, 3, 4, 5, 0] (lv' := [(0, .ref (G.2.2 i0)), (1, .int v1), (2, .int v2), (3, .int v3), (4, .int v4), (5, .int s0)]) rfl ?_
    exact wL_isAskingSo_b75 C  hk0 hf
  · have hf := iF c67 hf
    refine b_iconst (v := 1) C dL_isAskingSo_70 (by decide) ?_
    refine b_goto (tgt := 75) C dL_isAskingSo_71 (by decide) ?_
    refine b_pm [1, 2, 3, 4, 5, 0] (lv' := [(0, .ref (G.2.2 i0)), (1, .int v1), (2, .int v2), (3, .int v3), (4, .int v4), (5, .int s0)]) rfl ?_
    exact wL_isAskingSo_b75 C  hk0 hf
set_option maxHeartbeats 4000000 in
set_option maxRecDepth 100000 in
theorem wL_isAskingSo_b29 (C : CT p s m args meth c cL_isAskingSo 18 RL (some (.boolean)) G (pA G s.heap.size)) {k6 : Int32 → Int32 → xS → Option (Int32 × xS)} {i0 : Nat} {v1 : Int32} {v2 : Int32} {v3 : Int32} {v5 : Int32} {s0 : Int32} {x : xS} {r : (Int32 × xS)} (h6 : ∀ (v4 : Int32) (v5 : Int32) (x : xS), k6 v4 v5 x = some r → WB p l e rL_isAskingSo s m args below meth c 18 G (pA G s.heap.size) (qI below G r args s 0 0) 0 0 6 [(0, .ref (G.2.2 i0)), (1, .int v1), (2, .int v2), (3, .int v3), (4, .int v4), (5, .int v5)] [] x) (hk0 : KD G i0 6) (hf : fL_isAskingSo_b29 k6 i0 v1 v2 v3 v5 s0 x = some r) : WB p l e rL_isAskingSo s m args below meth c 18 G (pA G s.heap.size) (qI below G r args s 0 0) 0 0 29 [(0, .ref (G.2.2 i0)), (1, .int v1), (2, .int v2), (3, .int v3), (5, .int v5)] [.int s0] x := by
  unfold fL_isAskingSo_b29 at hf
  refine b_istore (lv' := [(4, .int s0), (0, .ref (G.2.2 i0)), (1, .int v1), (2, .int v2), (3, .int v3), (5, .int v5)]) C dL_isAskingSo_29 (by decide) rfl ?_
  refine b_iinc (q := 5) (v' := (v5 + (-1))) (lv' := [(5, .int (v5 + (-1))), (4, .int s0), (0, .ref (G.2.2 i0)), (1, .int v1), (2, .int v2), (3, .int v3)]) C dL_isAskingSo_31 rfl rfl (by decide) rfl ?_
  refine b_goto (tgt := 6) C dL_isAskingSo_34 (by decide) ?_
  refine b_pm [2, 3, 4, 5, 1, 0] (lv' := [(0, .ref (G.2.2 i0)), (1, .int v1), (2, .int v2), (3, .int v3), (4, .int s0), (5, .int (v5 + (-1)))]) rfl ?_
  exact h6 _ _ _ hf
set_option maxHeartbeats 4000000 in
set_option maxRecDepth 100000 in
theorem wL_isAskingSo_b6 (C : CT p s m args meth c cL_isAskingSo 18 RL (some (.boolean)) G (pA G s.heap.size)) {i0 : Nat} {v1 : Int32} {v2 : Int32} {v3 : Int32} {r : (Int32 × xS)} (hk0 : KD G i0 6) : ∀ (n : Nat) (v4 : Int32) (v5 : Int32) (x : xS), fL_isAskingSo_b6 i0 v1 v2 v3 n v4 v5 x = some r → WB p l e rL_isAskingSo s m args below meth c 18 G (pA G s.heap.size) (qI below G r args s 0 0) 0 0 6 [(0, .ref (G.2.2 i0)), (1, .int v1), (2, .int v2), (3, .int v3), (4, .int v4), (5, .int v5)] [] x := by
  intro n
  induction n with
  | zero =>
    intro v4 v5 x hf
    cases hf
  | succ n ih =>
    intro v4 v5 x hf
    rw [fL_isAskingSo_b6] at hf
    refine b_iload C dL_isAskingSo_6 5 rfl ?_
    refine b_if_lt (tgt := 37) C dL_isAskingSo_8 (by decide) (fun c8 => ?_) (fun c8 => ?_)
    · have hf := iT c8 hf
      refine b_aload_n C dL_isAskingSo_37 rfl 0 rfl ?_
      refine b_iload_n C dL_isAskingSo_38 rfl 1 rfl ?_
      refine b_iconst (v := 1) C dL_isAskingSo_39 (by decide) ?_
      obtain ⟨r40, c40, hf⟩ := oB hf
      refine b_callVi (K := 6) (As := [.int v1, .int 1]) (res := (r40, x)) C (metpX6_lodgerOf l G _ _ _ _ _ hk0 c40) hk0 (by decide) rfl gkL_56 ekL_56 rfl ⟨rfl, rfl⟩ ⟨Nat.le_of_ble_eq_true rfl, Nat.le_of_ble_eq_true rfl⟩ (by simp [Value.category]) ⟨Nat.zero_le _, Nat.zero_le _⟩ rfl dL_isAskingSo_40 ?_
      refine b_bipush (v := 7) C dL_isAskingSo_43 (by decide) ?_
      refine b_icmp_ne (tgt := 52) C dL_isAskingSo_45 (by decide) (fun c45 => ?_) (fun c45 => ?_)
      · have hf := iF c45 hf
        refine b_iconst (v := 0) C dL_isAskingSo_52 (by decide) ?_
        refine b_pm [0, 1, 2, 3, 4] (lv' := [(0, .ref (G.2.2 i0)), (1, .int v1), (2, .int v2), (3, .int v3), (4, .int v4)]) rfl ?_
        exact wL_isAskingSo_b53 C  hk0 hf
      · have hf := iT c45 hf
        refine b_iconst (v := 1) C dL_isAskingSo_48 (by decide) ?_
        refine b_goto (tgt := 53) C dL_isAskingSo_49 (by decide) ?_
        refine b_pm [0, 1, 2, 3, 4] (lv' := [(0, .ref (G.2.2 i0)), (1, .int v1), (2, .int v2), (3, .int v3), (4, .int v4)]) rfl ?_
        exact wL_isAskingSo_b53 C  hk0 hf
    · have hf := iF c8 hf
      refine b_aload_n C dL_isAskingSo_11 rfl 0 rfl ?_
      refine b_iload C dL_isAskingSo_12 5 rfl ?_
      refine b_iload_n C dL_isAskingSo_14 rfl 2 rfl ?_
      refine b_iload_n C dL_isAskingSo_15 rfl 3 rfl ?_
      obtain ⟨r16, c16, hf⟩ := oB hf
      refine b_callSi (As := [.ref (G.2.2 i0), .int v5, .int v2, .int v3]) (res := (r16, x)) C (metL_isFree l G _ _ _ _ _ _ hk0 c16) gkL_74 ekL_74 rfl ⟨rfl, rfl⟩ ⟨Nat.le_of_ble_eq_true rfl, Nat.le_of_ble_eq_true rfl⟩ (by simp [Value.category]) ⟨Nat.zero_le _, Nat.zero_le _⟩ rfl dL_isAskingSo_16 ?_
      refine b_if_eq (tgt := 27) C dL_isAskingSo_19 (by decide) (fun c19 => ?_) (fun c19 => ?_)
      · have hf := iT c19 hf
        refine b_iload C dL_isAskingSo_27 4 rfl ?_
        refine b_pm [0, 1, 2, 3, 5] (lv' := [(0, .ref (G.2.2 i0)), (1, .int v1), (2, .int v2), (3, .int v3), (5, .int v5)]) rfl ?_
        exact wL_isAskingSo_b29 C ih hk0 hf
      · have hf := iF c19 hf
        refine b_iload C dL_isAskingSo_22 5 rfl ?_
        refine b_goto (tgt := 29) C dL_isAskingSo_24 (by decide) ?_
        refine b_pm [0, 1, 2, 3, 5] (lv' := [(0, .ref (G.2.2 i0)), (1, .int v1), (2, .int v2), (3, .int v3), (5, .int v5)]) rfl ?_
        exact wL_isAskingSo_b29 C ih hk0 hf
set_option maxHeartbeats 4000000 in
set_option maxRecDepth 100000 in
theorem wL_isAskingSo_b0 (C : CT p s m args meth c cL_isAskingSo 18 RL (some (.boolean)) G (pA G s.heap.size)) {i0 : Nat} {v1 : Int32} {v2 : Int32} {v3 : Int32} {x : xS} {r : (Int32 × xS)} (hk0 : KD G i0 6) (hf : fL_isAskingSo_b0 i0 v1 v2 v3 x = some r) : WB p l e rL_isAskingSo s m args below meth c 18 G (pA G s.heap.size) (qI below G r args s 0 0) 0 0 0 [(0, .ref (G.2.2 i0)), (1, .int v1), (2, .int v2), (3, .int v3)] [] x := by
  unfold fL_isAskingSo_b0 at hf
  refine b_iconst (v := (-1)) C dL_isAskingSo_0 (by decide) ?_
  refine b_istore (lv' := [(4, .int (-1)), (0, .ref (G.2.2 i0)), (1, .int v1), (2, .int v2), (3, .int v3)]) C dL_isAskingSo_1 (by decide) rfl ?_
  refine b_iconst (v := 3) C dL_isAskingSo_3 (by decide) ?_
  refine b_istore (lv' := [(5, .int 3), (4, .int (-1)), (0, .ref (G.2.2 i0)), (1, .int v1), (2, .int v2), (3, .int v3)]) C dL_isAskingSo_4 (by decide) rfl ?_
  refine b_pm [2, 3, 4, 5, 1, 0] (lv' := [(0, .ref (G.2.2 i0)), (1, .int v1), (2, .int v2), (3, .int v3), (4, .int (-1)), (5, .int 3)]) rfl ?_
  exact wL_isAskingSo_b6 C  hk0 FU _ _ _ hf
end
theorem metL_isAskingSo (l : Launch) (G : gT) (i0 : Nat) (v1 : Int32) (v2 : Int32) (v3 : Int32) (x : xS) (r : (Int32 × xS)) (hk0 : KD G i0 6) (hf : fL_isAskingSo i0 v1 v2 v3 x = some r) : cI l yL_isAskingSo cL_isAskingSo 18 (.boolean) rL_isAskingSo [.ref (G.2.2 i0), .int v1, .int v2, .int v3] G x r :=
  b_body (by decide) (Nat.le_of_ble_eq_true rfl) rfl (fun p e s m args below meth c C => wL_isAskingSo_b0 C hk0 hf)
