-- L_areSums
abbrev rL_areSums : Room := { frames := 6, cells := 0, slots := 0, locals := 130 }
def fL_areSums_b513 (i0 : Nat) (x : xS) : Option (Int32 × xS) :=
  some (0, x)
def fL_areSums_b350 (k165 : Int32 → Int32 → Int32 → Int32 → Int32 → Int32 → Int32 → Int32 → Int32 → xS → Option (Int32 × xS)) (i0 : Nat) (v1 : Int32) (v2 : Int32) (v3 : Int32) (v4 : Int32) (v5 : Int32) (v6 : Int32) (v7 : Int32) (v9 : Int32) (s0 : Int32) (x : xS) : Option (Int32 × xS) :=
  k165 v1 v2 v3 v4 v5 v6 v7 s0 (v9 + 1) x
def fL_areSums_b336 (k165 : Int32 → Int32 → Int32 → Int32 → Int32 → Int32 → Int32 → Int32 → Int32 → xS → Option (Int32 × xS)) (i0 : Nat) (v1 : Int32) (v2 : Int32) (v3 : Int32) (v4 : Int32) (v5 : Int32) (v6 : Int32) (v7 : Int32) (v8 : Int32) (v9 : Int32) (s0 : Int32) (x : xS) : Option (Int32 × xS) :=
  (if s0 ≤ 0 then
  fL_areSums_b350 k165 i0 v1 v2 v3 v4 v5 v6 v7 v9 v8 x
  else
  fL_areSums_b350 k165 i0 v1 v2 v3 v4 v5 v6 v7 v9 v9 x)
def fL_areSums_b292 (k165 : Int32 → Int32 → Int32 → Int32 → Int32 → Int32 → Int32 → Int32 → Int32 → xS → Option (Int32 × xS)) (i0 : Nat) (v1 : Int32) (v2 : Int32) (v3 : Int32) (v4 : Int32) (v5 : Int32) (v7 : Int32) (v8 : Int32) (v9 : Int32) (s0 : Int32) (x : xS) : Option (Int32 × xS) :=
  Option.bind (fpX6_lodgerOf i0 v9 1 x) (fun r298 =>
  Option.bind (fpX6_lodgerOf i0 v8 1 x) (fun r305 =>
  lt1 (r298 - r305) (fun y309 => 
  (if y309 = 0 then
  Option.bind (fpX6_lodgerOf i0 v9 0 x) (fun r320 =>
  Option.bind (fpX6_lodgerOf i0 v8 0 x) (fun r327 =>
  fL_areSums_b336 k165 i0 v1 v2 v3 v4 v5 s0 v7 v8 v9 (r320 - r327) x))
  else
  fL_areSums_b336 k165 i0 v1 v2 v3 v4 v5 s0 v7 v8 v9 y309 x))))
def fL_areSums_b291 (k165 : Int32 → Int32 → Int32 → Int32 → Int32 → Int32 → Int32 → Int32 → Int32 → xS → Option (Int32 × xS)) (i0 : Nat) (v1 : Int32) (v2 : Int32) (v3 : Int32) (v4 : Int32) (v5 : Int32) (v7 : Int32) (v8 : Int32) (v9 : Int32) (x : xS) : Option (Int32 × xS) :=
  fL_areSums_b292 k165 i0 v1 v2 v3 v4 v5 v7 v8 v9 0 x
def fL_areSums_b165 (i0 : Nat) : Nat → Int32 → Int32 → Int32 → Int32 → Int32 → Int32 → Int32 → Int32 → Int32 → xS → Option (Int32 × xS)
  | 0, _, _, _, _, _, _, _, _, _, _ => none
  | n + 1, v1, v2, v3, v4, v5, v6, v7, v8, v9, x => (if (10 : Int32) ≤ v9 then
  (if (FP.ddiv (FP.i2d v1) (4631952216750555136 : UInt64)) &&& 0x7fffffffffffffff ≤ (0x7ff0000000000000 : UInt64) then
  (if v6 = 0 then
  fL_areSums_b513 i0 x
  else
  (if v7 = 0 then
  Option.bind (fpX6_count i0 2 x) (fun r379 =>
  (if v1 = r379 then
  Option.bind (fpX6_count i0 3 x) (fun r388 =>
  (if v2 = r388 then
  Option.bind (fpX6_count i0 6 x) (fun r398 =>
  (if v3 = r398 then
  Option.bind (fpX6_count i0 4 x) (fun r408 =>
  (if r408 < v4 then
  fL_areSums_b513 i0 x
  else
  Option.bind (fpX6_count i0 7 x) (fun r417 =>
  Option.bind (fpX6_count i0 6 x) (fun r423 =>
  (if r417 < r423 then
  fL_areSums_b513 i0 x
  else
  Option.bind (fpX6_count i0 5 x) (fun r431 =>
  Option.bind (fpX6_refused i0 1 x) (fun r436 =>
  Option.bind (fpX6_refused i0 2 x) (fun r441 =>
  Option.bind (fpX6_refused i0 3 x) (fun r447 =>
  Option.bind (fpX6_refused i0 4 x) (fun r453 =>
  (if r431 = (((r436 + r441) + r447) + r453) then
  Option.bind (fpX6_fewestBeds i0 0 x) (fun r462 =>
  (if r462.1 = v5 then
  Option.bind (fpX6_fewestBeds i0 1 r462.2) (fun r472 =>
  (if r472.1 = v5 then
  Option.bind (fX6_poorest i0 r472.2) (fun r481 =>
  (if r481 = v8 then
  Option.bind (fX6_fullness i0 r472.2) (fun r490 =>
  (if (Op.cmpValue (FP.dcmp r490 (FP.ddiv (FP.i2d v1) (4631952216750555136 : UInt64))) CmpOp.l) = 0 then
  Option.bind (fpX6_count i0 0 r472.2) (fun r501 =>
  (if (12 : Int32) ≤ r501 then
  fL_areSums_b513 i0 r472.2
  else
  some (1, r472.2)))
  else
  fL_areSums_b513 i0 r472.2))
  else
  fL_areSums_b513 i0 r472.2))
  else
  fL_areSums_b513 i0 r472.2))
  else
  fL_areSums_b513 i0 r462.2))
  else
  fL_areSums_b513 i0 x)))))))))))
  else
  fL_areSums_b513 i0 x))
  else
  fL_areSums_b513 i0 x))
  else
  fL_areSums_b513 i0 x))
  else
  fL_areSums_b513 i0 x)) else none)
  else
  Option.bind (fpX6_lodgerOf i0 v9 3 x) (fun r178 =>
  lt1 (v7 - r178) (fun y182 => 
  Option.bind (fpX6_lodgerOf i0 v9 4 x) (fun r189 =>
  lt1 (v2 + r189) (fun y193 => 
  Option.bind (fpX6_lodgerOf i0 v9 5 x) (fun r199 =>
  lt1 (v3 + r199) (fun y203 => 
  Option.bind (fpX6_lodgerOf i0 v9 6 x) (fun r211 =>
  lt1 (v4 + r211) (fun y215 => 
  (if v6 = 0 then
  fL_areSums_b291 (fL_areSums_b165 i0 n) i0 v1 y193 y203 y215 v5 y182 v8 v9 x
  else
  Option.bind (fpX6_lodgerOf i0 v9 0 x) (fun r226 =>
  (if r226 < 0 then
  fL_areSums_b291 (fL_areSums_b165 i0 n) i0 v1 y193 y203 y215 v5 y182 v8 v9 x
  else
  Option.bind (fpX6_lodgerOf i0 v9 0 x) (fun r236 =>
  (if (10 : Int32) ≤ r236 then
  fL_areSums_b291 (fL_areSums_b165 i0 n) i0 v1 y193 y203 y215 v5 y182 v8 v9 x
  else
  Option.bind (fpX6_lodgerOf i0 v9 1 x) (fun r248 =>
  (if r248 < 0 then
  fL_areSums_b291 (fL_areSums_b165 i0 n) i0 v1 y193 y203 y215 v5 y182 v8 v9 x
  else
  Option.bind (fpX6_lodgerOf i0 v9 1 x) (fun r258 =>
  (if (8 : Int32) ≤ r258 then
  fL_areSums_b291 (fL_areSums_b165 i0 n) i0 v1 y193 y203 y215 v5 y182 v8 v9 x
  else
  Option.bind (fpX6_lodgerOf i0 v9 2 x) (fun r270 =>
  (if r270 < 0 then
  fL_areSums_b291 (fL_areSums_b165 i0 n) i0 v1 y193 y203 y215 v5 y182 v8 v9 x
  else
  Option.bind (fpX6_lodgerOf i0 v9 2 x) (fun r280 =>
  (if (4 : Int32) ≤ r280 then
  fL_areSums_b291 (fL_areSums_b165 i0 n) i0 v1 y193 y203 y215 v5 y182 v8 v9 x
  else
  fL_areSums_b292 (fL_areSums_b165 i0 n) i0 v1 y193 y203 y215 v5 y182 v8 v9 1 x))))))))))))))))))))))
def fL_areSums_b148 (k18 : Int32 → Int32 → Int32 → Int32 → Int32 → Int32 → Int32 → xS → Option (Int32 × xS)) (i0 : Nat) (v1 : Int32) (v2 : Int32) (v3 : Int32) (v4 : Int32) (v6 : Int32) (v7 : Int32) (s0 : Int32) (x : xS) : Option (Int32 × xS) :=
  k18 v1 v2 v3 v4 s0 v6 (v7 + 1) x
def fL_areSums_b120 (k18 : Int32 → Int32 → Int32 → Int32 → Int32 → Int32 → Int32 → xS → Option (Int32 × xS)) (k34 : Int32 → Int32 → Int32 → Int32 → Int32 → Int32 → Int32 → Int32 → Int32 → Int32 → xS → Option (Int32 × xS)) (i0 : Nat) (v1 : Int32) (v2 : Int32) (v3 : Int32) (v4 : Int32) (v5 : Int32) (v6 : Int32) (v7 : Int32) (v8 : Int32) (v10 : Int32) (s0 : Int32) (s1 : Int32) (x : xS) : Option (Int32 × xS) :=
  lt1 (s0 + s1) (fun y121 => 
  k34 v1 v2 v3 v4 v5 v6 v7 v8 y121 (v10 + 1) x)
def fL_areSums_b105 (k18 : Int32 → Int32 → Int32 → Int32 → Int32 → Int32 → Int32 → xS → Option (Int32 × xS)) (k34 : Int32 → Int32 → Int32 → Int32 → Int32 → Int32 → Int32 → Int32 → Int32 → Int32 → xS → Option (Int32 × xS)) (i0 : Nat) (v1 : Int32) (v2 : Int32) (v3 : Int32) (v4 : Int32) (v5 : Int32) (v6 : Int32) (v7 : Int32) (v9 : Int32) (v10 : Int32) (v11 : Int32) (s0 : Int32) (s1 : Int32) (x : xS) : Option (Int32 × xS) :=
  lt1 (s0 ||| s1) (fun y106 => 
  (if (0 : Int32) ≤ v11 then
  fL_areSums_b120 k18 k34 i0 v1 v2 v3 v4 v5 v6 v7 y106 v10 v9 1 x
  else
  fL_areSums_b120 k18 k34 i0 v1 v2 v3 v4 v5 v6 v7 y106 v10 v9 0 x))
def fL_areSums_b88 (k18 : Int32 → Int32 → Int32 → Int32 → Int32 → Int32 → Int32 → xS → Option (Int32 × xS)) (k34 : Int32 → Int32 → Int32 → Int32 → Int32 → Int32 → Int32 → Int32 → Int32 → Int32 → xS → Option (Int32 × xS)) (i0 : Nat) (v1 : Int32) (v2 : Int32) (v3 : Int32) (v4 : Int32) (v5 : Int32) (v7 : Int32) (v8 : Int32) (v9 : Int32) (v10 : Int32) (v11 : Int32) (s0 : Int32) (x : xS) : Option (Int32 × xS) :=
  (if (0 : Int32) ≤ v11 then
  fL_areSums_b105 k18 k34 i0 v1 v2 v3 v4 v5 s0 v7 v9 v10 v11 v8 ((1 : Int32) <<< (v11 &&& 31)) x
  else
  fL_areSums_b105 k18 k34 i0 v1 v2 v3 v4 v5 s0 v7 v9 v10 v11 v8 0 x)
def fL_areSums_b87 (k18 : Int32 → Int32 → Int32 → Int32 → Int32 → Int32 → Int32 → xS → Option (Int32 × xS)) (k34 : Int32 → Int32 → Int32 → Int32 → Int32 → Int32 → Int32 → Int32 → Int32 → Int32 → xS → Option (Int32 × xS)) (i0 : Nat) (v1 : Int32) (v2 : Int32) (v3 : Int32) (v4 : Int32) (v5 : Int32) (v7 : Int32) (v8 : Int32) (v9 : Int32) (v10 : Int32) (v11 : Int32) (x : xS) : Option (Int32 × xS) :=
  fL_areSums_b88 k18 k34 i0 v1 v2 v3 v4 v5 v7 v8 v9 v10 v11 0 x
def fL_areSums_b83 (k18 : Int32 → Int32 → Int32 → Int32 → Int32 → Int32 → Int32 → xS → Option (Int32 × xS)) (k34 : Int32 → Int32 → Int32 → Int32 → Int32 → Int32 → Int32 → Int32 → Int32 → Int32 → xS → Option (Int32 × xS)) (i0 : Nat) (v1 : Int32) (v2 : Int32) (v3 : Int32) (v4 : Int32) (v5 : Int32) (v7 : Int32) (v8 : Int32) (v9 : Int32) (v10 : Int32) (v11 : Int32) (x : xS) : Option (Int32 × xS) :=
  fL_areSums_b88 k18 k34 i0 v1 v2 v3 v4 v5 v7 v8 v9 v10 v11 1 x
def fL_areSums_b34 (k18 : Int32 → Int32 → Int32 → Int32 → Int32 → Int32 → Int32 → xS → Option (Int32 × xS)) (i0 : Nat) : Nat → Int32 → Int32 → Int32 → Int32 → Int32 → Int32 → Int32 → Int32 → Int32 → Int32 → xS → Option (Int32 × xS)
  | 0, _, _, _, _, _, _, _, _, _, _, _ => none
  | n + 1, v1, v2, v3, v4, v5, v6, v7, v8, v9, v10, x => (if (4 : Int32) ≤ v10 then
  lt1 (v1 + v9) (fun y133 => 
  (if v9 ≤ v5 then
  fL_areSums_b148 k18 i0 y133 v2 v3 v4 v6 v7 v5 x
  else
  fL_areSums_b148 k18 i0 y133 v2 v3 v4 v6 v7 v9 x))
  else
  Option.bind (fpX6_at i0 v10 v7 x) (fun r45 =>
  (if v6 = 0 then
  fL_areSums_b87 k18 (fL_areSums_b34 k18 i0 n) i0 v1 v2 v3 v4 v5 v7 v8 v9 v10 r45 x
  else
  (if r45 < (-1) then
  fL_areSums_b87 k18 (fL_areSums_b34 k18 i0 n) i0 v1 v2 v3 v4 v5 v7 v8 v9 v10 r45 x
  else
  (if (10 : Int32) ≤ r45 then
  fL_areSums_b87 k18 (fL_areSums_b34 k18 i0 n) i0 v1 v2 v3 v4 v5 v7 v8 v9 v10 r45 x
  else
  (if r45 < 0 then
  fL_areSums_b83 k18 (fL_areSums_b34 k18 i0 n) i0 v1 v2 v3 v4 v5 v7 v8 v9 v10 r45 x
  else
  (if ((v8 >>> (r45 &&& 31)) &&& 1) = 0 then
  fL_areSums_b83 k18 (fL_areSums_b34 k18 i0 n) i0 v1 v2 v3 v4 v5 v7 v8 v9 v10 r45 x
  else
  fL_areSums_b87 k18 (fL_areSums_b34 k18 i0 n) i0 v1 v2 v3 v4 v5 v7 v8 v9 v10 r45 x)))))))
def fL_areSums_b18 (i0 : Nat) : Nat → Int32 → Int32 → Int32 → Int32 → Int32 → Int32 → Int32 → xS → Option (Int32 × xS)
  | 0, _, _, _, _, _, _, _, _ => none
  | n + 1, v1, v2, v3, v4, v5, v6, v7, x => (if (12 : Int32) ≤ v7 then
  fL_areSums_b165 i0 FU v1 v2 v3 v4 v5 v6 v1 0 0 x
  else
  fL_areSums_b34 (fL_areSums_b18 i0 n) i0 FU v1 v2 v3 v4 v5 v6 v7 0 0 0 x)
def fL_areSums_b0 (i0 : Nat) (x : xS) : Option (Int32 × xS) :=
  fL_areSums_b18 i0 FU 0 0 0 0 0 1 0 x
def fL_areSums (i0 : Nat) (x : xS) : Option (Int32 × xS) := fL_areSums_b0 i0 x
section
variable {p : Program} {l : Launch} {e : Env} {R : Room} {s : State} {m : MethodId} {args : Array Value} {below : List Frame} {meth : Method} {c : Code} {G : gT}
set_option maxHeartbeats 4000000 in
set_option maxRecDepth 100000 in
theorem wL_areSums_b513 (C : CT p s m args meth c cL_areSums 12 RL (some (.boolean)) G (pA G s.heap.size)) {i0 : Nat} {x : xS} {r : (Int32 × xS)} (hk0 : KD G i0 6) (hf : fL_areSums_b513 i0 x = some r) : WB p l e rL_areSums s m args below meth c 12 G (pA G s.heap.size) (qI below G r args s 0 0) 0 0 513 [(0, .ref (G.2.2 i0))] [] x := by
  unfold fL_areSums_b513 at hf
  refine b_iconst (v := 0) C dL_areSums_513 (by decide) ?_
  exact b_iretz C (by decide) dL_areSums_514 hf
set_option maxHeartbeats 4000000 in
set_option maxRecDepth 100000 in
theorem wL_areSums_b350 (C : CT p s m args meth c cL_areSums 12 RL (some (.boolean)) G (pA G s.heap.size)) {k165 : Int32 → Int32 → Int32 → Int32 → Int32 → Int32 → Int32 → Int32 → Int32 → xS → Option (Int32 × xS)} {i0 : Nat} {v1 : Int32} {v2 : Int32} {v3 : Int32} {v4 : Int32} {v5 : Int32} {v6 : Int32} {v7 : Int32} {v9 : Int32} {s0 : Int32} {x : xS} {r : (Int32 × xS)} (h165 : ∀ (v1 : Int32) (v2 : Int32) (v3 : Int32) (v4 : Int32) (v5 : Int32) (v6 : Int32) (v7 : Int32) (v8 : Int32) (v9 : Int32) (x : xS), k165 v1 v2 v3 v4 v5 v6 v7 v8 v9 x = some r → WB p l e rL_areSums s m args below meth c 12 G (pA G s.heap.size) (qI below G r args s 0 0) 0 0 165 [(0, .ref (G.2.2 i0)), (1, .int v1), (2, .int v2), (3, .int v3), (4, .int v4), (5, .int v5), (6, .int v6), (7, .int v7), (8, .int v8), (9, .int v9)] [] x) (hk0 : KD G i0 6) (hf : fL_areSums_b350 k165 i0 v1 v2 v3 v4 v5 v6 v7 v9 s0 x = some r) : WB p l e rL_areSums s m args below meth c 12 G (pA G s.heap.size) (qI below G r args s 0 0) 0 0 350 [(0, .ref (G.2.2 i0)), (1, .int v1), (2, .int v2), (3, .int v3), (4, .int v4), (5, .int v5), (6, .int v6), (7, .int v7), (9, .int v9)] [.int s0] x := by
  unfold fL_areSums_b350 at hf
  refine b_istore (lv' := [(8, .int s0), (0, .ref (G.2.2 i0)), (1, .int v1), (2, .int v2), (3, .int v3), (4, .int v4), (5, .int v5), (6, .int v6), (7, .int v7), (9, .int v9)]) C dL_areSums_350 (by decide) rfl ?_
  refine b_iinc (q := 9) (v' := (v9 + 1)) (lv' := [(9, .int (v9 + 1)), (8, .int s0), (0, .ref (G.2.2 i0)), (1, .int v1), (2, .int v2), (3, .int v3), (4, .int v4), (5, .int v5), (6, .int v6), (7, .int v7)]) C dL_areSums_352 rfl rfl (by decide) rfl ?_
  refine b_goto (tgt := 165) C dL_areSums_355 (by decide) ?_
  refine b_pm [2, 3, 4, 5, 6, 7, 8, 9, 1, 0] (lv' := [(0, .ref (G.2.2 i0)), (1, .int v1), (2, .int v2), (3, .int v3), (4, .int v4), (5, .int v5), (6, .int v6), (7, .int v7), (8, .int s0), (9, .int (v9 + 1))]) rfl ?_
  exact h165 _ _ _ _ _ _ _ _ _ _ hf
set_option maxHeartbeats 4000000 in
set_option maxRecDepth 100000 in
theorem wL_areSums_b336 (C : CT p s m args meth c cL_areSums 12 RL (some (.boolean)) G (pA G s.heap.size)) {k165 : Int32 → Int32 → Int32 → Int32 → Int32 → Int32 → Int32 → Int32 → Int32 → xS → Option (Int32 × xS)} {i0 : Nat} {v1 : Int32} {v2 : Int32} {v3 : Int32} {v4 : Int32} {v5 : Int32} {v6 : Int32} {v7 : Int32} {v8 : Int32} {v9 : Int32} {s0 : Int32} {x : xS} {r : (Int32 × xS)} (h165 : ∀ (v1 : Int32) (v2 : Int32) (v3 : Int32) (v4 : Int32) (v5 : Int32) (v6 : Int32) (v7 : Int32) (v8 : Int32) (v9 : Int32) (x : xS), k165 v1 v2 v3 v4 v5 v6 v7 v8 v9 x = some r → WB p l e rL_areSums s m args below meth c 12 G (pA G s.heap.size) (qI below G r args s 0 0) 0 0 165 [(0, .ref (G.2.2 i0)), (1, .int v1), (2, .int v2), (3, .int v3), (4, .int v4), (5, .int v5), (6, .int v6), (7, .int v7), (8, .int v8), (9, .int v9)] [] x) (hk0 : KD G i0 6) (hf : fL_areSums_b336 k165 i0 v1 v2 v3 v4 v5 v6 v7 v8 v9 s0 x = some r) : WB p l e rL_areSums s m args below meth c 12 G (pA G s.heap.size) (qI below G r args s 0 0) 0 0 336 [(0, .ref (G.2.2 i0)), (1, .int v1), (2, .int v2), (3, .int v3), (4, .int v4), (5, .int v5), (6, .int v6), (7, .int v7), (8, .int v8), (9, .int v9)] [.int s0] x := by
  unfold fL_areSums_b336 at hf
  refine b_istore (lv' := [(10, .int s0), (0, .ref (G.2.2 i0)), (1, .int v1), (2, .int v2), (3, .int v3), (4, .int v4), (5, .int v5), (6, .int v6), (7, .int v7), (8, .int v8), (9, .int v9)]) C dL_areSums_336 (by decide) rfl ?_
  refine b_iload C dL_areSums_338 0 rfl ?_
  refine b_if_le (tgt := 348) C dL_areSums_340 (by decide) (fun c340 => ?_) (fun c340 => ?_)
  · have hf := iT c340 hf
    refine b_iload C dL_areSums_348 9 rfl ?_
    refine b_pm [1, 2, 3, 4, 5, 6, 7, 8, 10] (lv' := [(0, .ref (G.2.2 i0)), (1, .int v1), (2, .int v2), (3, .int v3), (4, .int v4), (5, .int v5), (6, .int v6), (7, .int v7), (9, .int v9)]) rfl ?_
    exact wL_areSums_b350 C h165 hk0 hf
  · have hf := iF c340 hf
    refine b_iload C dL_areSums_343 10 rfl ?_
    refine b_goto (tgt := 350) C dL_areSums_345 (by decide) ?_
    refine b_pm [1, 2, 3, 4, 5, 6, 7, 8, 10] (lv' := [(0, .ref (G.2.2 i0)), (1, .int v1), (2, .int v2), (3, .int v3), (4, .int v4), (5, .int v5), (6, .int v6), (7, .int v7), (9, .int v9)]) rfl ?_
    exact wL_areSums_b350 C h165 hk0 hf
set_option maxHeartbeats 4000000 in
set_option maxRecDepth 100000 in
theorem wL_areSums_b292 (C : CT p s m args meth c cL_areSums 12 RL (some (.boolean)) G (pA G s.heap.size)) {k165 : Int32 → Int32 → Int32 → Int32 → Int32 → Int32 → Int32 → Int32 → Int32 → xS → Option (Int32 × xS)} {i0 : Nat} {v1 : Int32} {v2 : Int32} {v3 : Int32} {v4 : Int32} {v5 : Int32} {v7 : Int32} {v8 : Int32} {v9 : Int32} {s0 : Int32} {x : xS} {r : (Int32 × xS)} (h165 : ∀ (v1 : Int32) (v2 : Int32) (v3 : Int32) (v4 : Int32) (v5 : Int32) (v6 : Int32) (v7 : Int32) (v8 : Int32) (v9 : Int32) (x : xS), k165 v1 v2 v3 v4 v5 v6 v7 v8 v9 x = some r → WB p l e rL_areSums s m args below meth c 12 G (pA G s.heap.size) (qI below G r args s 0 0) 0 0 165 [(0, .ref (G.2.2 i0)), (1, .int v1), (2, .int v2), (3, .int v3), (4, .int v4), (5, .int v5), (6, .int v6), (7, .int v7), (8, .int v8), (9, .int v9)] [] x) (hk0 : KD G i0 6) (hf : fL_areSums_b292 k165 i0 v1 v2 v3 v4 v5 v7 v8 v9 s0 x = some r) : WB p l e rL_areSums s m args below meth c 12 G (pA G s.heap.size) (qI below G r args s 0 0) 0 0 292 [(0, .ref (G.2.2 i0)), (1, .int v1), (2, .int v2), (3, .int v3), (4, .int v4), (5, .int v5), (7, .int v7), (8, .int v8), (9, .int v9)] [.int s0] x := by
  unfold fL_areSums_b292 at hf
  refine b_istore (lv' := [(6, .int s0), (0, .ref (G.2.2 i0)), (1, .int v1), (2, .int v2), (3, .int v3), (4, .int v4), (5, .int v5), (7, .int v7), (8, .int v8), (9, .int v9)]) C dL_areSums_292 (by decide) rfl ?_
  refine b_aload_n C dL_areSums_294 rfl 1 rfl ?_
  refine b_iload C dL_areSums_295 9 rfl ?_
  refine b_iconst (v := 1) C dL_areSums_297 (by decide) ?_
  obtain ⟨r298, c298, hf⟩ := oB hf
  refine b_callVi (K := 6) (As := [.int v9, .int 1]) (res := (r298, x)) C (metpX6_lodgerOf l G _ _ _ _ _ hk0 c298) hk0 (by decide) rfl gkL_56 ekL_56 rfl ⟨rfl, rfl⟩ ⟨Nat.le_of_ble_eq_true rfl, Nat.le_of_ble_eq_true rfl⟩ (by simp [Value.category]) ⟨Nat.zero_le _, Nat.zero_le _⟩ rfl dL_areSums_298 ?_
  refine b_aload_n C dL_areSums_301 rfl 1 rfl ?_
  refine b_iload C dL_areSums_302 8 rfl ?_
  refine b_iconst (v := 1) C dL_areSums_304 (by decide) ?_
  obtain ⟨r305, c305, hf⟩ := oB hf
  refine b_callVi (K := 6) (As := [.int v8, .int 1]) (res := (r305, x)) C (metpX6_lodgerOf l G _ _ _ _ _ hk0 c305) hk0 (by decide) rfl gkL_56 ekL_56 rfl ⟨rfl, rfl⟩ ⟨Nat.le_of_ble_eq_true rfl, Nat.le_of_ble_eq_true rfl⟩ (by simp [Value.category]) ⟨Nat.zero_le _, Nat.zero_le _⟩ rfl dL_areSums_305 ?_
  refine b_isub C dL_areSums_308 ?_
  obtain ⟨y309, e309, hf⟩ := lN1 hf
  rw [e309]
  refine b_istore (lv' := [(10, .int y309), (6, .int s0), (0, .ref (G.2.2 i0)), (1, .int v1), (2, .int v2), (3, .int v3), (4, .int v4), (5, .int v5), (7, .int v7), (8, .int v8), (9, .int v9)]) C dL_areSums_309 (by decide) rfl ?_
  refine b_iload C dL_areSums_311 0 rfl ?_
  refine b_if_ne (tgt := 334) C dL_areSums_313 (by decide) (fun c313 => ?_) (fun c313 => ?_)
  · have hf := iF c313 hf
    refine b_iload C dL_areSums_334 0 rfl ?_
    refine b_pm [2, 3, 4, 5, 6, 7, 1, 8, 9, 10] (lv' := [(0, .ref (G.2.2 i0)), (1, .int v1), (2, .int v2), (3, .int v3), (4, .int v4), (5, .int v5), (6, .int s0), (7, .int v7), (8, .int v8), (9, .int v9)]) rfl ?_
    exact wL_areSums_b336 C h165 hk0 hf
  · have hf := iT c313 hf
    refine b_aload_n C dL_areSums_316 rfl 2 rfl ?_
    refine b_iload C dL_areSums_317 10 rfl ?_
    refine b_iconst (v := 0) C dL_areSums_319 (by decide) ?_
    obtain ⟨r320, c320, hf⟩ := oB hf
    refine b_callVi (K := 6) (As := [.int v9, .int 0]) (res := (r320, x)) C (metpX6_lodgerOf l G _ _ _ _ _ hk0 c320) hk0 (by decide) rfl gkL_56 ekL_56 rfl ⟨rfl, rfl⟩ ⟨Nat.le_of_ble_eq_true rfl, Nat.le_of_ble_eq_true rfl⟩ (by simp [Value.category]) ⟨Nat.zero_le _, Nat.zero_le _⟩ rfl dL_areSums_320 ?_
    refine b_aload_n C dL_areSums_323 rfl 2 rfl ?_
    refine b_iload C dL_areSums_324 9 rfl ?_
    refine b_iconst (v := 0) C dL_areSums_326 (by decide) ?_
    obtain ⟨r327, c327, hf⟩ := oB hf
    refine b_callVi (K := 6) (As := [.int v8, .int 0]) (res := (r327, x)) C (metpX6_lodgerOf l G _ _ _ _ _ hk0 c327) hk0 (by decide) rfl gkL_56 ekL_56 rfl ⟨rfl, rfl⟩ ⟨Nat.le_of_ble_eq_true rfl, Nat.le_of_ble_eq_true rfl⟩ (by simp [Value.category]) ⟨Nat.zero_le _, Nat.zero_le _⟩ rfl dL_areSums_327 ?_
    refine b_isub C dL_areSums_330 ?_
    refine b_goto (tgt := 336) C dL_areSums_331 (by decide) ?_
    refine b_pm [2, 3, 4, 5, 6, 7, 1, 8, 9, 10] (lv' := [(0, .ref (G.2.2 i0)), (1, .int v1), (2, .int v2), (3, .int v3), (4, .int v4), (5, .int v5), (6, .int s0), (7, .int v7), (8, .int v8), (9, .int v9)]) rfl ?_
    exact wL_areSums_b336 C h165 hk0 hf
set_option maxHeartbeats 4000000 in
set_option maxRecDepth 100000 in
theorem wL_areSums_b291 (C : CT p s m args meth c cL_areSums 12 RL (some (.boolean)) G (pA G s.heap.size)) {k165 : Int32 → Int32 → Int32 → Int32 → Int32 → Int32 → Int32 → Int32 → Int32 → xS → Option (Int32 × xS)} {i0 : Nat} {v1 : Int32} {v2 : Int32} {v3 : Int32} {v4 : Int32} {v5 : Int32} {v7 : Int32} {v8 : Int32} {v9 : Int32} {x : xS} {r : (Int32 × xS)} (h165 : ∀ (v1 : Int32) (v2 : Int32) (v3 : Int32) (v4 : Int32) (v5 : Int32) (v6 : Int32) (v7 : Int32) (v8 : Int32) (v9 : Int32) (x : xS), k165 v1 v2 v3 v4 v5 v6 v7 v8 v9 x = some r → WB p l e rL_areSums s m args below meth c 12 G (pA G s.heap.size) (qI below G r args s 0 0) 0 0 165 [(0, .ref (G.2.2 i0)), (1, .int v1), (2, .int v2), (3, .int v3), (4, .int v4), (5, .int v5), (6, .int v6), (7, .int v7), (8, .int v8), (9, .int v9)] [] x) (hk0 : KD G i0 6) (hf : fL_areSums_b291 k165 i0 v1 v2 v3 v4 v5 v7 v8 v9 x = some r) : WB p l e rL_areSums s m args below meth c 12 G (pA G s.heap.size) (qI below G r args s 0 0) 0 0 291 [(0, .ref (G.2.2 i0)), (1, .int v1), (2, .int v2), (3, .int v3), (4, .int v4), (5, .int v5), (7, .int v7), (8, .int v8), (9, .int v9)] [] x := by
  unfold fL_areSums_b291 at hf
  refine b_iconst (v := 0) C dL_areSums_291 (by decide) ?_
  exact wL_areSums_b292 C h165 hk0 hf
set_option maxHeartbeats 4000000 in
set_option maxRecDepth 100000 in
theorem wL_areSums_b165 (C : CT p s m args meth c cL_areSums 12 RL (some (.boolean)) G (pA G s.heap.size)) {i0 : Nat} {r : (Int32 × xS)} (hk0 : KD G i0 6) : ∀ (n : Nat) (v1 : Int32) (v2 : Int32) (v3 : Int32) (v4 : Int32) (v5 : Int32) (v6 : Int32) (v7 : Int32) (v8 : Int32) (v9 : Int32) (x : xS), fL_areSums_b165 i0 n v1 v2 v3 v4 v5 v6 v7 v8 v9 x = some r → WB p l e rL_areSums s m args below meth c 12 G (pA G s.heap.size) (qI below G r args s 0 0) 0 0 165 [(0, .ref (G.2.2 i0)), (1, .int v1), (2, .int v2), (3, .int v3), (4, .int v4), (5, .int v5), (6, .int v6), (7, .int v7), (8, .int v8), (9, .int v9)] [] x := by
  intro n
  induction n with
  | zero =>
    intro v1 v2 v3 v4 v5 v6 v7 v8 v9 x hf
    cases hf
  | succ n ih =>
    intro v1 v2 v3 v4 v5 v6 v7 v8 v9 x hf
    rw [fL_areSums_b165] at hf
    refine b_iload C dL_areSums_165 9 rfl ?_
    refine b_bipush (v := 10) C dL_areSums_167 (by decide) ?_
    refine b_icmp_ge (tgt := 358) C dL_areSums_169 (by decide) (fun c169 => ?_) (fun c169 => ?_)
    · have hf := iT c169 hf
      refine b_iload_n C dL_areSums_358 rfl 1 rfl ?_
      refine b_i2d C dL_areSums_359 ?_
      refine b_ldc2d C w_316 dL_areSums_360 ?_
      obtain ⟨g363, hf⟩ := iP hf
      refine b_ddiv C dL_areSums_363 g363 ?_
      refine b_dstore (lv' := [(9, .double (FP.ddiv (FP.i2d v1) (4631952216750555136 : UInt64))), (0, .ref (G.2.2 i0)), (1, .int v1), (2, .int v2), (3, .int v3), (4, .int v4), (5, .int v5), (6, .int v6), (7, .int v7), (8, .int v8)]) C dL_areSums_364 (by decide) rfl ?_
      refine b_iload C dL_areSums_366 7 rfl ?_
      refine b_if_eq (tgt := 513) C dL_areSums_368 (by decide) (fun c368 => ?_) (fun c368 => ?_)
      · have hf := iT c368 hf
        refine b_pm [1] (lv' := [(0, .ref (G.2.2 i0))]) rfl ?_
        exact wL_areSums_b513 C  hk0 hf
      · have hf := iF c368 hf
        refine b_iload C dL_areSums_371 8 rfl ?_
        refine b_if_ne (tgt := 513) C dL_areSums_373 (by decide) (fun c373 => ?_) (fun c373 => ?_)
        · have hf := iF c373 hf
          refine b_pm [1] (lv' := [(0, .ref (G.2.2 i0))]) rfl ?_
          exact wL_areSums_b513 C  hk0 hf
        · have hf := iT c373 hf
          refine b_iload_n C dL_areSums_376 rfl 2 rfl ?_
          refine b_aload_n C dL_areSums_377 rfl 1 rfl ?_
          refine b_iconst (v := 2) C dL_areSums_378 (by decide) ?_
          obtain ⟨r379, c379, hf⟩ := oB hf
          refine b_callVi (K := 6) (As := [.int 2]) (res := (r379, x)) C (metpX6_count l G _ _ _ _ hk0 c379) hk0 (by decide) rfl gkL_53 ekL_53 rfl ⟨rfl, rfl⟩ ⟨Nat.le_of_ble_eq_true rfl, Nat.le_of_ble_eq_true rfl⟩ (by simp [Value.category]) ⟨Nat.zero_le _, Nat.zero_le _⟩ rfl dL_areSums_379 ?_
          refine b_icmp_ne (tgt := 513) C dL_areSums_382 (by decide) (fun c382 => ?_) (fun c382 => ?_)
          · have hf := iF c382 hf
            refine b_pm [1] (lv' := [(0, .ref (G.2.2 i0))]) rfl ?_
            exact wL_areSums_b513 C  hk0 hf
          · have hf := iT c382 hf
            refine b_iload_n C dL_areSums_385 rfl 3 rfl ?_
            refine b_aload_n C dL_areSums_386 rfl 1 rfl ?_
            refine b_iconst (v := 3) C dL_areSums_387 (by decide) ?_
            obtain ⟨r388, c388, hf⟩ := oB hf
            refine b_callVi (K := 6) (As := [.int 3]) (res := (r388, x)) C (metpX6_count l G _ _ _ _ hk0 c388) hk0 (by decide) rfl gkL_53 ekL_53 rfl ⟨rfl, rfl⟩ ⟨Nat.le_of_ble_eq_true rfl, Nat.le_of_ble_eq_true rfl⟩ (by simp [Value.category]) ⟨Nat.zero_le _, Nat.zero_le _⟩ rfl dL_areSums_388 ?_
            refine b_icmp_ne (tgt := 513) C dL_areSums_391 (by decide) (fun c391 => ?_) (fun c391 => ?_)
            · have hf := iF c391 hf
              refine b_pm [1] (lv' := [(0, .ref (G.2.2 i0))]) rfl ?_
              exact wL_areSums_b513 C  hk0 hf
            · have hf := iT c391 hf
              refine b_iload_n C dL_areSums_394 rfl 4 rfl ?_
              refine b_aload_n C dL_areSums_395 rfl 1 rfl ?_
              refine b_bipush (v := 6) C dL_areSums_396 (by decide) ?_
              obtain ⟨r398, c398, hf⟩ := oB hf
              refine b_callVi (K := 6) (As := [.int 6]) (res := (r398, x)) C (metpX6_count l G _ _ _ _ hk0 c398) hk0 (by decide) rfl gkL_53 ekL_53 rfl ⟨rfl, rfl⟩ ⟨Nat.le_of_ble_eq_true rfl, Nat.le_of_ble_eq_true rfl⟩ (by simp [Value.category]) ⟨Nat.zero_le _, Nat.zero_le _⟩ rfl dL_areSums_398 ?_
              refine b_icmp_ne (tgt := 513) C dL_areSums_401 (by decide) (fun c401 => ?_) (fun c401 => ?_)
              · have hf := iF c401 hf
                refine b_pm [1] (lv' := [(0, .ref (G.2.2 i0))]) rfl ?_
                exact wL_areSums_b513 C  hk0 hf
              · have hf := iT c401 hf
                refine b_iload C dL_areSums_404 5 rfl ?_
                refine b_aload_n C dL_areSums_406 rfl 1 rfl ?_
                refine b_iconst (v := 4) C dL_areSums_407 (by decide) ?_
                obtain ⟨r408, c408, hf⟩ := oB hf
                refine b_callVi (K := 6) (As := [.int 4]) (res := (r408, x)) C (metpX6_count l G _ _ _ _ hk0 c408) hk0 (by decide) rfl gkL_53 ekL_53 rfl ⟨rfl, rfl⟩ ⟨Nat.le_of_ble_eq_true rfl, Nat.le_of_ble_eq_true rfl⟩ (by simp [Value.category]) ⟨Nat.zero_le _, Nat.zero_le _⟩ rfl dL_areSums_408 ?_
                refine b_icmp_gt (tgt := 513) C dL_areSums_411 (by decide) (fun c411 => ?_) (fun c411 => ?_)
                · have hf := iT c411 hf
                  refine b_pm [1] (lv' := [(0, .ref (G.2.2 i0))]) rfl ?_
                  exact wL_areSums_b513 C  hk0 hf
                · have hf := iF c411 hf
                  refine b_aload_n C dL_areSums_414 rfl 1 rfl ?_
                  refine b_bipush (v := 7) C dL_areSums_415 (by decide) ?_
                  obtain ⟨r417, c417, hf⟩ := oB hf
                  refine b_callVi (K := 6) (As := [.int 7]) (res := (r417, x)) C (metpX6_count l G _ _ _ _ hk0 c417) hk0 (by decide) rfl gkL_53 ekL_53 rfl ⟨rfl, rfl⟩ ⟨Nat.le_of_ble_eq_true rfl, Nat.le_of_ble_eq_true rfl⟩ (by simp [Value.category]) ⟨Nat.zero_le _, Nat.zero_le _⟩ rfl dL_areSums_417 ?_
                  refine b_aload_n C dL_areSums_420 rfl 1 rfl ?_
                  refine b_bipush (v := 6) C dL_areSums_421 (by decide) ?_
                  obtain ⟨r423, c423, hf⟩ := oB hf
                  refine b_callVi (K := 6) (As := [.int 6]) (res := (r423, x)) C (metpX6_count l G _ _ _ _ hk0 c423) hk0 (by decide) rfl gkL_53 ekL_53 rfl ⟨rfl, rfl⟩ ⟨Nat.le_of_ble_eq_true rfl, Nat.le_of_ble_eq_true rfl⟩ (by simp [Value.category]) ⟨Nat.zero_le _, Nat.zero_le _⟩ rfl dL_areSums_423 ?_
                  refine b_icmp_lt (tgt := 513) C dL_areSums_426 (by decide) (fun c426 => ?_) (fun c426 => ?_)
                  · have hf := iT c426 hf
                    refine b_pm [1] (lv' := [(0, .ref (G.2.2 i0))]) rfl ?_
                    exact wL_areSums_b513 C  hk0 hf
                  · have hf := iF c426 hf
                    refine b_aload_n C dL_areSums_429 rfl 1 rfl ?_
                    refine b_iconst (v := 5) C dL_areSums_430 (by decide) ?_
                    obtain ⟨r431, c431, hf⟩ := oB hf
                    refine b_callVi (K := 6) (As := [.int 5]) (res := (r431, x)) C (metpX6_count l G _ _ _ _ hk0 c431) hk0 (by decide) rfl gkL_53 ekL_53 rfl ⟨rfl, rfl⟩ ⟨Nat.le_of_ble_eq_true rfl, Nat.le_of_ble_eq_true rfl⟩ (by simp [Value.category]) ⟨Nat.zero_le _, Nat.zero_le _⟩ rfl dL_areSums_431 ?_
                    refine b_aload_n C dL_areSums_434 rfl 1 rfl ?_
                    refine b_iconst (v := 1) C dL_areSums_435 (by decide) ?_
                    obtain ⟨r436, c436, hf⟩ := oB hf
                    refine b_callVi (K := 6) (As := [.int 1]) (res := (r436, x)) C (metpX6_refused l G _ _ _ _ hk0 c436) hk0 (by decide) rfl gkL_62 ekL_62 rfl ⟨rfl, rfl⟩ ⟨Nat.le_of_ble_eq_true rfl, Nat.le_of_ble_eq_true rfl⟩ (by simp [Value.category]) ⟨Nat.zero_le _, Nat.zero_le _⟩ rfl dL_areSums_436 ?_
                    refine b_aload_n C dL_areSums_439 rfl 1 rfl ?_
                    refine b_iconst (v := 2) C dL_areSums_440 (by decide) ?_
                    obtain ⟨r441, c441, hf⟩ := oB hf
                    refine b_callVi (K := 6) (As := [.int 2]) (res := (r441, x)) C (metpX6_refused l G _ _ _ _ hk0 c441) hk0 (by decide) rfl gkL_62 ekL_62 rfl ⟨rfl, rfl⟩ ⟨Nat.le_of_ble_eq_true rfl, Nat.le_of_ble_eq_true rfl⟩ (by simp [Value.category]) ⟨Nat.zero_le _, Nat.zero_le _⟩ rfl dL_areSums_441 ?_
                    refine b_iadd C dL_areSums_444 ?_
                    refine b_aload_n C dL_areSums_445 rfl 1 rfl ?_
                    refine b_iconst (v := 3) C dL_areSums_446 (by decide) ?_
                    obtain ⟨r447, c447, hf⟩ := oB hf
                    refine b_callVi (K := 6) (As := [.int 3]) (res := (r447, x)) C (metpX6_refused l G _ _ _ _ hk0 c447) hk0 (by decide) rfl gkL_62 ekL_62 rfl ⟨rfl, rfl⟩ ⟨Nat.le_of_ble_eq_true rfl, Nat.le_of_ble_eq_true rfl⟩ (by simp [Value.category]) ⟨Nat.zero_le _, Nat.zero_le _⟩ rfl dL_areSums_447 ?_
                    refine b_iadd C dL_areSums_450 ?_
                    refine b_aload_n C dL_areSums_451 rfl 1 rfl ?_
                    refine b_iconst (v := 4) C dL_areSums_452 (by decide) ?_
                    obtain ⟨r453, c453, hf⟩ := oB hf
                    refine b_callVi (K := 6) (As := [.int 4]) (res := (r453, x)) C (metpX6_refused l G _ _ _ _ hk0 c453) hk0 (by decide) rfl gkL_62 ekL_62 rfl ⟨rfl, rfl⟩ ⟨Nat.le_of_ble_eq_true rfl, Nat.le_of_ble_eq_true rfl⟩ (by simp [Value.category]) ⟨Nat.zero_le _, Nat.zero_le _⟩ rfl dL_areSums_453 ?_
                    refine b_iadd C dL_areSums_456 ?_
                    refine b_icmp_ne (tgt := 513) C dL_areSums_457 (by decide) (fun c457 => ?_) (fun c457 => ?_)
                    · have hf := iF c457 hf
                      refine b_pm [1] (lv' := [(0, .ref (G.2.2 i0))]) rfl ?_
                      exact wL_areSums_b513 C  hk0 hf
                    · have hf := iT c457 hf
                      refine b_aload_n C dL_areSums_460 rfl 1 rfl ?_
                      refine b_iconst (v := 0) C dL_areSums_461 (by decide) ?_
                      obtain ⟨r462, c462, hf⟩ := oB hf
                      refine b_callVi (K := 6) (As := [.int 0]) (res := r462) C (metpX6_fewestBeds l G _ _ _ _ hk0 c462) hk0 (by decide) rfl gkL_67 ekL_67 rfl ⟨rfl, rfl⟩ ⟨Nat.le_of_ble_eq_true rfl, Nat.le_of_ble_eq_true rfl⟩ (by simp [Value.category]) ⟨Nat.zero_le _, Nat.zero_le _⟩ rfl dL_areSums_462 ?_
                      refine b_iload C dL_areSums_465 6 rfl ?_
                      refine b_icmp_ne (tgt := 513) C dL_areSums_467 (by decide) (fun c467 => ?_) (fun c467 => ?_)
                      · have hf := iF c467 hf
                        refine b_pm [1] (lv' := [(0, .ref (G.2.2 i0))]) rfl ?_
                        exact wL_areSums_b513 C  hk0 hf
                      · have hf := iT c467 hf
                        refine b_aload_n C dL_areSums_470 rfl 1 rfl ?_
                        refine b_iconst (v := 1) C dL_areSums_471 (by decide) ?_
                        obtain ⟨r472, c472, hf⟩ := oB hf
                        refine b_callVi (K := 6) (As := [.int 1]) (res := r472) C (metpX6_fewestBeds l G _ _ _ _ hk0 c472) hk0 (by decide) rfl gkL_67 ekL_67 rfl ⟨rfl, rfl⟩ ⟨Nat.le_of_ble_eq_true rfl, Nat.le_of_ble_eq_true rfl⟩ (by simp [Value.category]) ⟨Nat.zero_le _, Nat.zero_le _⟩ rfl dL_areSums_472 ?_
                        refine b_iload C dL_areSums_475 6 rfl ?_
                        refine b_icmp_ne (tgt := 513) C dL_areSums_477 (by decide) (fun c477 => ?_) (fun c477 => ?_)
                        · have hf := iF c477 hf
                          refine b_pm [1] (lv' := [(0, .ref (G.2.2 i0))]) rfl ?_
                          exact wL_areSums_b513 C  hk0 hf
                        · have hf := iT c477 hf
                          refine b_aload_n C dL_areSums_480 rfl 1 rfl ?_
                          obtain ⟨r481, c481, hf⟩ := oB hf
                          refine b_callVi (K := 6) (As := []) (res := (r481, r472.2)) C (metX6_poorest l G _ _ _ hk0 c481) hk0 (by decide) rfl gkL_50 ekL_50 rfl ⟨rfl, rfl⟩ ⟨Nat.le_of_ble_eq_true rfl, Nat.le_of_ble_eq_true rfl⟩ (by simp [Value.category]) ⟨Nat.zero_le _, Nat.zero_le _⟩ rfl dL_areSums_481 ?_
                          refine b_iload C dL_areSums_484 9 rfl ?_
                          refine b_icmp_ne (tgt := 513) C dL_areSums_486 (by decide) (fun c486 => ?_) (fun c486 => ?_)
                          · have hf := iF c486 hf
                            refine b_pm [1] (lv' := [(0, .ref (G.2.2 i0))]) rfl ?_
                            exact wL_areSums_b513 C  hk0 hf
                          · have hf := iT c486 hf
                            refine b_aload_n C dL_areSums_489 rfl 1 rfl ?_
                            obtain ⟨r490, c490, hf⟩ := oB hf
                            refine b_callVd (K := 6) (As := []) (res := (r490, r472.2)) C (metX6_fullness l G _ _ _ hk0 c490) hk0 (by decide) rfl gkL_70 ekL_70 rfl ⟨rfl, rfl⟩ ⟨Nat.le_of_ble_eq_true rfl, Nat.le_of_ble_eq_true rfl⟩ (by simp [Value.category]) ⟨Nat.zero_le _, Nat.zero_le _⟩ rfl dL_areSums_490 ?_
                            refine b_dload C dL_areSums_493 0 rfl ?_
                            refine b_dcmp C dL_areSums_495 ?_
                            refine b_if_ne (tgt := 513) C dL_areSums_496 (by decide) (fun c496 => ?_) (fun c496 => ?_)
                            · have hf := iF c496 hf
                              refine b_pm [1] (lv' := [(0, .ref (G.2.2 i0))]) rfl ?_
                              exact wL_areSums_b513 C  hk0 hf
                            · have hf := iT c496 hf
                              refine b_aload_n C dL_areSums_499 rfl 1 rfl ?_
                              refine b_iconst (v := 0) C dL_areSums_500 (by decide) ?_
                              obtain ⟨r501, c501, hf⟩ := oB hf
                              refine b_callVi (K := 6) (As := [.int 0]) (res := (r501, r472.2)) C (metpX6_count l G _ _ _ _ hk0 c501) hk0 (by decide) rfl gkL_53 ekL_53 rfl ⟨rfl, rfl⟩ ⟨Nat.le_of_ble_eq_true rfl, Nat.le_of_ble_eq_true rfl⟩ (by simp [Value.category]) ⟨Nat.zero_le _, Nat.zero_le _⟩ rfl dL_areSums_501 ?_
                              refine b_bipush (v := 12) C dL_areSums_504 (by decide) ?_
                              refine b_icmp_ge (tgt := 513) C dL_areSums_506 (by decide) (fun c506 => ?_) (fun c506 => ?_)
                              · have hf := iT c506 hf
                                refine b_pm [1] (lv' := [(0, .ref (G.2.2 i0))]) rfl ?_
                                exact wL_areSums_b513 C  hk0 hf
                              · have hf := iF c506 hf
                                refine b_iconst (v := 1) C dL_areSums_509 (by decide) ?_
                                refine b_goto (tgt := 514) C dL_areSums_510 (by decide) ?_
                                exact b_iretz C (by decide) dL_areSums_514 hf
    · have hf := iF c169 hf
      refine b_iload C dL_areSums_172 7 rfl ?_
      refine b_aload_n C dL_areSums_174 rfl 0 rfl ?_
      refine b_iload C dL_areSums_175 9 rfl ?_
      refine b_iconst (v := 3) C dL_areSums_177 (by decide) ?_
      obtain ⟨r178, c178, hf⟩ := oB hf
      refine b_callVi (K := 6) (As := [.int v9, .int 3]) (res := (r178, x)) C (metpX6_lodgerOf l G _ _ _ _ _ hk0 c178) hk0 (by decide) rfl gkL_56 ekL_56 rfl ⟨rfl, rfl⟩ ⟨Nat.le_of_ble_eq_true rfl, Nat.le_of_ble_eq_true rfl⟩ (by simp [Value.category]) ⟨Nat.zero_le _, Nat.zero_le _⟩ rfl dL_areSums_178 ?_
      refine b_isub C dL_areSums_181 ?_
      obtain ⟨y182, e182, hf⟩ := lN1 hf
      rw [e182]
      refine b_istore (lv' := [(7, .int y182), (0, .ref (G.2.2 i0)), (1, .int v1), (2, .int v2), (3, .int v3), (4, .int v4), (5, .int v5), (6, .int v6), (8, .int v8), (9, .int v9)]) C dL_areSums_182 (by decide) rfl ?_
      refine b_iload_n C dL_areSums_184 rfl 3 rfl ?_
      refine b_aload_n C dL_areSums_185 rfl 1 rfl ?_
      refine b_iload C dL_areSums_186 9 rfl ?_
      refine b_iconst (v := 4) C dL_areSums_188 (by decide) ?_
      obtain ⟨r189, c189, hf⟩ := oB hf
      refine b_callVi (K := 6) (As := [.int v9, .int 4]) (res := (r189, x)) C (metpX6_lodgerOf l G _ _ _ _ _ hk0 c189) hk0 (by decide) rfl gkL_56 ekL_56 rfl ⟨rfl, rfl⟩ ⟨Nat.le_of_ble_eq_true rfl, Nat.le_of_ble_eq_true rfl⟩ (by simp [Value.category]) ⟨Nat.zero_le _, Nat.zero_le _⟩ rfl dL_areSums_189 ?_
      refine b_iadd C dL_areSums_192 ?_
      obtain ⟨y193, e193, hf⟩ := lN1 hf
      rw [e193]
      refine b_istore_n (lv' := [(2, .int y193), (7, .int y182), (0, .ref (G.2.2 i0)), (1, .int v1), (3, .int v3), (4, .int v4), (5, .int v5), (6, .int v6), (8, .int v8), (9, .int v9)]) C dL_areSums_193 rfl (by decide) rfl ?_
      refine b_iload_n C dL_areSums_194 rfl 4 rfl ?_
      refine b_aload_n C dL_areSums_195 rfl 2 rfl ?_
      refine b_iload C dL_areSums_196 9 rfl ?_
      refine b_iconst (v := 5) C dL_areSums_198 (by decide) ?_
      obtain ⟨r199, c199, hf⟩ := oB hf
      refine b_callVi (K := 6) (As := [.int v9, .int 5]) (res := (r199, x)) C (metpX6_lodgerOf l G _ _ _ _ _ hk0 c199) hk0 (by decide) rfl gkL_56 ekL_56 rfl ⟨rfl, rfl⟩ ⟨Nat.le_of_ble_eq_true rfl, Nat.le_of_ble_eq_true rfl⟩ (by simp [Value.category]) ⟨Nat.zero_le _, Nat.zero_le _⟩ rfl dL_areSums_199 ?_
      refine b_iadd C dL_areSums_202 ?_
      obtain ⟨y203, e203, hf⟩ := lN1 hf
      rw [e203]
      refine b_istore_n (lv' := [(3, .int y203), (2, .int y193), (7, .int y182), (0, .ref (G.2.2 i0)), (1, .int v1), (4, .int v4), (5, .int v5), (6, .int v6), (8, .int v8), (9, .int v9)]) C dL_areSums_203 rfl (by decide) rfl ?_
      refine b_iload C dL_areSums_204 5 rfl ?_
      refine b_aload_n C dL_areSums_206 rfl 3 rfl ?_
      refine b_iload C dL_areSums_207 9 rfl ?_
      refine b_bipush (v := 6) C dL_areSums_209 (by decide) ?_
      obtain ⟨r211, c211, hf⟩ := oB hf
      refine b_callVi (K := 6) (As := [.int v9, .int 6]) (res := (r211, x)) C (metpX6_lodgerOf l G _ _ _ _ _ hk0 c211) hk0 (by decide) rfl gkL_56 ekL_56 rfl ⟨rfl, rfl⟩ ⟨Nat.le_of_ble_eq_true rfl, Nat.le_of_ble_eq_true rfl⟩ (by simp [Value.category]) ⟨Nat.zero_le _, Nat.zero_le _⟩ rfl dL_areSums_211 ?_
      refine b_iadd C dL_areSums_214 ?_
      obtain ⟨y215, e215, hf⟩ := lN1 hf
      rw [e215]
      refine b_istore (lv' := [(4, .int y215), (3, .int y203), (2, .int y193), (7, .int y182), (0, .ref (G.2.2 i0)), (1, .int v1), (5, .int v5), (6, .int v6), (8, .int v8), (9, .int v9)]) C dL_areSums_215 (by decide) rfl ?_
      refine b_iload C dL_areSums_217 7 rfl ?_
      refine b_if_eq (tgt := 291) C dL_areSums_219 (by decide) (fun c219 => ?_) (fun c219 => ?_)
      · have hf := iT c219 hf
        refine b_pm [4, 5, 2, 1, 0, 6, 3, 8, 9] (lv' := [(0, .ref (G.2.2 i0)), (1, .int v1), (2, .int y193), (3, .int y203), (4, .int y215), (5, .int v5), (7, .int y182), (8, .int v8), (9, .int v9)]) rfl ?_
        exact wL_areSums_b291 C ih hk0 hf
      · have hf := iF c219 hf
        refine b_aload_n C dL_areSums_222 rfl 4 rfl ?_
        refine b_iload C dL_areSums_223 9 rfl ?_
        refine b_iconst (v := 0) C dL_areSums_225 (by decide) ?_
        obtain ⟨r226, c226, hf⟩ := oB hf
        refine b_callVi (K := 6) (As := [.int v9, .int 0]) (res := (r226, x)) C (metpX6_lodgerOf l G _ _ _ _ _ hk0 c226) hk0 (by decide) rfl gkL_56 ekL_56 rfl ⟨rfl, rfl⟩ ⟨Nat.le_of_ble_eq_true rfl, Nat.le_of_ble_eq_true rfl⟩ (by simp [Value.category]) ⟨Nat.zero_le _, Nat.zero_le _⟩ rfl dL_areSums_226 ?_
        refine b_if_lt (tgt := 291) C dL_areSums_229 (by decide) (fun c229 => ?_) (fun c229 => ?_)
        · have hf := iT c229 hf
          refine b_pm [4, 5, 2, 1, 0, 6, 3, 8, 9] (lv' := [(0, .ref (G.2.2 i0)), (1, .int v1), (2, .int y193), (3, .int y203), (4, .int y215), (5, .int v5), (7, .int y182), (8, .int v8), (9, .int v9)]) rfl ?_
          exact wL_areSums_b291 C ih hk0 hf
        · have hf := iF c229 hf
          refine b_aload_n C dL_areSums_232 rfl 4 rfl ?_
          refine b_iload C dL_areSums_233 9 rfl ?_
          refine b_iconst (v := 0) C dL_areSums_235 (by decide) ?_
          obtain ⟨r236, c236, hf⟩ := oB hf
          refine b_callVi (K := 6) (As := [.int v9, .int 0]) (res := (r236, x)) C (metpX6_lodgerOf l G _ _ _ _ _ hk0 c236) hk0 (by decide) rfl gkL_56 ekL_56 rfl ⟨rfl, rfl⟩ ⟨Nat.le_of_ble_eq_true rfl, Nat.le_of_ble_eq_true rfl⟩ (by simp [Value.category]) ⟨Nat.zero_le _, Nat.zero_le _⟩ rfl dL_areSums_236 ?_
          refine b_bipush (v := 10) C dL_areSums_239 (by decide) ?_
          refine b_icmp_ge (tgt := 291) C dL_areSums_241 (by decide) (fun c241 => ?_) (fun c241 => ?_)
          · have hf := iT c241 hf
            refine b_pm [4, 5, 2, 1, 0, 6, 3, 8, 9] (lv' := [(0, .ref (G.2.2 i0)), (1, .int v1), (2, .int y193), (3, .int y203), (4, .int y215), (5, .int v5), (7, .int y182), (8, .int v8), (9, .int v9)]) rfl ?_
            exact wL_areSums_b291 C ih hk0 hf
          · have hf := iF c241 hf
            refine b_aload_n C dL_areSums_244 rfl 4 rfl ?_
            refine b_iload C dL_areSums_245 9 rfl ?_
            refine b_iconst (v := 1) C dL_areSums_247 (by decide) ?_
            obtain ⟨r248, c248, hf⟩ := oB hf
            refine b_callVi (K := 6) (As := [.int v9, .int 1]) (res := (r248, x)) C (metpX6_lodgerOf l G _ _ _ _ _ hk0 c248) hk0 (by decide) rfl gkL_56 ekL_56 rfl ⟨rfl, rfl⟩ ⟨Nat.le_of_ble_eq_true rfl, Nat.le_of_ble_eq_true rfl⟩ (by simp [Value.category]) ⟨Nat.zero_le _, Nat.zero_le _⟩ rfl dL_areSums_248 ?_
            refine b_if_lt (tgt := 291) C dL_areSums_251 (by decide) (fun c251 => ?_) (fun c251 => ?_)
            · have hf := iT c251 hf
              refine b_pm [4, 5, 2, 1, 0, 6, 3, 8, 9] (lv' := [(0, .ref (G.2.2 i0)), (1, .int v1), (2, .int y193), (3, .int y203), (4, .int y215), (5, .int v5), (7, .int y182), (8, .int v8), (9, .int v9)]) rfl ?_
              exact wL_areSums_b291 C ih hk0 hf
            · have hf := iF c251 hf
              refine b_aload_n C dL_areSums_254 rfl 4 rfl ?_
              refine b_iload C dL_areSums_255 9 rfl ?_
              refine b_iconst (v := 1) C dL_areSums_257 (by decide) ?_
              obtain ⟨r258, c258, hf⟩ := oB hf
              refine b_callVi (K := 6) (As := [.int v9, .int 1]) (res := (r258, x)) C (metpX6_lodgerOf l G _ _ _ _ _ hk0 c258) hk0 (by decide) rfl gkL_56 ekL_56 rfl ⟨rfl, rfl⟩ ⟨Nat.le_of_ble_eq_true rfl, Nat.le_of_ble_eq_true rfl⟩ (by simp [Value.category]) ⟨Nat.zero_le _, Nat.zero_le _⟩ rfl dL_areSums_258 ?_
              refine b_bipush (v := 8) C dL_areSums_261 (by decide) ?_
              refine b_icmp_ge (tgt := 291) C dL_areSums_263 (by decide) (fun c263 => ?_) (fun c263 => ?_)
              · have hf := iT c263 hf
                refine b_pm [4, 5, 2, 1, 0, 6, 3, 8, 9] (lv' := [(0, .ref (G.2.2 i0)), (1, .int v1), (2, .int y193), (3, .int y203), (4, .int y215), (5, .int v5), (7, .int y182), (8, .int v8), (9, .int v9)]) rfl ?_
                exact wL_areSums_b291 C ih hk0 hf
              · have hf := iF c263 hf
                refine b_aload_n C dL_areSums_266 rfl 4 rfl ?_
                refine b_iload C dL_areSums_267 9 rfl ?_
                refine b_iconst (v := 2) C dL_areSums_269 (by decide) ?_
                obtain ⟨r270, c270, hf⟩ := oB hf
                refine b_callVi (K := 6) (As := [.int v9, .int 2]) (res := (r270, x)) C (metpX6_lodgerOf l G _ _ _ _ _ hk0 c270) hk0 (by decide) rfl gkL_56 ekL_56 rfl ⟨rfl, rfl⟩ ⟨Nat.le_of_ble_eq_true rfl, Nat.le_of_ble_eq_true rfl⟩ (by simp [Value.category]) ⟨Nat.zero_le _, Nat.zero_le _⟩ rfl dL_areSums_270 ?_
                refine b_if_lt (tgt := 291) C dL_areSums_273 (by decide) (fun c273 => ?_) (fun c273 => ?_)
                · have hf := iT c273 hf
                  refine b_pm [4, 5, 2, 1, 0, 6, 3, 8, 9] (lv' := [(0, .ref (G.2.2 i0)), (1, .int v1), (2, .int y193), (3, .int y203), (4, .int y215), (5, .int v5), (7, .int y182), (8, .int v8), (9, .int v9)]) rfl ?_
                  exact wL_areSums_b291 C ih hk0 hf
                · have hf := iF c273 hf
                  refine b_aload_n C dL_areSums_276 rfl 4 rfl ?_
                  refine b_iload C dL_areSums_277 9 rfl ?_
                  refine b_iconst (v := 2) C dL_areSums_279 (by decide) ?_
                  obtain ⟨r280, c280, hf⟩ := oB hf
                  refine b_callVi (K := 6) (As := [.int v9, .int 2]) (res := (r280, x)) C (metpX6_lodgerOf l G _ _ _ _ _ hk0 c280) hk0 (by decide) rfl gkL_56 ekL_56 rfl ⟨rfl, rfl⟩ ⟨Nat.le_of_ble_eq_true rfl, Nat.le_of_ble_eq_true rfl⟩ (by simp [Value.category]) ⟨Nat.zero_le _, Nat.zero_le _⟩ rfl dL_areSums_280 ?_
                  refine b_iconst (v := 4) C dL_areSums_283 (by decide) ?_
                  refine b_icmp_ge (tgt := 291) C dL_areSums_284 (by decide) (fun c284 => ?_) (fun c284 => ?_)
                  · have hf := iT c284 hf
                    refine b_pm [4, 5, 2, 1, 0, 6, 3, 8, 9] (lv' := [(0, .ref (G.2.2 i0)), (1, .int v1), (2, .int y193), (3, .int y203), (4, .int y215), (5, .int v5), (7, .int y182), (8, .int v8), (9, .int v9)]) rfl ?_
                    exact wL_areSums_b291 C ih hk0 hf
                  · have hf := iF c284 hf
                    refine b_iconst (v := 1) C dL_areSums_287 (by decide) ?_
                    refine b_goto (tgt := 292) C dL_areSums_288 (by decide) ?_
                    refine b_pm [4, 5, 2, 1, 0, 6, 3, 8, 9] (lv' := [(0, .ref (G.2.2 i0)), (1, .int v1), (2, .int y193), (3, .int y203), (4, .int y215), (5, .int v5), (7, .int y182), (8, .int v8), (9, .int v9)]) rfl ?_
                    exact wL_areSums_b292 C ih hk0 hf
set_option maxHeartbeats 4000000 in
set_option maxRecDepth 100000 in
theorem wL_areSums_b148 (C : CT p s m args meth c cL_areSums 12 RL (some (.boolean)) G (pA G s.heap.size)) {k18 : Int32 → Int32 → Int32 → Int32 → Int32 → Int32 → Int32 → xS → Option (Int32 × xS)} {i0 : Nat} {v1 : Int32} {v2 : Int32} {v3 : Int32} {v4 : Int32} {v6 : Int32} {v7 : Int32} {s0 : Int32} {x : xS} {r : (Int32 × xS)} (h18 : ∀ (v1 : Int32) (v2 : Int32) (v3 : Int32) (v4 : Int32) (v5 : Int32) (v6 : Int32) (v7 : Int32) (x : xS), k18 v1 v2 v3 v4 v5 v6 v7 x = some r → WB p l e rL_areSums s m args below meth c 12 G (pA G s.heap.size) (qI below G r args s 0 0) 0 0 18 [(0, .ref (G.2.2 i0)), (1, .int v1), (2, .int v2), (3, .int v3), (4, .int v4), (5, .int v5), (6, .int v6), (7, .int v7)] [] x) (hk0 : KD G i0 6) (hf : fL_areSums_b148 k18 i0 v1 v2 v3 v4 v6 v7 s0 x = some r) : WB p l e rL_areSums s m args below meth c 12 G (pA G s.heap.size) (qI below G r args s 0 0) 0 0 148 [(0, .ref (G.2.2 i0)), (1, .int v1), (2, .int v2), (3, .int v3), (4, .int v4), (6, .int v6), (7, .int v7)] [.int s0] x := by
  unfold fL_areSums_b148 at hf
  refine b_istore (lv' := [(5, .int s0), (0, .ref (G.2.2 i0)), (1, .int v1), (2, .int v2), (3, .int v3), (4, .int v4), (6, .int v6), (7, .int v7)]) C dL_areSums_148 (by decide) rfl ?_
  refine b_iinc (q := 7) (v' := (v7 + 1)) (lv' := [(7, .int (v7 + 1)), (5, .int s0), (0, .ref (G.2.2 i0)), (1, .int v1), (2, .int v2), (3, .int v3), (4, .int v4), (6, .int v6)]) C dL_areSums_150 rfl rfl (by decide) rfl ?_
  refine b_goto (tgt := 18) C dL_areSums_153 (by decide) ?_
  refine b_pm [2, 3, 4, 5, 6, 1, 7, 0] (lv' := [(0, .ref (G.2.2 i0)), (1, .int v1), (2, .int v2), (3, .int v3), (4, .int v4), (5, .int s0), (6, .int v6), (7, .int (v7 + 1))]) rfl ?_
  exact h18 _ _ _ _ _ _ _ _ hf
set_option maxHeartbeats 4000000 in
set_option maxRecDepth 100000 in
theorem wL_areSums_b120 (C : CT p s m args meth c cL_areSums 12 RL (some (.boolean)) G (pA G s.heap.size)) {k18 : Int32 → Int32 → Int32 → Int32 → Int32 → Int32 → Int32 → xS → Option (Int32 × xS)} {k34 : Int32 → Int32 → Int32 → Int32 → Int32 → Int32 → Int32 → Int32 → Int32 → Int32 → xS → Option (Int32 × xS)} {i0 : Nat} {v1 : Int32} {v2 : Int32} {v3 : Int32} {v4 : Int32} {v5 : Int32} {v6 : Int32} {v7 : Int32} {v8 : Int32} {v10 : Int32} {s0 : Int32} {s1 : Int32} {x : xS} {r : (Int32 × xS)} (h18 : ∀ (v1 : Int32) (v2 : Int32) (v3 : Int32) (v4 : Int32) (v5 : Int32) (v6 : Int32) (v7 : Int32) (x : xS), k18 v1 v2 v3 v4 v5 v6 v7 x = some r → WB p l e rL_areSums s m args below meth c 12 G (pA G s.heap.size) (qI below G r args s 0 0) 0 0 18 [(0, .ref (G.2.2 i0)), (1, .int v1), (2, .int v2), (3, .int v3), (4, .int v4), (5, .int v5), (6, .int v6), (7, .int v7)] [] x) (h34 : ∀ (v1 : Int32) (v2 : Int32) (v3 : Int32) (v4 : Int32) (v5 : Int32) (v6 : Int32) (v7 : Int32) (v8 : Int32) (v9 : Int32) (v10 : Int32) (x : xS), k34 v1 v2 v3 v4 v5 v6 v7 v8 v9 v10 x = some r → WB p l e rL_areSums s m args below meth c 12 G (pA G s.heap.size) (qI below G r args s 0 0) 0 0 34 [(0, .ref (G.2.2 i0)), (1, .int v1), (2, .int v2), (3, .int v3), (4, .int v4), (5, .int v5), (6, .int v6), (7, .int v7), (8, .int v8), (9, .int v9), (10, .int v10)] [] x) (hk0 : KD G i0 6) (hf : fL_areSums_b120 k18 k34 i0 v1 v2 v3 v4 v5 v6 v7 v8 v10 s0 s1 x = some r) : WB p l e rL_areSums s m args below meth c 12 G (pA G s.heap.size) (qI below G r args s 0 0) 0 0 120 [(0, .ref (G.2.2 i0)), (1, .int v1), (2, .int v2), (3, .int v3), (4, .int v4), (5, .int v5), (6, .int v6), (7, .int v7), (8, .int v8), (10, .int v10)] [.int s1, .int s0] x := by
  unfold fL_areSums_b120 at hf
  refine b_iadd C dL_areSums_120 ?_
  obtain ⟨y121, e121, hf⟩ := lN1 hf
  rw [e121]
  refine b_istore (lv' := [(9, .int y121), (0, .ref (G.2.2 i0)), (1, .int v1), (2, .int v2), (3, .int v3), (4, .int v4), (5, .int v5), (6, .int v6), (7, .int v7), (8, .int v8), (10, .int v10)]) C dL_areSums_121 (by decide) rfl ?_
  refine b_iinc (q := 10) (v' := (v10 + 1)) (lv' := [(10, .int (v10 + 1)), (9, .int y121), (0, .ref (G.2.2 i0)), (1, .int v1), (2, .int v2), (3, .int v3), (4, .int v4), (5, .int v5), (6, .int v6), (7, .int v7), (8, .int v8)]) C dL_areSums_123 rfl rfl (by decide) rfl ?_
  refine b_goto (tgt := 34) C dL_areSums_126 (by decide) ?_
  refine b_pm [2, 3, 4, 5, 6, 7, 8, 9, 10, 1, 0] (lv' := [(0, .ref (G.2.2 i0)), (1, .int v1), (2, .int v2), (3, .int v3), (4, .int v4), (5, .int v5), (6, .int v6), (7, .int v7), (8, .int v8), (9, .int y121), (10, .int (v10 + 1))]) rfl ?_
  exact h34 _ _ _ _ _ _ _ _ _ _ _ hf
set_option maxHeartbeats 4000000 in
set_option maxRecDepth 100000 in
theorem wL_areSums_b105 (C : CT p s m args meth c cL_areSums 12 RL (some (.boolean)) G (pA G s.heap.size)) {k18 : Int32 → Int32 → Int32 → Int32 → Int32 → Int32 → Int32 → xS → Option (Int32 × xS)} {k34 : Int32 → Int32 → Int32 → Int32 → Int32 → Int32 → Int32 → Int32 → Int32 → Int32 → xS → Option (Int32 × xS)} {i0 : Nat} {v1 : Int32} {v2 : Int32} {v3 : Int32} {v4 : Int32} {v5 : Int32} {v6 : Int32} {v7 : Int32} {v9 : Int32} {v10 : Int32} {v11 : Int32} {s0 : Int32} {s1 : Int32} {x : xS} {r : (Int32 × xS)} (h18 : ∀ (v1 : Int32) (v2 : Int32) (v3 : Int32) (v4 : Int32) (v5 : Int32) (v6 : Int32) (v7 : Int32) (x : xS), k18 v1 v2 v3 v4 v5 v6 v7 x = some r → WB p l e rL_areSums s m args below meth c 12 G (pA G s.heap.size) (qI below G r args s 0 0) 0 0 18 [(0, .ref (G.2.2 i0)), (1, .int v1), (2, .int v2), (3, .int v3), (4, .int v4), (5, .int v5), (6, .int v6), (7, .int v7)] [] x) (h34 : ∀ (v1 : Int32) (v2 : Int32) (v3 : Int32) (v4 : Int32) (v5 : Int32) (v6 : Int32) (v7 : Int32) (v8 : Int32) (v9 : Int32) (v10 : Int32) (x : xS), k34 v1 v2 v3 v4 v5 v6 v7 v8 v9 v10 x = some r → WB p l e rL_areSums s m args below meth c 12 G (pA G s.heap.size) (qI below G r args s 0 0) 0 0 34 [(0, .ref (G.2.2 i0)), (1, .int v1), (2, .int v2), (3, .int v3), (4, .int v4), (5, .int v5), (6, .int v6), (7, .int v7), (8, .int v8), (9, .int v9), (10, .int v10)] [] x) (hk0 : KD G i0 6) (hf : fL_areSums_b105 k18 k34 i0 v1 v2 v3 v4 v5 v6 v7 v9 v10 v11 s0 s1 x = some r) : WB p l e rL_areSums s m args below meth c 12 G (pA G s.heap.size) (qI below G r args s 0 0) 0 0 105 [(0, .ref (G.2.2 i0)), (1, .int v1), (2, .int v2), (3, .int v3), (4, .int v4), (5, .int v5), (6, .int v6), (7, .int v7), (9, .int v9), (10, .int v10), (11, .int v11)] [.int s1, .int s0] x := by
  unfold fL_areSums_b105 at hf
  refine b_ior C dL_areSums_105 ?_
  obtain ⟨y106, e106, hf⟩ := lN1 hf
  rw [e106]
  refine b_istore (lv' := [(8, .int y106), (0, .ref (G.2.2 i0)), (1, .int v1), (2, .int v2), (3, .int v3), (4, .int v4), (5, .int v5), (6, .int v6), (7, .int v7), (9, .int v9), (10, .int v10), (11, .int v11)]) C dL_areSums_106 (by decide) rfl ?_
  refine b_iload C dL_areSums_108 9 rfl ?_
  refine b_iload C dL_areSums_110 11 rfl ?_
  refine b_if_ge (tgt := 119) C dL_areSums_112 (by decide) (fun c112 => ?_) (fun c112 => ?_)
  · have hf := iT c112 hf
    refine b_iconst (v := 1) C dL_areSums_119 (by decide) ?_
    refine b_pm [1, 2, 3, 4, 5, 6, 7, 8, 0, 10] (lv' := [(0, .ref (G.2.2 i0)), (1, .int v1), (2, .int v2), (3, .int v3), (4, .int v4), (5, .int v5), (6, .int v6), (7, .int v7), (8, .int y106), (10, .int v10)]) rfl ?_
    exact wL_areSums_b120 C h18 h34 hk0 hf
  · have hf := iF c112 hf
    refine b_iconst (v := 0) C dL_areSums_115 (by decide) ?_
    refine b_goto (tgt := 120) C dL_areSums_116 (by decide) ?_
    refine b_pm [1, 2, 3, 4, 5, 6, 7, 8, 0, 10] (lv' := [(0, .ref (G.2.2 i0)), (1, .int v1), (2, .int v2), (3, .int v3), (4, .int v4), (5, .int v5), (6, .int v6), (7, .int v7), (8, .int y106), (10, .int v10)]) rfl ?_
    exact wL_areSums_b120 C h18 h34 hk0 hf
set_option maxHeartbeats 4000000 in
set_option maxRecDepth 100000 in
theorem wL_areSums_b88 (C : CT p s m args meth c cL_areSums 12 RL (some (.boolean)) G (pA G s.heap.size)) {k18 : Int32 → Int32 → Int32 → Int32 → Int32 → Int32 → Int32 → xS → Option (Int32 × xS)} {k34 : Int32 → Int32 → Int32 → Int32 → Int32 → Int32 → Int32 → Int32 → Int32 → Int32 → xS → Option (Int32 × xS)} {i0 : Nat} {v1 : Int32} {v2 : Int32} {v3 : Int32} {v4 : Int32} {v5 : Int32} {v7 : Int32} {v8 : Int32} {v9 : Int32} {v10 : Int32} {v11 : Int32} {s0 : Int32} {x : xS} {r : (Int32 × xS)} (h18 : ∀ (v1 : Int32) (v2 : Int32) (v3 : Int32) (v4 : Int32) (v5 : Int32) (v6 : Int32) (v7 : Int32) (x : xS), k18 v1 v2 v3 v4 v5 v6 v7 x = some r → WB p l e rL_areSums s m args below meth c 12 G (pA G s.heap.size) (qI below G r args s 0 0) 0 0 18 [(0, .ref (G.2.2 i0)), (1, .int v1), (2, .int v2), (3, .int v3), (4, .int v4), (5, .int v5), (6, .int v6), (7, .int v7)] [] x) (h34 : ∀ (v1 : Int32) (v2 : Int32) (v3 : Int32) (v4 : Int32) (v5 : Int32) (v6 : Int32) (v7 : Int32) (v8 : Int32) (v9 : Int32) (v10 : Int32) (x : xS), k34 v1 v2 v3 v4 v5 v6 v7 v8 v9 v10 x = some r → WB p l e rL_areSums s m args below meth c 12 G (pA G s.heap.size) (qI below G r args s 0 0) 0 0 34 [(0, .ref (G.2.2 i0)), (1, .int v1), (2, .int v2), (3, .int v3), (4, .int v4), (5, .int v5), (6, .int v6), (7, .int v7), (8, .int v8), (9, .int v9), (10, .int v10)] [] x) (hk0 : KD G i0 6) (hf : fL_areSums_b88 k18 k34 i0 v1 v2 v3 v4 v5 v7 v8 v9 v10 v11 s0 x = some r) : WB p l e rL_areSums s m args below meth c 12 G (pA G s.heap.size) (qI below G r args s 0 0) 0 0 88 [(0, .ref (G.2.2 i0)), (1, .int v1), (2, .int v2), (3, .int v3), (4, .int v4), (5, .int v5), (7, .int v7), (8, .int v8), (9, .int v9), (10, .int v10), (11, .int v11)] [.int s0] x := by
  unfold fL_areSums_b88 at hf
  refine b_istore (lv' := [(6, .int s0), (0, .ref (G.2.2 i0)), (1, .int v1), (2, .int v2), (3, .int v3), (4, .int v4), (5, .int v5), (7, .int v7), (8, .int v8), (9, .int v9), (10, .int v10), (11, .int v11)]) C dL_areSums_88 (by decide) rfl ?_
  refine b_iload C dL_areSums_90 8 rfl ?_
  refine b_iload C dL_areSums_92 11 rfl ?_
  refine b_if_ge (tgt := 101) C dL_areSums_94 (by decide) (fun c94 => ?_) (fun c94 => ?_)
  · have hf := iT c94 hf
    refine b_iconst (v := 1) C dL_areSums_101 (by decide) ?_
    refine b_iload C dL_areSums_102 11 rfl ?_
    refine b_ishl C dL_areSums_104 ?_
    refine b_pm [1, 2, 3, 4, 5, 6, 0, 7, 9, 10, 11] (lv' := [(0, .ref (G.2.2 i0)), (1, .int v1), (2, .int v2), (3, .int v3), (4, .int v4), (5, .int v5), (6, .int s0), (7, .int v7), (9, .int v9), (10, .int v10), (11, .int v11)]) rfl ?_
    exact wL_areSums_b105 C h18 h34 hk0 hf
  · have hf := iF c94 hf
    refine b_iconst (v := 0) C dL_areSums_97 (by decide) ?_
    refine b_goto (tgt := 105) C dL_areSums_98 (by decide) ?_
    refine b_pm [1, 2, 3, 4, 5, 6, 0, 7, 9, 10, 11] (lv' := [(0, .ref (G.2.2 i0)), (1, .int v1), (2, .int v2), (3, .int v3), (4, .int v4), (5, .int v5), (6, .int s0), (7, .int v7), (9, .int v9), (10, .int v10), (11, .int v11)]) rfl ?_
    exact wL_areSums_b105 C h18 h34 hk0 hf
set_option maxHeartbeats 4000000 in
set_option maxRecDepth 100000 in
theorem wL_areSums_b87 (C : CT p s m args meth c cL_areSums 12 RL (some (.boolean)) G (pA G s.heap.size)) {k18 : Int32 → Int32 → Int32 → Int32 → Int32 → Int32 → Int32 → xS → Option (Int32 × xS)} {k34 : Int32 → Int32 → Int32 → Int32 → Int32 → Int32 → Int32 → Int32 → Int32 → Int32 → xS → Option (Int32 × xS)} {i0 : Nat} {v1 : Int32} {v2 : Int32} {v3 : Int32} {v4 : Int32} {v5 : Int32} {v7 : Int32} {v8 : Int32} {v9 : Int32} {v10 : Int32} {v11 : Int32} {x : xS} {r : (Int32 × xS)} (h18 : ∀ (v1 : Int32) (v2 : Int32) (v3 : Int32) (v4 : Int32) (v5 : Int32) (v6 : Int32) (v7 : Int32) (x : xS), k18 v1 v2 v3 v4 v5 v6 v7 x = some r → WB p l e rL_areSums s m args below meth c 12 G (pA G s.heap.size) (qI below G r args s 0 0) 0 0 18 [(0, .ref (G.2.2 i0)), (1, .int v1), (2, .int v2), (3, .int v3), (4, .int v4), (5, .int v5), (6, .int v6), (7, .int v7)] [] x) (h34 : ∀ (v1 : Int32) (v2 : Int32) (v3 : Int32) (v4 : Int32) (v5 : Int32) (v6 : Int32) (v7 : Int32) (v8 : Int32) (v9 : Int32) (v10 : Int32) (x : xS), k34 v1 v2 v3 v4 v5 v6 v7 v8 v9 v10 x = some r → WB p l e rL_areSums s m args below meth c 12 G (pA G s.heap.size) (qI below G r args s 0 0) 0 0 34 [(0, .ref (G.2.2 i0)), (1, .int v1), (2, .int v2), (3, .int v3), (4, .int v4), (5, .int v5), (6, .int v6), (7, .int v7), (8, .int v8), (9, .int v9), (10, .int v10)] [] x) (hk0 : KD G i0 6) (hf : fL_areSums_b87 k18 k34 i0 v1 v2 v3 v4 v5 v7 v8 v9 v10 v11 x = some r) : WB p l e rL_areSums s m args below meth c 12 G (pA G s.heap.size) (qI below G r args s 0 0) 0 0 87 [(0, .ref (G.2.2 i0)), (1, .int v1), (2, .int v2), (3, .int v3), (4, .int v4), (5, .int v5), (7, .int v7), (8, .int v8), (9, .int v9), (10, .int v10), (11, .int v11)] [] x := by
  unfold fL_areSums_b87 at hf
  refine b_iconst (v := 0) C dL_areSums_87 (by decide) ?_
  exact wL_areSums_b88 C h18 h34 hk0 hf
set_option maxHeartbeats 4000000 in
set_option maxRecDepth 100000 in
theorem wL_areSums_b83 (C : CT p s m args meth c cL_areSums 12 RL (some (.boolean)) G (pA G s.heap.size)) {k18 : Int32 → Int32 → Int32 → Int32 → Int32 → Int32 → Int32 → xS → Option (Int32 × xS)} {k34 : Int32 → Int32 → Int32 → Int32 → Int32 → Int32 → Int32 → Int32 → Int32 → Int32 → xS → Option (Int32 × xS)} {i0 : Nat} {v1 : Int32} {v2 : Int32} {v3 : Int32} {v4 : Int32} {v5 : Int32} {v7 : Int32} {v8 : Int32} {v9 : Int32} {v10 : Int32} {v11 : Int32} {x : xS} {r : (Int32 × xS)} (h18 : ∀ (v1 : Int32) (v2 : Int32) (v3 : Int32) (v4 : Int32) (v5 : Int32) (v6 : Int32) (v7 : Int32) (x : xS), k18 v1 v2 v3 v4 v5 v6 v7 x = some r → WB p l e rL_areSums s m args below meth c 12 G (pA G s.heap.size) (qI below G r args s 0 0) 0 0 18 [(0, .ref (G.2.2 i0)), (1, .int v1), (2, .int v2), (3, .int v3), (4, .int v4), (5, .int v5), (6, .int v6), (7, .int v7)] [] x) (h34 : ∀ (v1 : Int32) (v2 : Int32) (v3 : Int32) (v4 : Int32) (v5 : Int32) (v6 : Int32) (v7 : Int32) (v8 : Int32) (v9 : Int32) (v10 : Int32) (x : xS), k34 v1 v2 v3 v4 v5 v6 v7 v8 v9 v10 x = some r → WB p l e rL_areSums s m args below meth c 12 G (pA G s.heap.size) (qI below G r args s 0 0) 0 0 34 [(0, .ref (G.2.2 i0)), (1, .int v1), (2, .int v2), (3, .int v3), (4, .int v4), (5, .int v5), (6, .int v6), (7, .int v7), (8, .int v8), (9, .int v9), (10, .int v10)] [] x) (hk0 : KD G i0 6) (hf : fL_areSums_b83 k18 k34 i0 v1 v2 v3 v4 v5 v7 v8 v9 v10 v11 x = some r) : WB p l e rL_areSums s m args below meth c 12 G (pA G s.heap.size) (qI below G r args s 0 0) 0 0 83 [(0, .ref (G.2.2 i0)), (1, .int v1), (2, .int v2), (3, .int v3), (4, .int v4), (5, .int v5), (7, .int v7), (8, .int v8), (9, .int v9), (10, .int v10), (11, .int v11)] [] x := by
  unfold fL_areSums_b83 at hf
  refine b_iconst (v := 1) C dL_areSums_83 (by decide) ?_
  refine b_goto (tgt := 88) C dL_areSums_84 (by decide) ?_
  exact wL_areSums_b88 C h18 h34 hk0 hf
set_option maxHeartbeats 4000000 in
set_option maxRecDepth 100000 in
theorem wL_areSums_b34 (C : CT p s m args meth c cL_areSums 12 RL (some (.boolean)) G (pA G s.heap.size)) {k18 : Int32 → Int32 → Int32 → Int32 → Int32 → Int32 → Int32 → xS → Option (Int32 × xS)} {i0 : Nat} {r : (Int32 × xS)} (h18 : ∀ (v1 : Int32) (v2 : Int32) (v3 : Int32) (v4 : Int32) (v5 : Int32) (v6 : Int32) (v7 : Int32) (x : xS), k18 v1 v2 v3 v4 v5 v6 v7 x = some r → WB p l e rL_areSums s m args below meth c 12 G (pA G s.heap.size) (qI below G r args s 0 0) 0 0 18 [(0, .ref (G.2.2 i0)), (1, .int v1), (2, .int v2), (3, .int v3), (4, .int v4), (5, .int v5), (6, .int v6), (7, .int v7)] [] x) (hk0 : KD G i0 6) : ∀ (n : Nat) (v1 : Int32) (v2 : Int32) (v3 : Int32) (v4 : Int32) (v5 : Int32) (v6 : Int32) (v7 : Int32) (v8 : Int32) (v9 : Int32) (v10 : Int32) (x : xS), fL_areSums_b34 k18 i0 n v1 v2 v3 v4 v5 v6 v7 v8 v9 v10 x = some r → WB p l e rL_areSums s m args below meth c 12 G (pA G s.heap.size) (qI below G r args s 0 0) 0 0 34 [(0, .ref (G.2.2 i0)), (1, .int v1), (2, .int v2), (3, .int v3), (4, .int v4), (5, .int v5), (6, .int v6), (7, .int v7), (8, .int v8), (9, .int v9), (10, .int v10)] [] x := by
  intro n
  induction n with
  | zero =>
    intro v1 v2 v3 v4 v5 v6 v7 v8 v9 v10 x hf
    cases hf
  | succ n ih =>
    intro v1 v2 v3 v4 v5 v6 v7 v8 v9 v10 x hf
    rw [fL_areSums_b34] at hf
    refine b_iload C dL_areSums_34 10 rfl ?_
    refine b_iconst (v := 4) C dL_areSums_36 (by decide) ?_
    refine b_icmp_ge (tgt := 129) C dL_areSums_37 (by decide) (fun c37 => ?_) (fun c37 => ?_)
    · have hf := iT c37 hf
      refine b_iload_n C dL_areSums_129 rfl 1 rfl ?_
      refine b_iload C dL_areSums_130 9 rfl ?_
      refine b_iadd C dL_areSums_132 ?_
      obtain ⟨y133, e133, hf⟩ := lN1 hf
      rw [e133]
      refine b_istore_n (lv' := [(1, .int y133), (0, .ref (G.2.2 i0)), (2, .int v2), (3, .int v3), (4, .int v4), (5, .int v5), (6, .int v6), (7, .int v7), (8, .int v8), (9, .int v9), (10, .int v10)]) C dL_areSums_133 rfl (by decide) rfl ?_
      refine b_iload C dL_areSums_134 9 rfl ?_
      refine b_iload C dL_areSums_136 5 rfl ?_
      refine b_icmp_le (tgt := 146) C dL_areSums_138 (by decide) (fun c138 => ?_) (fun c138 => ?_)
      · have hf := iT c138 hf
        refine b_iload C dL_areSums_146 5 rfl ?_
        refine b_pm [1, 0, 2, 3, 4, 6, 7] (lv' := [(0, .ref (G.2.2 i0)), (1, .int y133), (2, .int v2), (3, .int v3), (4, .int v4), (6, .int v6), (7, .int v7)]) rfl ?_
        exact wL_areSums_b148 C h18 hk0 hf
      · have hf := iF c138 hf
        refine b_iload C dL_areSums_141 9 rfl ?_
        refine b_goto (tgt := 148) C dL_areSums_143 (by decide) ?_
        refine b_pm [1, 0, 2, 3, 4, 6, 7] (lv' := [(0, .ref (G.2.2 i0)), (1, .int y133), (2, .int v2), (3, .int v3), (4, .int v4), (6, .int v6), (7, .int v7)]) rfl ?_
        exact wL_areSums_b148 C h18 hk0 hf
    · have hf := iF c37 hf
      refine b_aload_n C dL_areSums_40 rfl 0 rfl ?_
      refine b_iload C dL_areSums_41 10 rfl ?_
      refine b_iload C dL_areSums_43 7 rfl ?_
      obtain ⟨r45, c45, hf⟩ := oB hf
      refine b_callVi (K := 6) (As := [.int v10, .int v7]) (res := (r45, x)) C (metpX6_at l G _ _ _ _ _ hk0 c45) hk0 (by decide) rfl gkL_59 ekL_59 rfl ⟨rfl, rfl⟩ ⟨Nat.le_of_ble_eq_true rfl, Nat.le_of_ble_eq_true rfl⟩ (by simp [Value.category]) ⟨Nat.zero_le _, Nat.zero_le _⟩ rfl dL_areSums_45 ?_
      refine b_istore (lv' := [(11, .int r45), (0, .ref (G.2.2 i0)), (1, .int v1), (2, .int v2), (3, .int v3), (4, .int v4), (5, .int v5), (6, .int v6), (7, .int v7), (8, .int v8), (9, .int v9), (10, .int v10)]) C dL_areSums_48 (by decide) rfl ?_
      refine b_iload C dL_areSums_50 7 rfl ?_
      refine b_if_eq (tgt := 87) C dL_areSums_52 (by decide) (fun c52 => ?_) (fun c52 => ?_)
      · have hf := iT c52 hf
        refine b_pm [1, 2, 3, 4, 5, 6, 8, 9, 10, 11, 0] (lv' := [(0, .ref (G.2.2 i0)), (1, .int v1), (2, .int v2), (3, .int v3), (4, .int v4), (5, .int v5), (7, .int v7), (8, .int v8), (9, .int v9), (10, .int v10), (11, .int r45)]) rfl ?_
        exact wL_areSums_b87 C h18 ih hk0 hf
      · have hf := iF c52 hf
        refine b_iload C dL_areSums_55 0 rfl ?_
        refine b_iconst (v := (-1)) C dL_areSums_57 (by decide) ?_
        refine b_icmp_lt (tgt := 87) C dL_areSums_58 (by decide) (fun c58 => ?_) (fun c58 => ?_)
        · have hf := iT c58 hf
          refine b_pm [1, 2, 3, 4, 5, 6, 8, 9, 10, 11, 0] (lv' := [(0, .ref (G.2.2 i0)), (1, .int v1), (2, .int v2), (3, .int v3), (4, .int v4), (5, .int v5), (7, .int v7), (8, .int v8), (9, .int v9), (10, .int v10), (11, .int r45)]) rfl ?_
          exact wL_areSums_b87 C h18 ih hk0 hf
        · have hf := iF c58 hf
          refine b_iload C dL_areSums_61 0 rfl ?_
          refine b_bipush (v := 10) C dL_areSums_63 (by decide) ?_
          refine b_icmp_ge (tgt := 87) C dL_areSums_65 (by decide) (fun c65 => ?_) (fun c65 => ?_)
          · have hf := iT c65 hf
            refine b_pm [1, 2, 3, 4, 5, 6, 8, 9, 10, 11, 0] (lv' := [(0, .ref (G.2.2 i0)), (1, .int v1), (2, .int v2), (3, .int v3), (4, .int v4), (5, .int v5), (7, .int v7), (8, .int v8), (9, .int v9), (10, .int v10), (11, .int r45)]) rfl ?_
            exact wL_areSums_b87 C h18 ih hk0 hf
          · have hf := iF c65 hf
            refine b_iload C dL_areSums_68 0 rfl ?_
            refine b_if_lt (tgt := 83) C dL_areSums_70 (by decide) (fun c70 => ?_) (fun c70 => ?_)
            · have hf := iT c70 hf
              refine b_pm [1, 2, 3, 4, 5, 6, 8, 9, 10, 11, 0] (lv' := [(0, .ref (G.2.2 i0)), (1, .int v1), (2, .int v2), (3, .int v3), (4, .int v4), (5, .int v5), (7, .int v7), (8, .int v8), (9, .int v9), (10, .int v10), (11, .int r45)]) rfl ?_
              exact wL_areSums_b83 C h18 ih hk0 hf
            · have hf := iF c70 hf
              refine b_iload C dL_areSums_73 9 rfl ?_
              refine b_iload C dL_areSums_75 0 rfl ?_
              refine b_ishr C dL_areSums_77 ?_
              refine b_iconst (v := 1) C dL_areSums_78 (by decide) ?_
              refine b_iand C dL_areSums_79 ?_
              refine b_if_ne (tgt := 87) C dL_areSums_80 (by decide) (fun c80 => ?_) (fun c80 => ?_)
              · have hf := iF c80 hf
                refine b_pm [1, 2, 3, 4, 5, 6, 8, 9, 10, 11, 0] (lv' := [(0, .ref (G.2.2 i0)), (1, .int v1), (2, .int v2), (3, .int v3), (4, .int v4), (5, .int v5), (7, .int v7), (8, .int v8), (9, .int v9), (10, .int v10), (11, .int r45)]) rfl ?_
                exact wL_areSums_b87 C h18 ih hk0 hf
              · have hf := iT c80 hf
                refine b_pm [1, 2, 3, 4, 5, 6, 8, 9, 10, 11, 0] (lv' := [(0, .ref (G.2.2 i0)), (1, .int v1), (2, .int v2), (3, .int v3), (4, .int v4), (5, .int v5), (7, .int v7), (8, .int v8), (9, .int v9), (10, .int v10), (11, .int r45)]) rfl ?_
                exact wL_areSums_b83 C h18 ih hk0 hf
set_option maxHeartbeats 4000000 in
set_option maxRecDepth 100000 in
theorem wL_areSums_b18 (C : CT p s m args meth c cL_areSums 12 RL (some (.boolean)) G (pA G s.heap.size)) {i0 : Nat} {r : (Int32 × xS)} (hk0 : KD G i0 6) : ∀ (n : Nat) (v1 : Int32) (v2 : Int32) (v3 : Int32) (v4 : Int32) (v5 : Int32) (v6 : Int32) (v7 : Int32) (x : xS), fL_areSums_b18 i0 n v1 v2 v3 v4 v5 v6 v7 x = some r → WB p l e rL_areSums s m args below meth c 12 G (pA G s.heap.size) (qI below G r args s 0 0) 0 0 18 [(0, .ref (G.2.2 i0)), (1, .int v1), (2, .int v2), (3, .int v3), (4, .int v4), (5, .int v5), (6, .int v6), (7, .int v7)] [] x := by
  intro n
  induction n with
  | zero =>
    intro v1 v2 v3 v4 v5 v6 v7 x hf
    cases hf
  | succ n ih =>
    intro v1 v2 v3 v4 v5 v6 v7 x hf
    rw [fL_areSums_b18] at hf
    refine b_iload C dL_areSums_18 7 rfl ?_
    refine b_bipush (v := 12) C dL_areSums_20 (by decide) ?_
    refine b_icmp_ge (tgt := 156) C dL_areSums_22 (by decide) (fun c22 => ?_) (fun c22 => ?_)
    · have hf := iT c22 hf
      refine b_iload_n C dL_areSums_156 rfl 1 rfl ?_
      refine b_istore (lv' := [(7, .int v1), (0, .ref (G.2.2 i0)), (1, .int v1), (2, .int v2), (3, .int v3), (4, .int v4), (5, .int v5), (6, .int v6)]) C dL_areSums_157 (by decide) rfl ?_
      refine b_iconst (v := 0) C dL_areSums_159 (by decide) ?_
      refine b_istore (lv' := [(8, .int 0), (7, .int v1), (0, .ref (G.2.2 i0)), (1, .int v1), (2, .int v2), (3, .int v3), (4, .int v4), (5, .int v5), (6, .int v6)]) C dL_areSums_160 (by decide) rfl ?_
      refine b_iconst (v := 0) C dL_areSums_162 (by decide) ?_
      refine b_istore (lv' := [(9, .int 0), (8, .int 0), (7, .int v1), (0, .ref (G.2.2 i0)), (1, .int v1), (2, .int v2), (3, .int v3), (4, .int v4), (5, .int v5), (6, .int v6)]) C dL_areSums_163 (by decide) rfl ?_
      refine b_pm [3, 4, 5, 6, 7, 8, 9, 2, 1, 0] (lv' := [(0, .ref (G.2.2 i0)), (1, .int v1), (2, .int v2), (3, .int v3), (4, .int v4), (5, .int v5), (6, .int v6), (7, .int v1), (8, .int 0), (9, .int 0)]) rfl ?_
      exact wL_areSums_b165 C  hk0 FU _ _ _ _ _ _ _ _ _ _ hf
    · have hf := iF c22 hf
      refine b_iconst (v := 0) C dL_areSums_25 (by decide) ?_
      refine b_istore (lv' := [(8, .int 0), (0, .ref (G.2.2 i0)), (1, .int v1), (2, .int v2), (3, .int v3), (4, .int v4), (5, .int v5), (6, .int v6), (7, .int v7)]) C dL_areSums_26 (by decide) rfl ?_
      refine b_iconst (v := 0) C dL_areSums_28 (by decide) ?_
      refine b_istore (lv' := [(9, .int 0), (8, .int 0), (0, .ref (G.2.2 i0)), (1, .int v1), (2, .int v2), (3, .int v3), (4, .int v4), (5, .int v5), (6, .int v6), (7, .int v7)]) C dL_areSums_29 (by decide) rfl ?_
      refine b_iconst (v := 0) C dL_areSums_31 (by decide) ?_
      refine b_istore (lv' := [(10, .int 0), (9, .int 0), (8, .int 0), (0, .ref (G.2.2 i0)), (1, .int v1), (2, .int v2), (3, .int v3), (4, .int v4), (5, .int v5), (6, .int v6), (7, .int v7)]) C dL_areSums_32 (by decide) rfl ?_
      refine b_pm [3, 4, 5, 6, 7, 8, 9, 10, 2, 1, 0] (lv' := [(0, .ref (G.2.2 i0)), (1, .int v1), (2, .int v2), (3, .int v3), (4, .int v4), (5, .int v5), (6, .int v6), (7, .int v7), (8, .int 0), (9, .int 0), (10, .int 0)]) rfl ?_
      exact wL_areSums_b34 C ih hk0 FU _ _ _ _ _ _ _ _ _ _ _ hf
set_option maxHeartbeats 4000000 in
set_option maxRecDepth 100000 in
theorem wL_areSums_b0 (C : CT p s m args meth c cL_areSums 12 RL (some (.boolean)) G (pA G s.heap.size)) {i0 : Nat} {x : xS} {r : (Int32 × xS)} (hk0 : KD G i0 6) (hf : fL_areSums_b0 i0 x = some r) : WB p l e rL_areSums s m args below meth c 12 G (pA G s.heap.size) (qI below G r args s 0 0) 0 0 0 [(0, .ref (G.2.2 i0))] [] x := by
  unfold fL_areSums_b0 at hf
  refine b_iconst (v := 0) C dL_areSums_0 (by decide) ?_
  refine b_istore_n (lv' := [(1, .int 0), (0, .ref (G.2.2 i0))]) C dL_areSums_1 rfl (by decide) rfl ?_
  refine b_iconst (v := 0) C dL_areSums_2 (by decide) ?_
  refine b_istore_n (lv' := [(2, .int 0), (1, .int 0), (0, .ref (G.2.2 i0))]) C dL_areSums_3 rfl (by decide) rfl ?_
  refine b_iconst (v := 0) C dL_areSums_4 (by decide) ?_
  refine b_istore_n (lv' := [(3, .int 0), (2, .int 0), (1, .int 0), (0, .ref (G.2.2 i0))]) C dL_areSums_5 rfl (by decide) rfl ?_
  refine b_iconst (v := 0) C dL_areSums_6 (by decide) ?_
  refine b_istore (lv' := [(4, .int 0), (3, .int 0), (2, .int 0), (1, .int 0), (0, .ref (G.2.2 i0))]) C dL_areSums_7 (by decide) rfl ?_
  refine b_iconst (v := 0) C dL_areSums_9 (by decide) ?_
  refine b_istore (lv' := [(5, .int 0), (4, .int 0), (3, .int 0), (2, .int 0), (1, .int 0), (0, .ref (G.2.2 i0))]) C dL_areSums_10 (by decide) rfl ?_
  refine b_iconst (v := 1) C dL_areSums_12 (by decide) ?_
  refine b_istore (lv' := [(6, .int 1), (5, .int 0), (4, .int 0), (3, .int 0), (2, .int 0), (1, .int 0), (0, .ref (G.2.2 i0))]) C dL_areSums_13 (by decide) rfl ?_
  refine b_iconst (v := 0) C dL_areSums_15 (by decide) ?_
  refine b_istore (lv' := [(7, .int 0), (6, .int 1), (5, .int 0), (4, .int 0), (3, .int 0), (2, .int 0), (1, .int 0), (0, .ref (G.2.2 i0))]) C dL_areSums_16 (by decide) rfl ?_
  refine b_pm [7, 6, 5, 4, 3, 2, 1, 0] (lv' := [(0, .ref (G.2.2 i0)), (1, .int 0), (2, .int 0), (3, .int 0), (4, .int 0), (5, .int 0), (6, .int 1), (7, .int 0)]) rfl ?_
  exact wL_areSums_b18 C  hk0 FU _ _ _ _ _ _ _ _ hf
end
theorem metL_areSums (l : Launch) (G : gT) (i0 : Nat) (x : xS) (r : (Int32 × xS)) (hk0 : KD G i0 6) (hf : fL_areSums i0 x = some r) : cI l yL_areSums cL_areSums 12 (.boolean) rL_areSums [.ref (G.2.2 i0)] G x r :=
  b_body (by decide) (Nat.le_of_ble_eq_true rfl) rfl (fun p e s m args below meth c C => wL_areSums_b0 C hk0 hf)
