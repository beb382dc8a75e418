-- X6_checkLodger
abbrev rX6_checkLodger : Room := { frames := 6, cells := 1, slots := 6, locals := 82 }
def fX6_checkLodger_b0 (v0 : Int32) (x : xS)  : Option (Sum Nat Unit) :=
  (if v0 < 0 then
  some (Sum.inl 1)
  else
  (if v0 < 10 then
  some (Sum.inr ())
  else
  some (Sum.inl 1)))
def fX6_checkLodger (v0 : Int32) (x : xS) : Option (Sum Nat Unit) := fX6_checkLodger_b0 v0 x
section
variable {p : Program} {l : Launch} {e : Env} {R : Room} {s : State} {m : MethodId} {args : Array Value} {below : List Frame} {meth : Method} {c : Code} {G : gT}
set_option maxHeartbeats 4000000 in
set_option maxRecDepth 100000 in
theorem wX6_checkLodger_b0 (C : CT p s m args meth c cX6_checkLodger 1 RX6 none G (pA G s.heap.size)) (X : XT l c (pA G s.heap.size) s) {v0 : Int32} {x : xS}  {r : (Sum Nat Unit)}  (hf : fX6_checkLodger_b0 v0 x  = some r) : WB p l e rX6_checkLodger s m args below meth c 1 G (pA G s.heap.size) (qxV below G x (Sum.map id (fun _ => x) r) args s 1) 0 0 0 [(0, .int v0)] [] x := by
  unfold fX6_checkLodger_b0 at hf
  refine b_iload_n C dX6_checkLodger_0 rfl 0 rfl ?_
  refine b_if_lt (tgt := 10) C dX6_checkLodger_1 (by decide) (fun c1 => ?_) (fun c1 => ?_)
  · have hf := iT c1 hf
    exact b_thr1 C X w_210 w_211 X.2.2.2.2.s232 ((Option.some.inj (congrArg (Option.map (Sum.map id (fun _ => x))) hf)).symm) dX6_checkLodger_10 dX6_checkLodger_13 dX6_checkLodger_14 dX6_checkLodger_16 dX6_checkLodger_19 ⟨Nat.le_of_ble_eq_true rfl, Nat.le_of_ble_eq_true rfl⟩ ⟨Nat.le_of_ble_eq_true rfl, Nat.le_of_ble_eq_true rfl⟩ ⟨Nat.le_of_ble_eq_true rfl, Nat.le_of_ble_eq_true rfl⟩
  · have hf := iF c1 hf
    refine b_iload_n C dX6_checkLodger_4 rfl 0 rfl ?_
    refine b_bipush (v := 10) C dX6_checkLodger_5 (by decide) ?_
    refine b_icmp_lt (tgt := 20) C dX6_checkLodger_7 (by decide) (fun c7 => ?_) (fun c7 => ?_)
    · have hf := iT c7 hf
      exact b_xvret C dX6_checkLodger_20 (congrArg (Option.map (Sum.map id (fun _ => x))) hf) ⟨Nat.le_of_ble_eq_true rfl, Nat.le_of_ble_eq_true rfl⟩
    · have hf := iF c7 hf
      exact b_thr1 C X w_210 w_211 X.2.2.2.2.s232 ((Option.some.inj (congrArg (Option.map (Sum.map id (fun _ => x))) hf)).symm) dX6_checkLodger_10 dX6_checkLodger_13 dX6_checkLodger_14 dX6_checkLodger_16 dX6_checkLodger_19 ⟨Nat.le_of_ble_eq_true rfl, Nat.le_of_ble_eq_true rfl⟩ ⟨Nat.le_of_ble_eq_true rfl, Nat.le_of_ble_eq_true rfl⟩ ⟨Nat.le_of_ble_eq_true rfl, Nat.le_of_ble_eq_true rfl⟩
end
theorem metX6_checkLodger (l : Launch) (G : gT) (v0 : Int32) (x : xS) (r : (Sum Nat Unit))  (hf : fX6_checkLodger v0 x = some r) (hl : l.stackTraces = false) : xV l yX6_checkLodger cX6_checkLodger 1 rX6_checkLodger 1 [.int v0] G x (Sum.map id (fun _ => x) r) :=
  b_bodyX (by decide) hl (Nat.le_of_ble_eq_true rfl) rfl (fun p e s m args below meth c C X => wX6_checkLodger_b0 C X   hf)
-- X6_checkAsking
abbrev rX6_checkAsking : Room := { frames := 7, cells := 2, slots := 12, locals := 102 }
def fX6_checkAsking_b0 (v0 : Int32) (v1 : Int32) (v2 : Int32) (x : xS)  : Option (Sum Nat Unit) :=
  Option.bind (fX6_checkLodger v0 x) (fun r1 => match r1 with
  | Sum.inl j => some (Sum.inl j)
  | Sum.inr _ =>
  Option.bind (fX6_isWithinNight v1 v2 x) (fun r6 =>
  (if r6 = 0 then
  some (Sum.inl 2)
  else
  some (Sum.inr ()))))
def fX6_checkAsking (v0 : Int32) (v1 : Int32) (v2 : Int32) (x : xS) : Option (Sum Nat Unit) := fX6_checkAsking_b0 v0 v1 v2 x
section
variable {p : Program} {l : Launch} {e : Env} {R : Room} {s : State} {m : MethodId} {args : Array Value} {below : List Frame} {meth : Method} {c : Code} {G : gT}
set_option maxHeartbeats 4000000 in
set_option maxRecDepth 100000 in
theorem wX6_checkAsking_b0 (C : CT p s m args meth c cX6_checkAsking 3 RX6 none G (pA G s.heap.size)) (X : XT l c (pA G s.heap.size) s) {v0 : Int32} {v1 : Int32} {v2 : Int32} {x : xS}  {r : (Sum Nat Unit)}  (hf : fX6_checkAsking_b0 v0 v1 v2 x  = some r) : WB p l e rX6_checkAsking s m args below meth c 3 G (pA G s.heap.size) (qxV below G x (Sum.map id (fun _ => x) r) args s 2) 0 0 0 [(0, .int v0), (1, .int v1), (2, .int v2)] [] x := by
  unfold fX6_checkAsking_b0 at hf
  refine b_iload_n C dX6_checkAsking_0 rfl 0 rfl ?_
  obtain ⟨r1, c1, hf⟩ := oB hf
  refine b_xcSv (As := [.int v0]) (res := Sum.map id (fun _ => x) r1) (mc1 := 1) (bad := fun k => (Sum.map id (fun _ => x) r) = .inl k) C X (metX6_checkLodger l G _ _ _ c1 X.1) gkX6_53 ekX6_53 rfl ⟨rfl, rfl⟩ ⟨Nat.le_of_ble_eq_true rfl, Nat.le_of_ble_eq_true rfl⟩ (by simp [Value.category]) ⟨Nat.le_of_ble_eq_true rfl, Nat.le_of_ble_eq_true rfl⟩ ⟨Nat.le_of_ble_eq_true rfl, Nat.le_of_ble_eq_true rfl⟩ rfl dX6_checkAsking_1 (fun j hj => ?_) (fun u hu => ?_)
  · cases r1 with
    | inr w => cases hj
    | inl j1 =>
      cases hj
      exact (Option.some.inj (congrArg (Option.map (Sum.map id (fun _ => x))) hf)).symm
  · cases r1 with
    | inl j1 => cases hu
    | inr w =>
      cases hu
      refine b_iload_n C dX6_checkAsking_4 rfl 1 rfl ?_
      refine b_iload_n C dX6_checkAsking_5 rfl 2 rfl ?_
      obtain ⟨r6, c6, hf⟩ := oB hf
      refine b_callSi (As := [.int v1, .int v2]) (res := (r6, x)) C (metX6_isWithinNight l G _ _ _ _  c6) gkX6_236 ekX6_236 rfl ⟨rfl, rfl⟩ ⟨Nat.le_of_ble_eq_true rfl, Nat.le_of_ble_eq_true rfl⟩ (by simp [Value.category]) ⟨Nat.le_of_ble_eq_true rfl, Nat.le_of_ble_eq_true rfl⟩ rfl dX6_checkAsking_6 ?_
      refine b_if_ne (tgt := 22) C dX6_checkAsking_9 (by decide) (fun c9 => ?_) (fun c9 => ?_)
      · have hf := iF c9 hf
        exact b_xvret C dX6_checkAsking_22 (congrArg (Option.map (Sum.map id (fun _ => x))) hf) ⟨Nat.le_of_ble_eq_true rfl, Nat.le_of_ble_eq_true rfl⟩
      · have hf := iT c9 hf
        exact b_thr2 C X w_216 w_217 X.2.2.2.2.s240 ((Option.some.inj (congrArg (Option.map (Sum.map id (fun _ => x))) hf)).symm) dX6_checkAsking_12 dX6_checkAsking_15 dX6_checkAsking_16 dX6_checkAsking_18 dX6_checkAsking_21 ⟨Nat.le_of_ble_eq_true rfl, Nat.le_of_ble_eq_true rfl⟩ ⟨Nat.le_of_ble_eq_true rfl, Nat.le_of_ble_eq_true rfl⟩ ⟨Nat.le_of_ble_eq_true rfl, Nat.le_of_ble_eq_true rfl⟩
end
theorem metX6_checkAsking (l : Launch) (G : gT) (v0 : Int32) (v1 : Int32) (v2 : Int32) (x : xS) (r : (Sum Nat Unit))  (hf : fX6_checkAsking v0 v1 v2 x = some r) (hl : l.stackTraces = false) : xV l yX6_checkAsking cX6_checkAsking 3 rX6_checkAsking 2 [.int v0, .int v1, .int v2] G x (Sum.map id (fun _ => x) r) :=
  b_bodyX (by decide) hl (Nat.le_of_ble_eq_true rfl) rfl (fun p e s m args below meth c C X => wX6_checkAsking_b0 C X   hf)
-- X6_ask
abbrev rX6_ask : Room := { frames := 8, cells := 2, slots := 12, locals := 146 }
def fX6_ask_b0 (i0 : Nat) (v1 : Int32) (v2 : Int32) (v3 : Int32) (x : xS) : Option (Sum Nat (Int32 × xS)) :=
  Option.bind (fX6_checkAsking v1 v2 v3 x) (fun r3 => match r3 with
  | Sum.inl j => some (Sum.inl j)
  | Sum.inr _ =>
  Option.bind (fX6_saveState i0 x) (fun r7 =>
  Option.bind (fX3_takeAsking (i0 + 1) v1 v2 v3 r7) (fun r17 =>
  some (Sum.inr (r17.1, r17.2)))))
def fX6_ask (i0 : Nat) (v1 : Int32) (v2 : Int32) (v3 : Int32) (x : xS) : Option (Sum Nat (Int32 × xS)) := fX6_ask_b0 i0 v1 v2 v3 x
section
variable {p : Program} {l : Launch} {e : Env} {R : Room} {s : State} {m : MethodId} {args : Array Value} {below : List Frame} {meth : Method} {c : Code} {G : gT}
set_option maxHeartbeats 4000000 in
set_option maxRecDepth 100000 in
theorem wX6_ask_b0 (C : CT p s m args meth c cX6_ask 4 RX6 (some (.int)) G (pA G s.heap.size)) (X : XT l c (pA G s.heap.size) s) {i0 : Nat} {v1 : Int32} {v2 : Int32} {v3 : Int32} {x : xS} {r : (Sum Nat (Int32 × xS))} (hk0 : KD G i0 6) (hf : fX6_ask_b0 i0 v1 v2 v3 x = some r) : WB p l e rX6_ask s m args below meth c 4 G (pA G s.heap.size) (qxI below G x r args s 2) 0 0 0 [(0, .ref (G.2.2 i0)), (1, .int v1), (2, .int v2), (3, .int v3)] [] x := by
  unfold fX6_ask_b0 at hf
  refine b_iload_n C dX6_ask_0 rfl 1 rfl ?_
  refine b_iload_n C dX6_ask_1 rfl 2 rfl ?_
  refine b_iload_n C dX6_ask_2 rfl 3 rfl ?_
  obtain ⟨r3, c3, hf⟩ := oB hf
  refine b_xcSv (As := [.int v1, .int v2, .int v3]) (res := Sum.map id (fun _ => x) r3) (mc1 := 2) (bad := fun k => r = .inl k) C X (metX6_checkAsking l G _ _ _ _ _ c3 X.1) gkX6_42 ekX6_42 rfl ⟨rfl, rfl⟩ ⟨Nat.le_of_ble_eq_true rfl, Nat.le_of_ble_eq_true rfl⟩ (by simp [Value.category]) ⟨Nat.le_of_ble_eq_true rfl, Nat.le_of_ble_eq_true rfl⟩ ⟨Nat.le_of_ble_eq_true rfl, Nat.le_of_ble_eq_true rfl⟩ rfl dX6_ask_3 (fun j hj => ?_) (fun u hu => ?_)
  · cases r3 with
    | inr w => cases hj
    | inl j1 =>
      cases hj
      exact (Option.some.inj hf).symm
  · cases r3 with
    | inl j1 => cases hu
    | inr w =>
      cases hu
      refine b_aload_n C dX6_ask_6 rfl 0 rfl ?_
      obtain ⟨r7, c7, hf⟩ := oB hf
      refine b_callVv (K := 6) (As := []) (res := r7) C (metX6_saveState l G _ _ _ hk0 c7) hk0 (by decide) rfl gkX6_46 ekX6_46 rfl ⟨rfl, rfl⟩ ⟨Nat.le_of_ble_eq_true rfl, Nat.le_of_ble_eq_true rfl⟩ (by simp [Value.category]) ⟨Nat.le_of_ble_eq_true rfl, Nat.le_of_ble_eq_true rfl⟩ rfl dX6_ask_7 ?_
      refine b_aload_n C dX6_ask_10 rfl 0 rfl ?_
      refine gfX6_10 C hk0 dX6_ask_11 ?_
      refine b_iload_n C dX6_ask_14 rfl 1 rfl ?_
      refine b_iload_n C dX6_ask_15 rfl 2 rfl ?_
      refine b_iload_n C dX6_ask_16 rfl 3 rfl ?_
      obtain ⟨r17, c17, hf⟩ := oB hf
      refine b_callVi (K := 3) (As := [.int v1, .int v2, .int v3]) (res := r17) C (metX3_takeAsking l G _ _ _ _ _ _ ((kd6 C.cl hk0).1) c17) ((kd6 C.cl hk0).1) (by decide) rfl gkX6_49 ekX6_49 rfl ⟨rfl, rfl⟩ ⟨Nat.le_of_ble_eq_true rfl, Nat.le_of_ble_eq_true rfl⟩ (by simp [Value.category]) ⟨Nat.le_of_ble_eq_true rfl, Nat.le_of_ble_eq_true rfl⟩ rfl dX6_ask_17 ?_
      exact b_xiret C dX6_ask_20 hf ⟨Nat.le_of_ble_eq_true rfl, Nat.le_of_ble_eq_true rfl⟩
end
theorem metX6_ask (l : Launch) (G : gT) (i0 : Nat) (v1 : Int32) (v2 : Int32) (v3 : Int32) (x : xS) (r : (Sum Nat (Int32 × xS))) (hk0 : KD G i0 6) (hf : fX6_ask i0 v1 v2 v3 x = some r) (hl : l.stackTraces = false) : xI l yX6_ask cX6_ask 4 (.int) rX6_ask 2 [.ref (G.2.2 i0), .int v1, .int v2, .int v3] G x r :=
  b_bodyX (by decide) hl (Nat.le_of_ble_eq_true rfl) rfl (fun p e s m args below meth c C X => wX6_ask_b0 C X hk0  hf)
-- X6_checkRange
abbrev rX6_checkRange : Room := { frames := 6, cells := 1, slots := 6, locals := 82 }
def fX6_checkRange_b0 (v0 : Int32) (v1 : Int32) (v2 : Int32) (x : xS)  : Option (Sum Nat Unit) :=
  (if v0 < v1 then
  some (Sum.inl 2)
  else
  (if v0 ≤ v2 then
  some (Sum.inr ())
  else
  some (Sum.inl 2)))
def fX6_checkRange (v0 : Int32) (v1 : Int32) (v2 : Int32) (x : xS) : Option (Sum Nat Unit) := fX6_checkRange_b0 v0 v1 v2 x
section
variable {p : Program} {l : Launch} {e : Env} {R : Room} {s : State} {m : MethodId} {args : Array Value} {below : List Frame} {meth : Method} {c : Code} {G : gT}
set_option maxHeartbeats 4000000 in
set_option maxRecDepth 100000 in
theorem wX6_checkRange_b0 (C : CT p s m args meth c cX6_checkRange 3 RX6 none G (pA G s.heap.size)) (X : XT l c (pA G s.heap.size) s) {v0 : Int32} {v1 : Int32} {v2 : Int32} {x : xS}  {r : (Sum Nat Unit)}  (hf : fX6_checkRange_b0 v0 v1 v2 x  = some r) : WB p l e rX6_checkRange s m args below meth c 3 G (pA G s.heap.size) (qxV below G x (Sum.map id (fun _ => x) r) args s 1) 0 0 0 [(0, .int v0), (1, .int v1), (2, .int v2)] [] x := by
  unfold fX6_checkRange_b0 at hf
  refine b_iload_n C dX6_checkRange_0 rfl 0 rfl ?_
  refine b_iload_n C dX6_checkRange_1 rfl 1 rfl ?_
  refine b_icmp_lt (tgt := 10) C dX6_checkRange_2 (by decide) (fun c2 => ?_) (fun c2 => ?_)
  · have hf := iT c2 hf
    exact b_thr2 C X w_216 w_217 X.2.2.2.2.s234 ((Option.some.inj (congrArg (Option.map (Sum.map id (fun _ => x))) hf)).symm) dX6_checkRange_10 dX6_checkRange_13 dX6_checkRange_14 dX6_checkRange_16 dX6_checkRange_19 ⟨Nat.le_of_ble_eq_true rfl, Nat.le_of_ble_eq_true rfl⟩ ⟨Nat.le_of_ble_eq_true rfl, Nat.le_of_ble_eq_true rfl⟩ ⟨Nat.le_of_ble_eq_true rfl, Nat.le_of_ble_eq_true rfl⟩
  · have hf := iF c2 hf
    refine b_iload_n C dX6_checkRange_5 rfl 0 rfl ?_
    refine b_iload_n C dX6_checkRange_6 rfl 2 rfl ?_
    refine b_icmp_le (tgt := 20) C dX6_checkRange_7 (by decide) (fun c7 => ?_) (fun c7 => ?_)
    · have hf := iT c7 hf
      exact b_xvret C dX6_checkRange_20 (congrArg (Option.map (Sum.map id (fun _ => x))) hf) ⟨Nat.le_of_ble_eq_true rfl, Nat.le_of_ble_eq_true rfl⟩
    · have hf := iF c7 hf
      exact b_thr2 C X w_216 w_217 X.2.2.2.2.s234 ((Option.some.inj (congrArg (Option.map (Sum.map id (fun _ => x))) hf)).symm) dX6_checkRange_10 dX6_checkRange_13 dX6_checkRange_14 dX6_checkRange_16 dX6_checkRange_19 ⟨Nat.le_of_ble_eq_true rfl, Nat.le_of_ble_eq_true rfl⟩ ⟨Nat.le_of_ble_eq_true rfl, Nat.le_of_ble_eq_true rfl⟩ ⟨Nat.le_of_ble_eq_true rfl, Nat.le_of_ble_eq_true rfl⟩
end
theorem metX6_checkRange (l : Launch) (G : gT) (v0 : Int32) (v1 : Int32) (v2 : Int32) (x : xS) (r : (Sum Nat Unit))  (hf : fX6_checkRange v0 v1 v2 x = some r) (hl : l.stackTraces = false) : xV l yX6_checkRange cX6_checkRange 3 rX6_checkRange 1 [.int v0, .int v1, .int v2] G x (Sum.map id (fun _ => x) r) :=
  b_bodyX (by decide) hl (Nat.le_of_ble_eq_true rfl) rfl (fun p e s m args below meth c C X => wX6_checkRange_b0 C X   hf)
-- X6_checkHour
abbrev rX6_checkHour : Room := { frames := 7, cells := 1, slots := 6, locals := 104 }
def fX6_checkHour_b0 (v0 : Int32) (x : xS)  : Option (Sum Nat Unit) :=
  Option.bind (fX6_checkRange v0 0 11 x) (fun r4 => match r4 with
  | Sum.inl j => some (Sum.inl j)
  | Sum.inr _ =>
  some (Sum.inr ()))
def fX6_checkHour (v0 : Int32) (x : xS) : Option (Sum Nat Unit) := fX6_checkHour_b0 v0 x
section
variable {p : Program} {l : Launch} {e : Env} {R : Room} {s : State} {m : MethodId} {args : Array Value} {below : List Frame} {meth : Method} {c : Code} {G : gT}
set_option maxHeartbeats 4000000 in
set_option maxRecDepth 100000 in
theorem wX6_checkHour_b0 (C : CT p s m args meth c cX6_checkHour 1 RX6 none G (pA G s.heap.size)) (X : XT l c (pA G s.heap.size) s) {v0 : Int32} {x : xS}  {r : (Sum Nat Unit)}  (hf : fX6_checkHour_b0 v0 x  = some r) : WB p l e rX6_checkHour s m args below meth c 1 G (pA G s.heap.size) (qxV below G x (Sum.map id (fun _ => x) r) args s 1) 0 0 0 [(0, .int v0)] [] x := by
  unfold fX6_checkHour_b0 at hf
  refine b_iload_n C dX6_checkHour_0 rfl 0 rfl ?_
  refine b_iconst (v := 0) C dX6_checkHour_1 (by decide) ?_
  refine b_bipush (v := 11) C dX6_checkHour_2 (by decide) ?_
  obtain ⟨r4, c4, hf⟩ := oB hf
  refine b_xcSv (As := [.int v0, .int 0, .int 11]) (res := Sum.map id (fun _ => x) r4) (mc1 := 1) (bad := fun k => (Sum.map id (fun _ => x) r) = .inl k) C X (metX6_checkRange l G _ _ _ _ _ c4 X.1) gkX6_160 ekX6_160 rfl ⟨rfl, rfl⟩ ⟨Nat.le_of_ble_eq_true rfl, Nat.le_of_ble_eq_true rfl⟩ (by simp [Value.category]) ⟨Nat.le_of_ble_eq_true rfl, Nat.le_of_ble_eq_true rfl⟩ ⟨Nat.le_of_ble_eq_true rfl, Nat.le_of_ble_eq_true rfl⟩ rfl dX6_checkHour_4 (fun j hj => ?_) (fun u hu => ?_)
  · cases r4 with
    | inr w => cases hj
    | inl j1 =>
      cases hj
      exact (Option.some.inj (congrArg (Option.map (Sum.map id (fun _ => x))) hf)).symm
  · cases r4 with
    | inl j1 => cases hu
    | inr w =>
      cases hu
      exact b_xvret C dX6_checkHour_7 (congrArg (Option.map (Sum.map id (fun _ => x))) hf) ⟨Nat.le_of_ble_eq_true rfl, Nat.le_of_ble_eq_true rfl⟩
end
theorem metX6_checkHour (l : Launch) (G : gT) (v0 : Int32) (x : xS) (r : (Sum Nat Unit))  (hf : fX6_checkHour v0 x = some r) (hl : l.stackTraces = false) : xV l yX6_checkHour cX6_checkHour 1 rX6_checkHour 1 [.int v0] G x (Sum.map id (fun _ => x) r) :=
  b_bodyX (by decide) hl (Nat.le_of_ble_eq_true rfl) rfl (fun p e s m args below meth c C X => wX6_checkHour_b0 C X   hf)
-- X6_giveBack
abbrev rX6_giveBack : Room := { frames := 8, cells := 2, slots := 12, locals := 146 }
def fX6_giveBack_b0 (i0 : Nat) (v1 : Int32) (v2 : Int32) (x : xS) : Option (Sum Nat (Int32 × xS)) :=
  Option.bind (fX6_checkLodger v1 x) (fun r1 => match r1 with
  | Sum.inl j => some (Sum.inl j)
  | Sum.inr _ =>
  Option.bind (fX6_checkHour v2 x) (fun r5 => match r5 with
  | Sum.inl j => some (Sum.inl j)
  | Sum.inr _ =>
  Option.bind (fX6_saveState i0 x) (fun r9 =>
  Option.bind (fX3_takeBack (i0 + 1) v1 v2 r9) (fun r18 =>
  some (Sum.inr (r18.1, r18.2))))))
def fX6_giveBack (i0 : Nat) (v1 : Int32) (v2 : Int32) (x : xS) : Option (Sum Nat (Int32 × xS)) := fX6_giveBack_b0 i0 v1 v2 x
section
variable {p : Program} {l : Launch} {e : Env} {R : Room} {s : State} {m : MethodId} {args : Array Value} {below : List Frame} {meth : Method} {c : Code} {G : gT}
set_option maxHeartbeats 4000000 in
set_option maxRecDepth 100000 in
theorem wX6_giveBack_b0 (C : CT p s m args meth c cX6_giveBack 3 RX6 (some (.int)) G (pA G s.heap.size)) (X : XT l c (pA G s.heap.size) s) {i0 : Nat} {v1 : Int32} {v2 : Int32} {x : xS} {r : (Sum Nat (Int32 × xS))} (hk0 : KD G i0 6) (hf : fX6_giveBack_b0 i0 v1 v2 x = some r) : WB p l e rX6_giveBack s m args below meth c 3 G (pA G s.heap.size) (qxI below G x r args s 2) 0 0 0 [(0, .ref (G.2.2 i0)), (1, .int v1), (2, .int v2)] [] x := by
  unfold fX6_giveBack_b0 at hf
  refine b_iload_n C dX6_giveBack_0 rfl 1 rfl ?_
  obtain ⟨r1, c1, hf⟩ := oB hf
  refine b_xcSv (As := [.int v1]) (res := Sum.map id (fun _ => x) r1) (mc1 := 1) (bad := fun k => r = .inl k) C X (metX6_checkLodger l G _ _ _ c1 X.1) gkX6_53 ekX6_53 rfl ⟨rfl, rfl⟩ ⟨Nat.le_of_ble_eq_true rfl, Nat.le_of_ble_eq_true rfl⟩ (by simp [Value.category]) ⟨Nat.le_of_ble_eq_true rfl, Nat.le_of_ble_eq_true rfl⟩ ⟨Nat.le_of_ble_eq_true rfl, Nat.le_of_ble_eq_true rfl⟩ rfl dX6_giveBack_1 (fun j hj => ?_) (fun u hu => ?_)
  · cases r1 with
    | inr w => cases hj
    | inl j1 =>
      cases hj
      exact (Option.some.inj hf).symm
  · cases r1 with
    | inl j1 => cases hu
    | inr w =>
      cases hu
      refine b_iload_n C dX6_giveBack_4 rfl 2 rfl ?_
      obtain ⟨r5, c5, hf⟩ := oB hf
      refine b_xcSv (As := [.int v2]) (res := Sum.map id (fun _ => x) r5) (mc1 := 1) (bad := fun k => r = .inl k) C X (metX6_checkHour l G _ _ _ c5 X.1) gkX6_56 ekX6_56 rfl ⟨rfl, rfl⟩ ⟨Nat.le_of_ble_eq_true rfl, Nat.le_of_ble_eq_true rfl⟩ (by simp [Value.category]) ⟨Nat.le_of_ble_eq_true rfl, Nat.le_of_ble_eq_true rfl⟩ ⟨Nat.le_of_ble_eq_true rfl, Nat.le_of_ble_eq_true rfl⟩ rfl dX6_giveBack_5 (fun j hj => ?_) (fun u hu => ?_)
      · cases r5 with
        | inr w => cases hj
        | inl j1 =>
          cases hj
          exact (Option.some.inj hf).symm
      · cases r5 with
        | inl j1 => cases hu
        | inr w =>
          cases hu
          refine b_aload_n C dX6_giveBack_8 rfl 0 rfl ?_
          obtain ⟨r9, c9, hf⟩ := oB hf
          refine b_callVv (K := 6) (As := []) (res := r9) C (metX6_saveState l G _ _ _ hk0 c9) hk0 (by decide) rfl gkX6_46 ekX6_46 rfl ⟨rfl, rfl⟩ ⟨Nat.le_of_ble_eq_true rfl, Nat.le_of_ble_eq_true rfl⟩ (by simp [Value.category]) ⟨Nat.le_of_ble_eq_true rfl, Nat.le_of_ble_eq_true rfl⟩ rfl dX6_giveBack_9 ?_
          refine b_aload_n C dX6_giveBack_12 rfl 0 rfl ?_
          refine gfX6_10 C hk0 dX6_giveBack_13 ?_
          refine b_iload_n C dX6_giveBack_16 rfl 1 rfl ?_
          refine b_iload_n C dX6_giveBack_17 rfl 2 rfl ?_
          obtain ⟨r18, c18, hf⟩ := oB hf
          refine b_callVi (K := 3) (As := [.int v1, .int v2]) (res := r18) C (metX3_takeBack l G _ _ _ _ _ ((kd6 C.cl hk0).1) c18) ((kd6 C.cl hk0).1) (by decide) rfl gkX6_59 ekX6_59 rfl ⟨rfl, rfl⟩ ⟨Nat.le_of_ble_eq_true rfl, Nat.le_of_ble_eq_true rfl⟩ (by simp [Value.category]) ⟨Nat.le_of_ble_eq_true rfl, Nat.le_of_ble_eq_true rfl⟩ rfl dX6_giveBack_18 ?_
          exact b_xiret C dX6_giveBack_21 hf ⟨Nat.le_of_ble_eq_true rfl, Nat.le_of_ble_eq_true rfl⟩
end
theorem metX6_giveBack (l : Launch) (G : gT) (i0 : Nat) (v1 : Int32) (v2 : Int32) (x : xS) (r : (Sum Nat (Int32 × xS))) (hk0 : KD G i0 6) (hf : fX6_giveBack i0 v1 v2 x = some r) (hl : l.stackTraces = false) : xI l yX6_giveBack cX6_giveBack 3 (.int) rX6_giveBack 2 [.ref (G.2.2 i0), .int v1, .int v2] G x r :=
  b_bodyX (by decide) hl (Nat.le_of_ble_eq_true rfl) rfl (fun p e s m args below meth c C X => wX6_giveBack_b0 C X hk0  hf)
-- X6_favour
abbrev rX6_favour : Room := { frames := 7, cells := 1, slots := 6, locals := 146 }
def fX6_favour_b0 (i0 : Nat) (v1 : Int32) (x : xS) : Option (Sum Nat (Int32 × xS)) :=
  Option.bind (fX6_checkLodger v1 x) (fun r1 => match r1 with
  | Sum.inl j => some (Sum.inl j)
  | Sum.inr _ =>
  Option.bind (fX6_saveState i0 x) (fun r5 =>
  Option.bind (fX3_giveFavour (i0 + 1) v1 r5) (fun r13 =>
  some (Sum.inr (r13.1, r13.2)))))
def fX6_favour (i0 : Nat) (v1 : Int32) (x : xS) : Option (Sum Nat (Int32 × xS)) := fX6_favour_b0 i0 v1 x
section
variable {p : Program} {l : Launch} {e : Env} {R : Room} {s : State} {m : MethodId} {args : Array Value} {below : List Frame} {meth : Method} {c : Code} {G : gT}
set_option maxHeartbeats 4000000 in
set_option maxRecDepth 100000 in
theorem wX6_favour_b0 (C : CT p s m args meth c cX6_favour 2 RX6 (some (.int)) G (pA G s.heap.size)) (X : XT l c (pA G s.heap.size) s) {i0 : Nat} {v1 : Int32} {x : xS} {r : (Sum Nat (Int32 × xS))} (hk0 : KD G i0 6) (hf : fX6_favour_b0 i0 v1 x = some r) : WB p l e rX6_favour s m args below meth c 2 G (pA G s.heap.size) (qxI below G x r args s 1) 0 0 0 [(0, .ref (G.2.2 i0)), (1, .int v1)] [] x := by
  unfold fX6_favour_b0 at hf
  refine b_iload_n C dX6_favour_0 rfl 1 rfl ?_
  obtain ⟨r1, c1, hf⟩ := oB hf
  refine b_xcSv (As := [.int v1]) (res := Sum.map id (fun _ => x) r1) (mc1 := 1) (bad := fun k => r = .inl k) C X (metX6_checkLodger l G _ _ _ c1 X.1) gkX6_53 ekX6_53 rfl ⟨rfl, rfl⟩ ⟨Nat.le_of_ble_eq_true rfl, Nat.le_of_ble_eq_true rfl⟩ (by simp [Value.category]) ⟨Nat.le_of_ble_eq_true rfl, Nat.le_of_ble_eq_true rfl⟩ ⟨Nat.le_of_ble_eq_true rfl, Nat.le_of_ble_eq_true rfl⟩ rfl dX6_favour_1 (fun j hj => ?_) (fun u hu => ?_)
  · cases r1 with
    | inr w => cases hj
    | inl j1 =>
      cases hj
      exact (Option.some.inj hf).symm
  · cases r1 with
    | inl j1 => cases hu
    | inr w =>
      cases hu
      refine b_aload_n C dX6_favour_4 rfl 0 rfl ?_
      obtain ⟨r5, c5, hf⟩ := oB hf
      refine b_callVv (K := 6) (As := []) (res := r5) C (metX6_saveState l G _ _ _ hk0 c5) hk0 (by decide) rfl gkX6_46 ekX6_46 rfl ⟨rfl, rfl⟩ ⟨Nat.le_of_ble_eq_true rfl, Nat.le_of_ble_eq_true rfl⟩ (by simp [Value.category]) ⟨Nat.le_of_ble_eq_true rfl, Nat.le_of_ble_eq_true rfl⟩ rfl dX6_favour_5 ?_
      refine b_aload_n C dX6_favour_8 rfl 0 rfl ?_
      refine gfX6_10 C hk0 dX6_favour_9 ?_
      refine b_iload_n C dX6_favour_12 rfl 1 rfl ?_
      obtain ⟨r13, c13, hf⟩ := oB hf
      refine b_callVi (K := 3) (As := [.int v1]) (res := r13) C (metX3_giveFavour l G _ _ _ _ ((kd6 C.cl hk0).1) c13) ((kd6 C.cl hk0).1) (by decide) rfl gkX6_63 ekX6_63 rfl ⟨rfl, rfl⟩ ⟨Nat.le_of_ble_eq_true rfl, Nat.le_of_ble_eq_true rfl⟩ (by simp [Value.category]) ⟨Nat.le_of_ble_eq_true rfl, Nat.le_of_ble_eq_true rfl⟩ rfl dX6_favour_13 ?_
      exact b_xiret C dX6_favour_16 hf ⟨Nat.le_of_ble_eq_true rfl, Nat.le_of_ble_eq_true rfl⟩
end
theorem metX6_favour (l : Launch) (G : gT) (i0 : Nat) (v1 : Int32) (x : xS) (r : (Sum Nat (Int32 × xS))) (hk0 : KD G i0 6) (hf : fX6_favour i0 v1 x = some r) (hl : l.stackTraces = false) : xI l yX6_favour cX6_favour 2 (.int) rX6_favour 1 [.ref (G.2.2 i0), .int v1] G x r :=
  b_bodyX (by decide) hl (Nat.le_of_ble_eq_true rfl) rfl (fun p e s m args below meth c C X => wX6_favour_b0 C X hk0  hf)
-- X6_checkNeed
abbrev rX6_checkNeed : Room := { frames := 7, cells := 1, slots := 6, locals := 104 }
def fX6_checkNeed_b0 (v0 : Int32) (x : xS)  : Option (Sum Nat Unit) :=
  Option.bind (fX6_checkRange v0 0 9 x) (fun r4 => match r4 with
  | Sum.inl j => some (Sum.inl j)
  | Sum.inr _ =>
  some (Sum.inr ()))
def fX6_checkNeed (v0 : Int32) (x : xS) : Option (Sum Nat Unit) := fX6_checkNeed_b0 v0 x
section
variable {p : Program} {l : Launch} {e : Env} {R : Room} {s : State} {m : MethodId} {args : Array Value} {below : List Frame} {meth : Method} {c : Code} {G : gT}
set_option maxHeartbeats 4000000 in
set_option maxRecDepth 100000 in
theorem wX6_checkNeed_b0 (C : CT p s m args meth c cX6_checkNeed 1 RX6 none G (pA G s.heap.size)) (X : XT l c (pA G s.heap.size) s) {v0 : Int32} {x : xS}  {r : (Sum Nat Unit)}  (hf : fX6_checkNeed_b0 v0 x  = some r) : WB p l e rX6_checkNeed s m args below meth c 1 G (pA G s.heap.size) (qxV below G x (Sum.map id (fun _ => x) r) args s 1) 0 0 0 [(0, .int v0)] [] x := by
  unfold fX6_checkNeed_b0 at hf
  refine b_iload_n C dX6_checkNeed_0 rfl 0 rfl ?_
  refine b_iconst (v := 0) C dX6_checkNeed_1 (by decide) ?_
  refine b_bipush (v := 9) C dX6_checkNeed_2 (by decide) ?_
  obtain ⟨r4, c4, hf⟩ := oB hf
  refine b_xcSv (As := [.int v0, .int 0, .int 9]) (res := Sum.map id (fun _ => x) r4) (mc1 := 1) (bad := fun k => (Sum.map id (fun _ => x) r) = .inl k) C X (metX6_checkRange l G _ _ _ _ _ c4 X.1) gkX6_160 ekX6_160 rfl ⟨rfl, rfl⟩ ⟨Nat.le_of_ble_eq_true rfl, Nat.le_of_ble_eq_true rfl⟩ (by simp [Value.category]) ⟨Nat.le_of_ble_eq_true rfl, Nat.le_of_ble_eq_true rfl⟩ ⟨Nat.le_of_ble_eq_true rfl, Nat.le_of_ble_eq_true rfl⟩ rfl dX6_checkNeed_4 (fun j hj => ?_) (fun u hu => ?_)
  · cases r4 with
    | inr w => cases hj
    | inl j1 =>
      cases hj
      exact (Option.some.inj (congrArg (Option.map (Sum.map id (fun _ => x))) hf)).symm
  · cases r4 with
    | inl j1 => cases hu
    | inr w =>
      cases hu
      exact b_xvret C dX6_checkNeed_7 (congrArg (Option.map (Sum.map id (fun _ => x))) hf) ⟨Nat.le_of_ble_eq_true rfl, Nat.le_of_ble_eq_true rfl⟩
end
theorem metX6_checkNeed (l : Launch) (G : gT) (v0 : Int32) (x : xS) (r : (Sum Nat Unit))  (hf : fX6_checkNeed v0 x = some r) (hl : l.stackTraces = false) : xV l yX6_checkNeed cX6_checkNeed 1 rX6_checkNeed 1 [.int v0] G x (Sum.map id (fun _ => x) r) :=
  b_bodyX (by decide) hl (Nat.le_of_ble_eq_true rfl) rfl (fun p e s m args below meth c C X => wX6_checkNeed_b0 C X   hf)
-- X6_need
abbrev rX6_need : Room := { frames := 8, cells := 2, slots := 12, locals := 146 }
def fX6_need_b0 (i0 : Nat) (v1 : Int32) (v2 : Int32) (x : xS) : Option (Sum Nat (Int32 × xS)) :=
  Option.bind (fX6_checkLodger v1 x) (fun r1 => match r1 with
  | Sum.inl j => some (Sum.inl j)
  | Sum.inr _ =>
  Option.bind (fX6_checkNeed v2 x) (fun r5 => match r5 with
  | Sum.inl j => some (Sum.inl j)
  | Sum.inr _ =>
  Option.bind (fX6_saveState i0 x) (fun r9 =>
  Option.bind (fX3_changeNeed (i0 + 1) v1 v2 r9) (fun r18 =>
  some (Sum.inr (r18.1, r18.2))))))
def fX6_need (i0 : Nat) (v1 : Int32) (v2 : Int32) (x : xS) : Option (Sum Nat (Int32 × xS)) := fX6_need_b0 i0 v1 v2 x
section
variable {p : Program} {l : Launch} {e : Env} {R : Room} {s : State} {m : MethodId} {args : Array Value} {below : List Frame} {meth : Method} {c : Code} {G : gT}
set_option maxHeartbeats 4000000 in
set_option maxRecDepth 100000 in
theorem wX6_need_b0 (C : CT p s m args meth c cX6_need 3 RX6 (some (.int)) G (pA G s.heap.size)) (X : XT l c (pA G s.heap.size) s) {i0 : Nat} {v1 : Int32} {v2 : Int32} {x : xS} {r : (Sum Nat (Int32 × xS))} (hk0 : KD G i0 6) (hf : fX6_need_b0 i0 v1 v2 x = some r) : WB p l e rX6_need s m args below meth c 3 G (pA G s.heap.size) (qxI below G x r args s 2) 0 0 0 [(0, .ref (G.2.2 i0)), (1, .int v1), (2, .int v2)] [] x := by
  unfold fX6_need_b0 at hf
  refine b_iload_n C dX6_need_0 rfl 1 rfl ?_
  obtain ⟨r1, c1, hf⟩ := oB hf
  refine b_xcSv (As := [.int v1]) (res := Sum.map id (fun _ => x) r1) (mc1 := 1) (bad := fun k => r = .inl k) C X (metX6_checkLodger l G _ _ _ c1 X.1) gkX6_53 ekX6_53 rfl ⟨rfl, rfl⟩ ⟨Nat.le_of_ble_eq_true rfl, Nat.le_of_ble_eq_true rfl⟩ (by simp [Value.category]) ⟨Nat.le_of_ble_eq_true rfl, Nat.le_of_ble_eq_true rfl⟩ ⟨Nat.le_of_ble_eq_true rfl, Nat.le_of_ble_eq_true rfl⟩ rfl dX6_need_1 (fun j hj => ?_) (fun u hu => ?_)
  · cases r1 with
    | inr w => cases hj
    | inl j1 =>
      cases hj
      exact (Option.some.inj hf).symm
  · cases r1 with
    | inl j1 => cases hu
    | inr w =>
      cases hu
      refine b_iload_n C dX6_need_4 rfl 2 rfl ?_
      obtain ⟨r5, c5, hf⟩ := oB hf
      refine b_xcSv (As := [.int v2]) (res := Sum.map id (fun _ => x) r5) (mc1 := 1) (bad := fun k => r = .inl k) C X (metX6_checkNeed l G _ _ _ c5 X.1) gkX6_67 ekX6_67 rfl ⟨rfl, rfl⟩ ⟨Nat.le_of_ble_eq_true rfl, Nat.le_of_ble_eq_true rfl⟩ (by simp [Value.category]) ⟨Nat.le_of_ble_eq_true rfl, Nat.le_of_ble_eq_true rfl⟩ ⟨Nat.le_of_ble_eq_true rfl, Nat.le_of_ble_eq_true rfl⟩ rfl dX6_need_5 (fun j hj => ?_) (fun u hu => ?_)
      · cases r5 with
        | inr w => cases hj
        | inl j1 =>
          cases hj
          exact (Option.some.inj hf).symm
      · cases r5 with
        | inl j1 => cases hu
        | inr w =>
          cases hu
          refine b_aload_n C dX6_need_8 rfl 0 rfl ?_
          obtain ⟨r9, c9, hf⟩ := oB hf
          refine b_callVv (K := 6) (As := []) (res := r9) C (metX6_saveState l G _ _ _ hk0 c9) hk0 (by decide) rfl gkX6_46 ekX6_46 rfl ⟨rfl, rfl⟩ ⟨Nat.le_of_ble_eq_true rfl, Nat.le_of_ble_eq_true rfl⟩ (by simp [Value.category]) ⟨Nat.le_of_ble_eq_true rfl, Nat.le_of_ble_eq_true rfl⟩ rfl dX6_need_9 ?_
          refine b_aload_n C dX6_need_12 rfl 0 rfl ?_
          refine gfX6_10 C hk0 dX6_need_13 ?_
          refine b_iload_n C dX6_need_16 rfl 1 rfl ?_
          refine b_iload_n C dX6_need_17 rfl 2 rfl ?_
          obtain ⟨r18, c18, hf⟩ := oB hf
          refine b_callVi (K := 3) (As := [.int v1, .int v2]) (res := r18) C (metX3_changeNeed l G _ _ _ _ _ ((kd6 C.cl hk0).1) c18) ((kd6 C.cl hk0).1) (by decide) rfl gkX6_70 ekX6_70 rfl ⟨rfl, rfl⟩ ⟨Nat.le_of_ble_eq_true rfl, Nat.le_of_ble_eq_true rfl⟩ (by simp [Value.category]) ⟨Nat.le_of_ble_eq_true rfl, Nat.le_of_ble_eq_true rfl⟩ rfl dX6_need_18 ?_
          exact b_xiret C dX6_need_21 hf ⟨Nat.le_of_ble_eq_true rfl, Nat.le_of_ble_eq_true rfl⟩
end
theorem metX6_need (l : Launch) (G : gT) (i0 : Nat) (v1 : Int32) (v2 : Int32) (x : xS) (r : (Sum Nat (Int32 × xS))) (hk0 : KD G i0 6) (hf : fX6_need i0 v1 v2 x = some r) (hl : l.stackTraces = false) : xI l yX6_need cX6_need 3 (.int) rX6_need 2 [.ref (G.2.2 i0), .int v1, .int v2] G x r :=
  b_bodyX (by decide) hl (Nat.le_of_ble_eq_true rfl) rfl (fun p e s m args below meth c C X => wX6_need_b0 C X hk0  hf)
-- X6_set
abbrev rX6_set : Room := { frames := 8, cells := 1, slots := 6, locals := 146 }
def fX6_set_b0 (i0 : Nat) (v1 : Int32) (x : xS) : Option (Sum Nat (Int32 × xS)) :=
  Option.bind (fX6_checkNeed v1 x) (fun r1 => match r1 with
  | Sum.inl j => some (Sum.inl j)
  | Sum.inr _ =>
  Option.bind (fX6_saveState i0 x) (fun r5 =>
  Option.bind (fX3_changeSetting (i0 + 1) v1 r5) (fun r13 =>
  some (Sum.inr (r13.1, r13.2)))))
def fX6_set (i0 : Nat) (v1 : Int32) (x : xS) : Option (Sum Nat (Int32 × xS)) := fX6_set_b0 i0 v1 x
section
variable {p : Program} {l : Launch} {e : Env} {R : Room} {s : State} {m : MethodId} {args : Array Value} {below : List Frame} {meth : Method} {c : Code} {G : gT}
set_option maxHeartbeats 4000000 in
set_option maxRecDepth 100000 in
theorem wX6_set_b0 (C : CT p s m args meth c cX6_set 2 RX6 (some (.int)) G (pA G s.heap.size)) (X : XT l c (pA G s.heap.size) s) {i0 : Nat} {v1 : Int32} {x : xS} {r : (Sum Nat (Int32 × xS))} (hk0 : KD G i0 6) (hf : fX6_set_b0 i0 v1 x = some r) : WB p l e rX6_set s m args below meth c 2 G (pA G s.heap.size) (qxI below G x r args s 1) 0 0 0 [(0, .ref (G.2.2 i0)), (1, .int v1)] [] x := by
  unfold fX6_set_b0 at hf
  refine b_iload_n C dX6_set_0 rfl 1 rfl ?_
  obtain ⟨r1, c1, hf⟩ := oB hf
  refine b_xcSv (As := [.int v1]) (res := Sum.map id (fun _ => x) r1) (mc1 := 1) (bad := fun k => r = .inl k) C X (metX6_checkNeed l G _ _ _ c1 X.1) gkX6_67 ekX6_67 rfl ⟨rfl, rfl⟩ ⟨Nat.le_of_ble_eq_true rfl, Nat.le_of_ble_eq_true rfl⟩ (by simp [Value.category]) ⟨Nat.le_of_ble_eq_true rfl, Nat.le_of_ble_eq_true rfl⟩ ⟨Nat.le_of_ble_eq_true rfl, Nat.le_of_ble_eq_true rfl⟩ rfl dX6_set_1 (fun j hj => ?_) (fun u hu => ?_)
  · cases r1 with
    | inr w => cases hj
    | inl j1 =>
      cases hj
      exact (Option.some.inj hf).symm
  · cases r1 with
    | inl j1 => cases hu
    | inr w =>
      cases hu
      refine b_aload_n C dX6_set_4 rfl 0 rfl ?_
      obtain ⟨r5, c5, hf⟩ := oB hf
      refine b_callVv (K := 6) (As := []) (res := r5) C (metX6_saveState l G _ _ _ hk0 c5) hk0 (by decide) rfl gkX6_46 ekX6_46 rfl ⟨rfl, rfl⟩ ⟨Nat.le_of_ble_eq_true rfl, Nat.le_of_ble_eq_true rfl⟩ (by simp [Value.category]) ⟨Nat.le_of_ble_eq_true rfl, Nat.le_of_ble_eq_true rfl⟩ rfl dX6_set_5 ?_
      refine b_aload_n C dX6_set_8 rfl 0 rfl ?_
      refine gfX6_10 C hk0 dX6_set_9 ?_
      refine b_iload_n C dX6_set_12 rfl 1 rfl ?_
      obtain ⟨r13, c13, hf⟩ := oB hf
      refine b_callVi (K := 3) (As := [.int v1]) (res := r13) C (metX3_changeSetting l G _ _ _ _ ((kd6 C.cl hk0).1) c13) ((kd6 C.cl hk0).1) (by decide) rfl gkX6_88 ekX6_88 rfl ⟨rfl, rfl⟩ ⟨Nat.le_of_ble_eq_true rfl, Nat.le_of_ble_eq_true rfl⟩ (by simp [Value.category]) ⟨Nat.le_of_ble_eq_true rfl, Nat.le_of_ble_eq_true rfl⟩ rfl dX6_set_13 ?_
      exact b_xiret C dX6_set_16 hf ⟨Nat.le_of_ble_eq_true rfl, Nat.le_of_ble_eq_true rfl⟩
end
theorem metX6_set (l : Launch) (G : gT) (i0 : Nat) (v1 : Int32) (x : xS) (r : (Sum Nat (Int32 × xS))) (hk0 : KD G i0 6) (hf : fX6_set i0 v1 x = some r) (hl : l.stackTraces = false) : xI l yX6_set cX6_set 2 (.int) rX6_set 1 [.ref (G.2.2 i0), .int v1] G x r :=
  b_bodyX (by decide) hl (Nat.le_of_ble_eq_true rfl) rfl (fun p e s m args below meth c C X => wX6_set_b0 C X hk0  hf)
-- X6_pass
abbrev rX6_pass : Room := { frames := 6, cells := 1, slots := 6, locals := 146 }
def fX6_pass_b0 (i0 : Nat) (x : xS) : Option (Sum Nat (Int32 × xS)) :=
  Option.bind (fX3_canLetHourGo (i0 + 1) x) (fun r4 =>
  (if r4 = 0 then
  some (Sum.inl 3)
  else
  Option.bind (fX6_saveState i0 x) (fun r21 =>
  Option.bind (fX3_letHourGo (i0 + 1) r21) (fun r28 =>
  some (Sum.inr (r28.1, r28.2))))))
def fX6_pass (i0 : Nat) (x : xS) : Option (Sum Nat (Int32 × xS)) := fX6_pass_b0 i0 x
section
variable {p : Program} {l : Launch} {e : Env} {R : Room} {s : State} {m : MethodId} {args : Array Value} {below : List Frame} {meth : Method} {c : Code} {G : gT}
set_option maxHeartbeats 4000000 in
set_option maxRecDepth 100000 in
theorem wX6_pass_b0 (C : CT p s m args meth c cX6_pass 1 RX6 (some (.int)) G (pA G s.heap.size)) (X : XT l c (pA G s.heap.size) s) {i0 : Nat} {x : xS} {r : (Sum Nat (Int32 × xS))} (hk0 : KD G i0 6) (hf : fX6_pass_b0 i0 x = some r) : WB p l e rX6_pass s m args below meth c 1 G (pA G s.heap.size) (qxI below G x r args s 1) 0 0 0 [(0, .ref (G.2.2 i0))] [] x := by
  unfold fX6_pass_b0 at hf
  refine b_aload_n C dX6_pass_0 rfl 0 rfl ?_
  refine gfX6_10 C hk0 dX6_pass_1 ?_
  obtain ⟨r4, c4, hf⟩ := oB hf
  refine b_callVi (K := 3) (As := []) (res := (r4, x)) C (metX3_canLetHourGo l G _ _ _ ((kd6 C.cl hk0).1) c4) ((kd6 C.cl hk0).1) (by decide) rfl gkX6_73 ekX6_73 rfl ⟨rfl, rfl⟩ ⟨Nat.le_of_ble_eq_true rfl, Nat.le_of_ble_eq_true rfl⟩ (by simp [Value.category]) ⟨Nat.zero_le _, Nat.zero_le _⟩ rfl dX6_pass_4 ?_
  refine b_if_ne (tgt := 20) C dX6_pass_7 (by decide) (fun c7 => ?_) (fun c7 => ?_)
  · have hf := iF c7 hf
    refine b_aload_n C dX6_pass_20 rfl 0 rfl ?_
    obtain ⟨r21, c21, hf⟩ := oB hf
    refine b_callVv (K := 6) (As := []) (res := r21) C (metX6_saveState l G _ _ _ hk0 c21) hk0 (by decide) rfl gkX6_46 ekX6_46 rfl ⟨rfl, rfl⟩ ⟨Nat.le_of_ble_eq_true rfl, Nat.le_of_ble_eq_true rfl⟩ (by simp [Value.category]) ⟨Nat.zero_le _, Nat.zero_le _⟩ rfl dX6_pass_21 ?_
    refine b_aload_n C dX6_pass_24 rfl 0 rfl ?_
    refine gfX6_10 C hk0 dX6_pass_25 ?_
    obtain ⟨r28, c28, hf⟩ := oB hf
    refine b_callVi (K := 3) (As := []) (res := r28) C (metX3_letHourGo l G _ _ _ ((kd6 C.cl hk0).1) c28) ((kd6 C.cl hk0).1) (by decide) rfl gkX6_84 ekX6_84 rfl ⟨rfl, rfl⟩ ⟨Nat.le_of_ble_eq_true rfl, Nat.le_of_ble_eq_true rfl⟩ (by simp [Value.category]) ⟨Nat.zero_le _, Nat.zero_le _⟩ rfl dX6_pass_28 ?_
    exact b_xiret C dX6_pass_31 hf ⟨Nat.le_of_ble_eq_true rfl, Nat.le_of_ble_eq_true rfl⟩
  · have hf := iT c7 hf
    exact b_thr3 C X w_262 w_263 X.2.2.2.2.s79 ((Option.some.inj hf).symm) dX6_pass_10 dX6_pass_13 dX6_pass_14 dX6_pass_16 dX6_pass_19 ⟨Nat.le_of_ble_eq_true rfl, Nat.le_of_ble_eq_true rfl⟩ ⟨Nat.le_of_ble_eq_true rfl, Nat.le_of_ble_eq_true rfl⟩ ⟨Nat.le_of_ble_eq_true rfl, Nat.le_of_ble_eq_true rfl⟩
end
theorem metX6_pass (l : Launch) (G : gT) (i0 : Nat) (x : xS) (r : (Sum Nat (Int32 × xS))) (hk0 : KD G i0 6) (hf : fX6_pass i0 x = some r) (hl : l.stackTraces = false) : xI l yX6_pass cX6_pass 1 (.int) rX6_pass 1 [.ref (G.2.2 i0)] G x r :=
  b_bodyX (by decide) hl (Nat.le_of_ble_eq_true rfl) rfl (fun p e s m args below meth c C X => wX6_pass_b0 C X hk0  hf)
