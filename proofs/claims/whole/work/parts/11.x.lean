-- X6_append
abbrev rX6_append : Room := { frames := 6, cells := 1, slots := 6, locals := 82 }
def fX6_append_b0 (i0 : Nat) (v1 : Int32) (x : xS) : Option (Sum Nat (Int32 × xS)) :=
  (if v1 < 33 then
  some (Sum.inl 2)
  else
  (if v1 ≤ 126 then
  Option.bind (fX0_isFull (i0 + 99) x) (fun r26 =>
  (if r26 = 0 then
  Option.bind (fX0_addSign (i0 + 99) v1 x) (fun r47 =>
  some (Sum.inr (r47.1, r47.2)))
  else
  some (Sum.inl 3)))
  else
  some (Sum.inl 2)))
def fX6_append (i0 : Nat) (v1 : Int32) (x : xS) : Option (Sum Nat (Int32 × xS)) := fX6_append_b0 i0 v1 x
section
variable {p : Program} {l : Launch} {e : Env} {R : Room} {s : State} {m : MethodId} {args : Array Value} {below : List Frame} {meth : Method} {c : Code} {G : gT}
set_option maxHeartbeats 4000000 in
set_option maxRecDepth 100000 in
theorem wX6_append_b0 (C : CT p s m args meth c cX6_append 2 RX6 (some (.int)) G (pA G s.heap.size)) (X : XT l c (pA G s.heap.size) s) {i0 : Nat} {v1 : Int32} {x : xS} {r : (Sum Nat (Int32 × xS))} (hk0 : KD G i0 6) (hf : fX6_append_b0 i0 v1 x = some r) : WB p l e rX6_append s m args below meth c 2 G (pA G s.heap.size) (qxI below G x r args s 1) 0 0 0 [(0, .ref (G.2.2 i0)), (1, .int v1)] [] x := by
  unfold fX6_append_b0 at hf
  refine b_iload_n C dX6_append_0 rfl 1 rfl ?_
  refine b_bipush (v := 33) C dX6_append_1 (by decide) ?_
  refine b_icmp_lt (tgt := 12) C dX6_append_3 (by decide) (fun c3 => ?_) (fun c3 => ?_)
  · have hf := iT c3 hf
    exact b_thr2 C X w_518 w_519 X.2.2.2.2.s93 ((Option.some.inj hf).symm) dX6_append_12 dX6_append_15 dX6_append_16 dX6_append_18 dX6_append_21 ⟨Nat.le_of_ble_eq_true rfl, Nat.le_of_ble_eq_true rfl⟩ ⟨Nat.le_of_ble_eq_true rfl, Nat.le_of_ble_eq_true rfl⟩ ⟨Nat.le_of_ble_eq_true rfl, Nat.le_of_ble_eq_true rfl⟩
  · have hf := iF c3 hf
    refine b_iload_n C dX6_append_6 rfl 1 rfl ?_
    refine b_bipush (v := 126) C dX6_append_7 (by decide) ?_
    refine b_icmp_le (tgt := 22) C dX6_append_9 (by decide) (fun c9 => ?_) (fun c9 => ?_)
    · have hf := iT c9 hf
      refine b_aload_n C dX6_append_22 rfl 0 rfl ?_
      refine gfX6_38 C hk0 dX6_append_23 ?_
      obtain ⟨r26, c26, hf⟩ := oB hf
      refine b_callVi (K := 0) (As := []) (res := (r26, x)) C (metX0_isFull l G _ _ _ ((kd6 C.cl hk0).2.2.2.2) c26) ((kd6 C.cl hk0).2.2.2.2) (by decide) rfl gkX6_96 ekX6_96 rfl ⟨rfl, rfl⟩ ⟨Nat.le_of_ble_eq_true rfl, Nat.le_of_ble_eq_true rfl⟩ (by simp [Value.category]) ⟨Nat.zero_le _, Nat.zero_le _⟩ rfl dX6_append_26 ?_
      refine b_if_eq (tgt := 42) C dX6_append_29 (by decide) (fun c29 => ?_) (fun c29 => ?_)
      · have hf := iT c29 hf
        refine b_aload_n C dX6_append_42 rfl 0 rfl ?_
        refine gfX6_38 C hk0 dX6_append_43 ?_
        refine b_iload_n C dX6_append_46 rfl 1 rfl ?_
        obtain ⟨r47, c47, hf⟩ := oB hf
        refine b_callVi (K := 0) (As := [.int v1]) (res := r47) C (metX0_addSign l G _ _ _ _ ((kd6 C.cl hk0).2.2.2.2) c47) ((kd6 C.cl hk0).2.2.2.2) (by decide) rfl gkX6_101 ekX6_101 rfl ⟨rfl, rfl⟩ ⟨Nat.le_of_ble_eq_true rfl, Nat.le_of_ble_eq_true rfl⟩ (by simp [Value.category]) ⟨Nat.zero_le _, Nat.zero_le _⟩ rfl dX6_append_47 ?_
        exact b_xiret C dX6_append_50 hf ⟨Nat.le_of_ble_eq_true rfl, Nat.le_of_ble_eq_true rfl⟩
      · have hf := iF c29 hf
        exact b_thr3 C X w_528 w_529 X.2.2.2.2.s99 ((Option.some.inj hf).symm) dX6_append_32 dX6_append_35 dX6_append_36 dX6_append_38 dX6_append_41 ⟨Nat.le_of_ble_eq_true rfl, Nat.le_of_ble_eq_true rfl⟩ ⟨Nat.le_of_ble_eq_true rfl, Nat.le_of_ble_eq_true rfl⟩ ⟨Nat.le_of_ble_eq_true rfl, Nat.le_of_ble_eq_true rfl⟩
    · have hf := iF c9 hf
      exact b_thr2 C X w_518 w_519 X.2.2.2.2.s93 ((Option.some.inj hf).symm) dX6_append_12 dX6_append_15 dX6_append_16 dX6_append_18 dX6_append_21 ⟨Nat.le_of_ble_eq_true rfl, Nat.le_of_ble_eq_true rfl⟩ ⟨Nat.le_of_ble_eq_true rfl, Nat.le_of_ble_eq_true rfl⟩ ⟨Nat.le_of_ble_eq_true rfl, Nat.le_of_ble_eq_true rfl⟩
end
theorem metX6_append (l : Launch) (G : gT) (i0 : Nat) (v1 : Int32) (x : xS) (r : (Sum Nat (Int32 × xS))) (hk0 : KD G i0 6) (hf : fX6_append i0 v1 x = some r) (hl : l.stackTraces = false) : xI l yX6_append cX6_append 2 (.int) rX6_append 1 [.ref (G.2.2 i0), .int v1] G x r :=
  b_bodyX (by decide) hl (Nat.le_of_ble_eq_true rfl) rfl (fun p e s m args below meth c C X => wX6_append_b0 C X hk0  hf)
-- X6_checkLodger
abbrev rX6_checkLodger : Room := { frames := 6, cells := 1, slots := 6, locals := 82 }
def fX6_checkLodger_b0 (v0 : Int32) (x : xS)  : Option (Sum Nat Unit) :=
  (if v0 < 0 then
  some (Sum.inl 1)
  else
  (if v0 < 10 then
  some (Sum.inr ())
  else
  some (Sum.inl 1)))
def fX6_checkLodger (v0 : Int32) (x : xS) : Option (Sum Nat Unit) := fX6_checkLodger_b0 v0 x
section
variable {p : Program} {l : Launch} {e : Env} {R : Room} {s : State} {m : MethodId} {args : Array Value} {below : List Frame} {meth : Method} {c : Code} {G : gT}
set_option maxHeartbeats 4000000 in
set_option maxRecDepth 100000 in
theorem wX6_checkLodger_b0 (C : CT p s m args meth c cX6_checkLodger 1 RX6 none G (pA G s.heap.size)) (X : XT l c (pA G s.heap.size) s) {v0 : Int32} {x : xS}  {r : (Sum Nat Unit)}  (hf : fX6_checkLodger_b0 v0 x  = some r) : WB p l e rX6_checkLodger s m args below meth c 1 G (pA G s.heap.size) (qxV below G x (Sum.map id (fun _ => x) r) args s 1) 0 0 0 [(0, .int v0)] [] x := by
  unfold fX6_checkLodger_b0 at hf
  refine b_iload_n C dX6_checkLodger_0 rfl 0 rfl ?_
  refine b_if_lt (tgt := 10) C dX6_checkLodger_1 (by decide) (fun c1 => ?_) (fun c1 => ?_)
  · have hf := iT c1 hf
    exact b_thr1 C X w_530 w_531 X.2.2.2.2.s232 ((Option.some.inj (congrArg (Option.map (Sum.map id (fun _ => x))) hf)).symm) dX6_checkLodger_10 dX6_checkLodger_13 dX6_checkLodger_14 dX6_checkLodger_16 dX6_checkLodger_19 ⟨Nat.le_of_ble_eq_true rfl, Nat.le_of_ble_eq_true rfl⟩ ⟨Nat.le_of_ble_eq_true rfl, Nat.le_of_ble_eq_true rfl⟩ ⟨Nat.le_of_ble_eq_true rfl, Nat.le_of_ble_eq_true rfl⟩
  · have hf := iF c1 hf
    refine b_iload_n C dX6_checkLodger_4 rfl 0 rfl ?_
    refine b_bipush (v := 10) C dX6_checkLodger_5 (by decide) ?_
    refine b_icmp_lt (tgt := 20) C dX6_checkLodger_7 (by decide) (fun c7 => ?_) (fun c7 => ?_)
    · have hf := iT c7 hf
      exact b_xvret C dX6_checkLodger_20 (congrArg (Option.map (Sum.map id (fun _ => x))) hf) ⟨Nat.le_of_ble_eq_true rfl, Nat.le_of_ble_eq_true rfl⟩
    · have hf := iF c7 hf
      exact b_thr1 C X w_530 w_531 X.2.2.2.2.s232 ((Option.some.inj (congrArg (Option.map (Sum.map id (fun _ => x))) hf)).symm) dX6_checkLodger_10 dX6_checkLodger_13 dX6_checkLodger_14 dX6_checkLodger_16 dX6_checkLodger_19 ⟨Nat.le_of_ble_eq_true rfl, Nat.le_of_ble_eq_true rfl⟩ ⟨Nat.le_of_ble_eq_true rfl, Nat.le_of_ble_eq_true rfl⟩ ⟨Nat.le_of_ble_eq_true rfl, Nat.le_of_ble_eq_true rfl⟩
end
theorem metX6_checkLodger (l : Launch) (G : gT) (v0 : Int32) (x : xS) (r : (Sum Nat Unit))  (hf : fX6_checkLodger v0 x = some r) (hl : l.stackTraces = false) : xV l yX6_checkLodger cX6_checkLodger 1 rX6_checkLodger 1 [.int v0] G x (Sum.map id (fun _ => x) r) :=
  b_bodyX (by decide) hl (Nat.le_of_ble_eq_true rfl) rfl (fun p e s m args below meth c C X => wX6_checkLodger_b0 C X   hf)
-- X6_checkAsking
abbrev rX6_checkAsking : Room := { frames := 7, cells := 2, slots := 12, locals := 102 }
def fX6_checkAsking_b0 (v0 : Int32) (v1 : Int32) (v2 : Int32) (x : xS)  : Option (Sum Nat Unit) :=
  Option.bind (fX6_checkLodger v0 x) (fun r1 => match r1 with
  | Sum.inl j => some (Sum.inl j)
  | Sum.inr _ =>
  Option.bind (fX6_isWithinNight v1 v2 x) (fun r6 =>
  (if r6 = 0 then
  some (Sum.inl 2)
  else
  some (Sum.inr ()))))
def fX6_checkAsking (v0 : Int32) (v1 : Int32) (v2 : Int32) (x : xS) : Option (Sum Nat Unit) := fX6_checkAsking_b0 v0 v1 v2 x
section
variable {p : Program} {l : Launch} {e : Env} {R : Room} {s : State} {m : MethodId} {args : Array Value} {below : List Frame} {meth : Method} {c : Code} {G : gT}
set_option maxHeartbeats 4000000 in
set_option maxRecDepth 100000 in
theorem wX6_checkAsking_b0 (C : CT p s m args meth c cX6_checkAsking 3 RX6 none G (pA G s.heap.size)) (X : XT l c (pA G s.heap.size) s) {v0 : Int32} {v1 : Int32} {v2 : Int32} {x : xS}  {r : (Sum Nat Unit)}  (hf : fX6_checkAsking_b0 v0 v1 v2 x  = some r) : WB p l e rX6_checkAsking s m args below meth c 3 G (pA G s.heap.size) (qxV below G x (Sum.map id (fun _ => x) r) args s 2) 0 0 0 [(0, .int v0), (1, .int v1), (2, .int v2)] [] x := by
  unfold fX6_checkAsking_b0 at hf
  refine b_iload_n C dX6_checkAsking_0 rfl 0 rfl ?_
  obtain ⟨r1, c1, hf⟩ := oB hf
  refine b_xcSv (As := [.int v0]) (res := Sum.map id (fun _ => x) r1) (mc1 := 1) (bad := fun k => (Sum.map id (fun _ => x) r) = .inl k) C X (metX6_checkLodger l G _ _ _ c1 X.1) gkX6_53 ekX6_53 rfl ⟨rfl, rfl⟩ ⟨Nat.le_of_ble_eq_true rfl, Nat.le_of_ble_eq_true rfl⟩ (by simp [Value.category]) ⟨Nat.le_of_ble_eq_true rfl, Nat.le_of_ble_eq_true rfl⟩ ⟨Nat.le_of_ble_eq_true rfl, Nat.le_of_ble_eq_true rfl⟩ rfl dX6_checkAsking_1 (fun j hj => ?_) (fun u hu => ?_)
  · cases r1 with
    | inr w => cases hj
    | inl j1 =>
      cases hj
      exact (Option.some.inj (congrArg (Option.map (Sum.map id (fun _ => x))) hf)).symm
  · cases r1 with
    | inl j1 => cases hu
    | inr w =>
      cases hu
      refine b_iload_n C dX6_checkAsking_4 rfl 1 rfl ?_
      refine b_iload_n C dX6_checkAsking_5 rfl 2 rfl ?_
      obtain ⟨r6, c6, hf⟩ := oB hf
      refine b_callSi (As := [.int v1, .int v2]) (res := (r6, x)) C (metX6_isWithinNight l G _ _ _ _  c6) gkX6_236 ekX6_236 rfl ⟨rfl, rfl⟩ ⟨Nat.le_of_ble_eq_true rfl, Nat.le_of_ble_eq_true rfl⟩ (by simp [Value.category]) ⟨Nat.le_of_ble_eq_true rfl, Nat.le_of_ble_eq_true rfl⟩ rfl dX6_checkAsking_6 ?_
      refine b_if_ne (tgt := 22) C dX6_checkAsking_9 (by decide) (fun c9 => ?_) (fun c9 => ?_)
      · have hf := iF c9 hf
        exact b_xvret C dX6_checkAsking_22 (congrArg (Option.map (Sum.map id (fun _ => x))) hf) ⟨Nat.le_of_ble_eq_true rfl, Nat.le_of_ble_eq_true rfl⟩
      · have hf := iT c9 hf
        exact b_thr2 C X w_518 w_519 X.2.2.2.2.s240 ((Option.some.inj (congrArg (Option.map (Sum.map id (fun _ => x))) hf)).symm) dX6_checkAsking_12 dX6_checkAsking_15 dX6_checkAsking_16 dX6_checkAsking_18 dX6_checkAsking_21 ⟨Nat.le_of_ble_eq_true rfl, Nat.le_of_ble_eq_true rfl⟩ ⟨Nat.le_of_ble_eq_true rfl, Nat.le_of_ble_eq_true rfl⟩ ⟨Nat.le_of_ble_eq_true rfl, Nat.le_of_ble_eq_true rfl⟩
end
theorem metX6_checkAsking (l : Launch) (G : gT) (v0 : Int32) (v1 : Int32) (v2 : Int32) (x : xS) (r : (Sum Nat Unit))  (hf : fX6_checkAsking v0 v1 v2 x = some r) (hl : l.stackTraces = false) : xV l yX6_checkAsking cX6_checkAsking 3 rX6_checkAsking 2 [.int v0, .int v1, .int v2] G x (Sum.map id (fun _ => x) r) :=
  b_bodyX (by decide) hl (Nat.le_of_ble_eq_true rfl) rfl (fun p e s m args below meth c C X => wX6_checkAsking_b0 C X   hf)
-- X6_ask
abbrev rX6_ask : Room := { frames := 8, cells := 2, slots := 12, locals := 146 }
def fX6_ask_b0 (i0 : Nat) (v1 : Int32) (v2 : Int32) (v3 : Int32) (x : xS) : Option (Sum Nat (Int32 × xS)) :=
  Option.bind (fX6_checkAsking v1 v2 v3 x) (fun r3 => match r3 with
  | Sum.inl j => some (Sum.inl j)
  | Sum.inr _ =>
  Option.bind (fX6_saveState i0 x) (fun r7 =>
  Option.bind (fX3_takeAsking (i0 + 1) v1 v2 v3 r7) (fun r17 =>
  some (Sum.inr (r17.1, r17.2)))))
def fX6_ask (i0 : Nat) (v1 : Int32) (v2 : Int32) (v3 : Int32) (x : xS) : Option (Sum Nat (Int32 × xS)) := fX6_ask_b0 i0 v1 v2 v3 x
section
variable {p : Program} {l : Launch} {e : Env} {R : Room} {s : State} {m : MethodId} {args : Array Value} {below : List Frame} {meth : Method} {c : Code} {G : gT}
set_option maxHeartbeats 4000000 in
set_option maxRecDepth 100000 in
theorem wX6_ask_b0 (C : CT p s m args meth c cX6_ask 4 RX6 (some (.int)) G (pA G s.heap.size)) (X : XT l c (pA G s.heap.size) s) {i0 : Nat} {v1 : Int32} {v2 : Int32} {v3 : Int32} {x : xS} {r : (Sum Nat (Int32 × xS))} (hk0 : KD G i0 6) (hf : fX6_ask_b0 i0 v1 v2 v3 x = some r) : WB p l e rX6_ask s m args below meth c 4 G (pA G s.heap.size) (qxI below G x r args s 2) 0 0 0 [(0, .ref (G.2.2 i0)), (1, .int v1), (2, .int v2), (3, .int v3)] [] x := by
  unfold fX6_ask_b0 at hf
  refine b_iload_n C dX6_ask_0 rfl 1 rfl ?_
  refine b_iload_n C dX6_ask_1 rfl 2 rfl ?_
  refine b_iload_n C dX6_ask_2 rfl 3 rfl ?_
  obtain ⟨r3, c3, hf⟩ := oB hf
  refine b_xcSv (As := [.int v1, .int v2, .int v3]) (res := Sum.map id (fun _ => x) r3) (mc1 := 2) (bad := fun k => r = .inl k) C X (metX6_checkAsking l G _ _ _ _ _ c3 X.1) gkX6_42 ekX6_42 rfl ⟨rfl, rfl⟩ ⟨Nat.le_of_ble_eq_true rfl, Nat.le_of_ble_eq_true rfl⟩ (by simp [Value.category]) ⟨Nat.le_of_ble_eq_true rfl, Nat.le_of_ble_eq_true rfl⟩ ⟨Nat.le_of_ble_eq_true rfl, Nat.le_of_ble_eq_true rfl⟩ rfl dX6_ask_3 (fun j hj => ?_) (fun u hu => ?_)
  · cases r3 with
    | inr w => cases hj
    | inl j1 =>
      cases hj
      exact (Option.some.inj hf).symm
  · cases r3 with
    | inl j1 => cases hu
    | inr w =>
      cases hu
      refine b_aload_n C dX6_ask_6 rfl 0 rfl ?_
      obtain ⟨r7, c7, hf⟩ := oB hf
      refine b_callVv (K := 6) (As := []) (res := r7) C (metX6_saveState l G _ _ _ hk0 c7) hk0 (by decide) rfl gkX6_46 ekX6_46 rfl ⟨rfl, rfl⟩ ⟨Nat.le_of_ble_eq_true rfl, Nat.le_of_ble_eq_true rfl⟩ (by simp [Value.category]) ⟨Nat.le_of_ble_eq_true rfl, Nat.le_of_ble_eq_true rfl⟩ rfl dX6_ask_7 ?_
      refine b_aload_n C dX6_ask_10 rfl 0 rfl ?_
      refine gfX6_10 C hk0 dX6_ask_11 ?_
      refine b_iload_n C dX6_ask_14 rfl 1 rfl ?_
      refine b_iload_n C dX6_ask_15 rfl 2 rfl ?_
      refine b_iload_n C dX6_ask_16 rfl 3 rfl ?_
      obtain ⟨r17, c17, hf⟩ := oB hf
      refine b_callVi (K := 3) (As := [.int v1, .int v2, .int v3]) (res := r17) C (metX3_takeAsking l G _ _ _ _ _ _ ((kd6 C.cl hk0).1) c17) ((kd6 C.cl hk0).1) (by decide) rfl gkX6_49 ekX6_49 rfl ⟨rfl, rfl⟩ ⟨Nat.le_of_ble_eq_true rfl, Nat.le_of_ble_eq_true rfl⟩ (by simp [Value.category]) ⟨Nat.le_of_ble_eq_true rfl, Nat.le_of_ble_eq_true rfl⟩ rfl dX6_ask_17 ?_
      exact b_xiret C dX6_ask_20 hf ⟨Nat.le_of_ble_eq_true rfl, Nat.le_of_ble_eq_true rfl⟩
end
theorem metX6_ask (l : Launch) (G : gT) (i0 : Nat) (v1 : Int32) (v2 : Int32) (v3 : Int32) (x : xS) (r : (Sum Nat (Int32 × xS))) (hk0 : KD G i0 6) (hf : fX6_ask i0 v1 v2 v3 x = some r) (hl : l.stackTraces = false) : xI l yX6_ask cX6_ask 4 (.int) rX6_ask 2 [.ref (G.2.2 i0), .int v1, .int v2, .int v3] G x r :=
  b_bodyX (by decide) hl (Nat.le_of_ble_eq_true rfl) rfl (fun p e s m args below meth c C X => wX6_ask_b0 C X hk0  hf)
-- X6_checkRange
abbrev rX6_checkRange : Room := { frames := 6, cells := 1, slots := 6, locals := 82 }
def fX6_checkRange_b0 (v0 : Int32) (v1 : Int32) (v2 : Int32) (x : xS)  : Option (Sum Nat Unit) :=
  (if v0 < v1 then
  some (Sum.inl 2)
  else
  (if v0 ≤ v2 then
  some (Sum.inr ())
  else
  some (Sum.inl 2)))
def fX6_checkRange (v0 : Int32) (v1 : Int32) (v2 : Int32) (x : xS) : Option (Sum Nat Unit) := fX6_checkRange_b0 v0 v1 v2 x
section
variable {p : Program} {l : Launch} {e : Env} {R : Room} {s : State} {m : MethodId} {args : Array Value} {below : List Frame} {meth : Method} {c : Code} {G : gT}
set_option maxHeartbeats 4000000 in
set_option maxRecDepth 100000 in
theorem wX6_checkRange_b0 (C : CT p s m args meth c cX6_checkRange 3 RX6 none G (pA G s.heap.size)) (X : XT l c (pA G s.heap.size) s) {v0 : Int32} {v1 : Int32} {v2 : Int32} {x : xS}  {r : (Sum Nat Unit)}  (hf : fX6_checkRange_b0 v0 v1 v2 x  = some r) : WB p l e rX6_checkRange s m args below meth c 3 G (pA G s.heap.size) (qxV below G x (Sum.map id (fun _ => x) r) args s 1) 0 0 0 [(0, .int v0), (1, .int v1), (2, .int v2)] [] x := by
  unfold fX6_checkRange_b0 at hf
  refine b_iload_n C dX6_checkRange_0 rfl 0 rfl ?_
  refine b_iload_n C dX6_checkRange_1 rfl 1 rfl ?_
  refine b_icmp_lt (tgt := 10) C dX6_checkRange_2 (by decide) (fun c2 => ?_) (fun c2 => ?_)
  · have hf := iT c2 hf
    exact b_thr2 C X w_518 w_519 X.2.2.2.2.s234 ((Option.some.inj (congrArg (Option.map (Sum.map id (fun _ => x))) hf)).symm) dX6_checkRange_10 dX6_checkRange_13 dX6_checkRange_14 dX6_checkRange_16 dX6_checkRange_19 ⟨Nat.le_of_ble_eq_true rfl, Nat.le_of_ble_eq_true rfl⟩ ⟨Nat.le_of_ble_eq_true rfl, Nat.le_of_ble_eq_true rfl⟩ ⟨Nat.le_of_ble_eq_true rfl, Nat.le_of_ble_eq_true rfl⟩
  · have hf := iF c2 hf
    refine b_iload_n C dX6_checkRange_5 rfl 0 rfl ?_
    refine b_iload_n C dX6_checkRange_6 rfl 2 rfl ?_
    refine b_icmp_le (tgt := 20) C dX6_checkRange_7 (by decide) (fun c7 => ?_) (fun c7 => ?_)
    · have hf := iT c7 hf
      exact b_xvret C dX6_checkRange_20 (congrArg (Option.map (Sum.map id (fun _ => x))) hf) ⟨Nat.le_of_ble_eq_true rfl, Nat.le_of_ble_eq_true rfl⟩
    · have hf := iF c7 hf
      exact b_thr2 C X w_518 w_519 X.2.2.2.2.s234 ((Option.some.inj (congrArg (Option.map (Sum.map id (fun _ => x))) hf)).symm) dX6_checkRange_10 dX6_checkRange_13 dX6_checkRange_14 dX6_checkRange_16 dX6_checkRange_19 ⟨Nat.le_of_ble_eq_true rfl, Nat.le_of_ble_eq_true rfl⟩ ⟨Nat.le_of_ble_eq_true rfl, Nat.le_of_ble_eq_true rfl⟩ ⟨Nat.le_of_ble_eq_true rfl, Nat.le_of_ble_eq_true rfl⟩
end
theorem metX6_checkRange (l : Launch) (G : gT) (v0 : Int32) (v1 : Int32) (v2 : Int32) (x : xS) (r : (Sum Nat Unit))  (hf : fX6_checkRange v0 v1 v2 x = some r) (hl : l.stackTraces = false) : xV l yX6_checkRange cX6_checkRange 3 rX6_checkRange 1 [.int v0, .int v1, .int v2] G x (Sum.map id (fun _ => x) r) :=
  b_bodyX (by decide) hl (Nat.le_of_ble_eq_true rfl) rfl (fun p e s m args below meth c C X => wX6_checkRange_b0 C X   hf)
-- X6_checkHour
abbrev rX6_checkHour : Room := { frames := 7, cells := 1, slots := 6, locals := 104 }
def fX6_checkHour_b0 (v0 : Int32) (x : xS)  : Option (Sum Nat Unit) :=
  Option.bind (fX6_checkRange v0 0 11 x) (fun r4 => match r4 with
  | Sum.inl j => some (Sum.inl j)
  | Sum.inr _ =>
  some (Sum.inr ()))
def fX6_checkHour (v0 : Int32) (x : xS) : Option (Sum Nat Unit) := fX6_checkHour_b0 v0 x
section
variable {p : Program} {l : Launch} {e : Env} {R : Room} {s : State} {m : MethodId} {args : Array Value} {below : List Frame} {meth : Method} {c : Code} {G : gT}
set_option maxHeartbeats 4000000 in
set_option maxRecDepth 100000 in
theorem wX6_checkHour_b0 (C : CT p s m args meth c cX6_checkHour 1 RX6 none G (pA G s.heap.size)) (X : XT l c (pA G s.heap.size) s) {v0 : Int32} {x : xS}  {r : (Sum Nat Unit)}  (hf : fX6_checkHour_b0 v0 x  = some r) : WB p l e rX6_checkHour s m args below meth c 1 G (pA G s.heap.size) (qxV below G x (Sum.map id (fun _ => x) r) args s 1) 0 0 0 [(0, .int v0)] [] x := by
  unfold fX6_checkHour_b0 at hf
  refine b_iload_n C dX6_checkHour_0 rfl 0 rfl ?_
  refine b_iconst (v := 0) C dX6_checkHour_1 (by decide) ?_
  refine b_bipush (v := 11) C dX6_checkHour_2 (by decide) ?_
  obtain ⟨r4, c4, hf⟩ := oB hf
  refine b_xcSv (As := [.int v0, .int 0, .int 11]) (res := Sum.map id (fun _ => x) r4) (mc1 := 1) (bad := fun k => (Sum.map id (fun _ => x) r) = .inl k) C X (metX6_checkRange l G _ _ _ _ _ c4 X.1) gkX6_160 ekX6_160 rfl ⟨rfl, rfl⟩ ⟨Nat.le_of_ble_eq_true rfl, Nat.le_of_ble_eq_true rfl⟩ (by simp [Value.category]) ⟨Nat.le_of_ble_eq_true rfl, Nat.le_of_ble_eq_true rfl⟩ ⟨Nat.le_of_ble_eq_true rfl, Nat.le_of_ble_eq_true rfl⟩ rfl dX6_checkHour_4 (fun j hj => ?_) (fun u hu => ?_)
  · cases r4 with
    | inr w => cases hj
    | inl j1 =>
      cases hj
      exact (Option.some.inj (congrArg (Option.map (Sum.map id (fun _ => x))) hf)).symm
  · cases r4 with
    | inl j1 => cases hu
    | inr w =>
      cases hu
      exact b_xvret C dX6_checkHour_7 (congrArg (Option.map (Sum.map id (fun _ => x))) hf) ⟨Nat.le_of_ble_eq_true rfl, Nat.le_of_ble_eq_true rfl⟩
end
theorem metX6_checkHour (l : Launch) (G : gT) (v0 : Int32) (x : xS) (r : (Sum Nat Unit))  (hf : fX6_checkHour v0 x = some r) (hl : l.stackTraces = false) : xV l yX6_checkHour cX6_checkHour 1 rX6_checkHour 1 [.int v0] G x (Sum.map id (fun _ => x) r) :=
  b_bodyX (by decide) hl (Nat.le_of_ble_eq_true rfl) rfl (fun p e s m args below meth c C X => wX6_checkHour_b0 C X   hf)
-- X6_at
abbrev rX6_at : Room := { frames := 8, cells := 2, slots := 12, locals := 124 }
def fX6_at_b0 (i0 : Nat) (v1 : Int32) (v2 : Int32) (x : xS)  : Option (Sum Nat Int32) :=
  (if v1 < 0 then
  some (Sum.inl 1)
  else
  (if v1 < 4 then
  Option.bind (fX6_checkHour v2 x) (fun r20 => match r20 with
  | Sum.inl j => some (Sum.inl j)
  | Sum.inr _ =>
  Option.bind (fX4_holder ((i0 + 1) + 1) v1 v2 x) (fun r32 =>
  some (Sum.inr r32)))
  else
  some (Sum.inl 1)))
def fX6_at (i0 : Nat) (v1 : Int32) (v2 : Int32) (x : xS) : Option (Sum Nat Int32) := fX6_at_b0 i0 v1 v2 x
section
variable {p : Program} {l : Launch} {e : Env} {R : Room} {s : State} {m : MethodId} {args : Array Value} {below : List Frame} {meth : Method} {c : Code} {G : gT}
set_option maxHeartbeats 4000000 in
set_option maxRecDepth 100000 in
theorem wX6_at_b0 (C : CT p s m args meth c cX6_at 3 RX6 (some (.int)) G (pA G s.heap.size)) (X : XT l c (pA G s.heap.size) s) {i0 : Nat} {v1 : Int32} {v2 : Int32} {x : xS}  {r : (Sum Nat Int32)} (hk0 : KD G i0 6) (hf : fX6_at_b0 i0 v1 v2 x  = some r) : WB p l e rX6_at s m args below meth c 3 G (pA G s.heap.size) (qxI below G x (Sum.map id (fun v => (v, x)) r) args s 2) 0 0 0 [(0, .ref (G.2.2 i0)), (1, .int v1), (2, .int v2)] [] x := by
  unfold fX6_at_b0 at hf
  refine b_iload_n C dX6_at_0 rfl 1 rfl ?_
  refine b_if_lt (tgt := 9) C dX6_at_1 (by decide) (fun c1 => ?_) (fun c1 => ?_)
  · have hf := iT c1 hf
    exact b_thr1 C X w_530 w_531 X.2.2.2.2.s148 ((Option.some.inj (congrArg (Option.map (Sum.map id (fun v => (v, x)))) hf)).symm) dX6_at_9 dX6_at_12 dX6_at_13 dX6_at_15 dX6_at_18 ⟨Nat.le_of_ble_eq_true rfl, Nat.le_of_ble_eq_true rfl⟩ ⟨Nat.le_of_ble_eq_true rfl, Nat.le_of_ble_eq_true rfl⟩ ⟨Nat.le_of_ble_eq_true rfl, Nat.le_of_ble_eq_true rfl⟩
  · have hf := iF c1 hf
    refine b_iload_n C dX6_at_4 rfl 1 rfl ?_
    refine b_iconst (v := 4) C dX6_at_5 (by decide) ?_
    refine b_icmp_lt (tgt := 19) C dX6_at_6 (by decide) (fun c6 => ?_) (fun c6 => ?_)
    · have hf := iT c6 hf
      refine b_iload_n C dX6_at_19 rfl 2 rfl ?_
      obtain ⟨r20, c20, hf⟩ := oB hf
      refine b_xcSv (As := [.int v2]) (res := Sum.map id (fun _ => x) r20) (mc1 := 1) (bad := fun k => (Sum.map id (fun v => (v, x)) r) = .inl k) C X (metX6_checkHour l G _ _ _ c20 X.1) gkX6_56 ekX6_56 rfl ⟨rfl, rfl⟩ ⟨Nat.le_of_ble_eq_true rfl, Nat.le_of_ble_eq_true rfl⟩ (by simp [Value.category]) ⟨Nat.le_of_ble_eq_true rfl, Nat.le_of_ble_eq_true rfl⟩ ⟨Nat.le_of_ble_eq_true rfl, Nat.le_of_ble_eq_true rfl⟩ rfl dX6_at_20 (fun j hj => ?_) (fun u hu => ?_)
      · cases r20 with
        | inr w => cases hj
        | inl j1 =>
          cases hj
          exact (Option.some.inj (congrArg (Option.map (Sum.map id (fun v => (v, x)))) hf)).symm
      · cases r20 with
        | inl j1 => cases hu
        | inr w =>
          cases hu
          refine b_aload_n C dX6_at_23 rfl 0 rfl ?_
          refine gfX6_10 C hk0 dX6_at_24 ?_
          refine gfX6_151 C ((kd6 C.cl hk0).1) dX6_at_27 ?_
          refine b_iload_n C dX6_at_30 rfl 1 rfl ?_
          refine b_iload_n C dX6_at_31 rfl 2 rfl ?_
          obtain ⟨r32, c32, hf⟩ := oB hf
          refine b_callVi (K := 4) (As := [.int v1, .int v2]) (res := (r32, x)) C (metX4_holder l G _ _ _ _ _ ((kd3 C.cl ((kd6 C.cl hk0).1)).1) c32) ((kd3 C.cl ((kd6 C.cl hk0).1)).1) (by decide) rfl gkX6_155 ekX6_155 rfl ⟨rfl, rfl⟩ ⟨Nat.le_of_ble_eq_true rfl, Nat.le_of_ble_eq_true rfl⟩ (by simp [Value.category]) ⟨Nat.le_of_ble_eq_true rfl, Nat.le_of_ble_eq_true rfl⟩ rfl dX6_at_32 ?_
          exact b_xiret C dX6_at_35 (congrArg (Option.map (Sum.map id (fun v => (v, x)))) hf) ⟨Nat.le_of_ble_eq_true rfl, Nat.le_of_ble_eq_true rfl⟩
    · have hf := iF c6 hf
      exact b_thr1 C X w_530 w_531 X.2.2.2.2.s148 ((Option.some.inj (congrArg (Option.map (Sum.map id (fun v => (v, x)))) hf)).symm) dX6_at_9 dX6_at_12 dX6_at_13 dX6_at_15 dX6_at_18 ⟨Nat.le_of_ble_eq_true rfl, Nat.le_of_ble_eq_true rfl⟩ ⟨Nat.le_of_ble_eq_true rfl, Nat.le_of_ble_eq_true rfl⟩ ⟨Nat.le_of_ble_eq_true rfl, Nat.le_of_ble_eq_true rfl⟩
end
theorem metX6_at (l : Launch) (G : gT) (i0 : Nat) (v1 : Int32) (v2 : Int32) (x : xS) (r : (Sum Nat Int32)) (hk0 : KD G i0 6) (hf : fX6_at i0 v1 v2 x = some r) (hl : l.stackTraces = false) : xI l yX6_at cX6_at 3 (.int) rX6_at 2 [.ref (G.2.2 i0), .int v1, .int v2] G x (Sum.map id (fun v => (v, x)) r) :=
  b_bodyX (by decide) hl (Nat.le_of_ble_eq_true rfl) rfl (fun p e s m args below meth c C X => wX6_at_b0 C X hk0  hf)
-- X6_checkNeed
abbrev rX6_checkNeed : Room := { frames := 7, cells := 1, slots := 6, locals := 104 }
def fX6_checkNeed_b0 (v0 : Int32) (x : xS)  : Option (Sum Nat Unit) :=
  Option.bind (fX6_checkRange v0 0 9 x) (fun r4 => match r4 with
  | Sum.inl j => some (Sum.inl j)
  | Sum.inr _ =>
  some (Sum.inr ()))
def fX6_checkNeed (v0 : Int32) (x : xS) : Option (Sum Nat Unit) := fX6_checkNeed_b0 v0 x
section
variable {p : Program} {l : Launch} {e : Env} {R : Room} {s : State} {m : MethodId} {args : Array Value} {below : List Frame} {meth : Method} {c : Code} {G : gT}
set_option maxHeartbeats 4000000 in
set_option maxRecDepth 100000 in
theorem wX6_checkNeed_b0 (C : CT p s m args meth c cX6_checkNeed 1 RX6 none G (pA G s.heap.size)) (X : XT l c (pA G s.heap.size) s) {v0 : Int32} {x : xS}  {r : (Sum Nat Unit)}  (hf : fX6_checkNeed_b0 v0 x  = some r) : WB p l e rX6_checkNeed s m args below meth c 1 G (pA G s.heap.size) (qxV below G x (Sum.map id (fun _ => x) r) args s 1) 0 0 0 [(0, .int v0)] [] x := by
  unfold fX6_checkNeed_b0 at hf
  refine b_iload_n C dX6_checkNeed_0 rfl 0 rfl ?_
  refine b_iconst (v := 0) C dX6_checkNeed_1 (by decide) ?_
  refine b_bipush (v := 9) C dX6_checkNeed_2 (by decide) ?_
  obtain ⟨r4, c4, hf⟩ := oB hf
  refine b_xcSv (As := [.int v0, .int 0, .int 9]) (res := Sum.map id (fun _ => x) r4) (mc1 := 1) (bad := fun k => (Sum.map id (fun _ => x) r) = .inl k) C X (metX6_checkRange l G _ _ _ _ _ c4 X.1) gkX6_160 ekX6_160 rfl ⟨rfl, rfl⟩ ⟨Nat.le_of_ble_eq_true rfl, Nat.le_of_ble_eq_true rfl⟩ (by simp [Value.category]) ⟨Nat.le_of_ble_eq_true rfl, Nat.le_of_ble_eq_true rfl⟩ ⟨Nat.le_of_ble_eq_true rfl, Nat.le_of_ble_eq_true rfl⟩ rfl dX6_checkNeed_4 (fun j hj => ?_) (fun u hu => ?_)
  · cases r4 with
    | inr w => cases hj
    | inl j1 =>
      cases hj
      exact (Option.some.inj (congrArg (Option.map (Sum.map id (fun _ => x))) hf)).symm
  · cases r4 with
    | inl j1 => cases hu
    | inr w =>
      cases hu
      exact b_xvret C dX6_checkNeed_7 (congrArg (Option.map (Sum.map id (fun _ => x))) hf) ⟨Nat.le_of_ble_eq_true rfl, Nat.le_of_ble_eq_true rfl⟩
end
theorem metX6_checkNeed (l : Launch) (G : gT) (v0 : Int32) (x : xS) (r : (Sum Nat Unit))  (hf : fX6_checkNeed v0 x = some r) (hl : l.stackTraces = false) : xV l yX6_checkNeed cX6_checkNeed 1 rX6_checkNeed 1 [.int v0] G x (Sum.map id (fun _ => x) r) :=
  b_bodyX (by decide) hl (Nat.le_of_ble_eq_true rfl) rfl (fun p e s m args below meth c C X => wX6_checkNeed_b0 C X   hf)
-- X6_checkSlot
abbrev rX6_checkSlot : Room := { frames := 7, cells := 1, slots := 6, locals := 104 }
def fX6_checkSlot_b0 (v0 : Int32) (x : xS)  : Option (Sum Nat Unit) :=
  Option.bind (fX6_checkRange v0 0 1 x) (fun r3 => match r3 with
  | Sum.inl j => some (Sum.inl j)
  | Sum.inr _ =>
  some (Sum.inr ()))
def fX6_checkSlot (v0 : Int32) (x : xS) : Option (Sum Nat Unit) := fX6_checkSlot_b0 v0 x
section
variable {p : Program} {l : Launch} {e : Env} {R : Room} {s : State} {m : MethodId} {args : Array Value} {below : List Frame} {meth : Method} {c : Code} {G : gT}
set_option maxHeartbeats 4000000 in
set_option maxRecDepth 100000 in
theorem wX6_checkSlot_b0 (C : CT p s m args meth c cX6_checkSlot 1 RX6 none G (pA G s.heap.size)) (X : XT l c (pA G s.heap.size) s) {v0 : Int32} {x : xS}  {r : (Sum Nat Unit)}  (hf : fX6_checkSlot_b0 v0 x  = some r) : WB p l e rX6_checkSlot s m args below meth c 1 G (pA G s.heap.size) (qxV below G x (Sum.map id (fun _ => x) r) args s 1) 0 0 0 [(0, .int v0)] [] x := by
  unfold fX6_checkSlot_b0 at hf
  refine b_iload_n C dX6_checkSlot_0 rfl 0 rfl ?_
  refine b_iconst (v := 0) C dX6_checkSlot_1 (by decide) ?_
  refine b_iconst (v := 1) C dX6_checkSlot_2 (by decide) ?_
  obtain ⟨r3, c3, hf⟩ := oB hf
  refine b_xcSv (As := [.int v0, .int 0, .int 1]) (res := Sum.map id (fun _ => x) r3) (mc1 := 1) (bad := fun k => (Sum.map id (fun _ => x) r) = .inl k) C X (metX6_checkRange l G _ _ _ _ _ c3 X.1) gkX6_160 ekX6_160 rfl ⟨rfl, rfl⟩ ⟨Nat.le_of_ble_eq_true rfl, Nat.le_of_ble_eq_true rfl⟩ (by simp [Value.category]) ⟨Nat.le_of_ble_eq_true rfl, Nat.le_of_ble_eq_true rfl⟩ ⟨Nat.le_of_ble_eq_true rfl, Nat.le_of_ble_eq_true rfl⟩ rfl dX6_checkSlot_3 (fun j hj => ?_) (fun u hu => ?_)
  · cases r3 with
    | inr w => cases hj
    | inl j1 =>
      cases hj
      exact (Option.some.inj (congrArg (Option.map (Sum.map id (fun _ => x))) hf)).symm
  · cases r3 with
    | inl j1 => cases hu
    | inr w =>
      cases hu
      exact b_xvret C dX6_checkSlot_6 (congrArg (Option.map (Sum.map id (fun _ => x))) hf) ⟨Nat.le_of_ble_eq_true rfl, Nat.le_of_ble_eq_true rfl⟩
end
theorem metX6_checkSlot (l : Launch) (G : gT) (v0 : Int32) (x : xS) (r : (Sum Nat Unit))  (hf : fX6_checkSlot v0 x = some r) (hl : l.stackTraces = false) : xV l yX6_checkSlot cX6_checkSlot 1 rX6_checkSlot 1 [.int v0] G x (Sum.map id (fun _ => x) r) :=
  b_bodyX (by decide) hl (Nat.le_of_ble_eq_true rfl) rfl (fun p e s m args below meth c C X => wX6_checkSlot_b0 C X   hf)
-- X6_count
abbrev rX6_count : Room := { frames := 7, cells := 1, slots := 6, locals := 109 }
def fX6_count_b0 (i0 : Nat) (v1 : Int32) (x : xS)  : Option (Sum Nat Int32) :=
  Option.bind (fX6_checkRange v1 0 11 x) (fun r4 => match r4 with
  | Sum.inl j => some (Sum.inl j)
  | Sum.inr _ =>
  Option.bind (fX6_accountOf i0 v1 x) (fun r9 =>
  some (Sum.inr r9)))
def fX6_count (i0 : Nat) (v1 : Int32) (x : xS) : Option (Sum Nat Int32) := fX6_count_b0 i0 v1 x
section
variable {p : Program} {l : Launch} {e : Env} {R : Room} {s : State} {m : MethodId} {args : Array Value} {below : List Frame} {meth : Method} {c : Code} {G : gT}
set_option maxHeartbeats 4000000 in
set_option maxRecDepth 100000 in
theorem wX6_count_b0 (C : CT p s m args meth c cX6_count 2 RX6 (some (.int)) G (pA G s.heap.size)) (X : XT l c (pA G s.heap.size) s) {i0 : Nat} {v1 : Int32} {x : xS}  {r : (Sum Nat Int32)} (hk0 : KD G i0 6) (hf : fX6_count_b0 i0 v1 x  = some r) : WB p l e rX6_count s m args below meth c 2 G (pA G s.heap.size) (qxI below G x (Sum.map id (fun v => (v, x)) r) args s 1) 0 0 0 [(0, .ref (G.2.2 i0)), (1, .int v1)] [] x := by
  unfold fX6_count_b0 at hf
  refine b_iload_n C dX6_count_0 rfl 1 rfl ?_
  refine b_iconst (v := 0) C dX6_count_1 (by decide) ?_
  refine b_bipush (v := 11) C dX6_count_2 (by decide) ?_
  obtain ⟨r4, c4, hf⟩ := oB hf
  refine b_xcSv (As := [.int v1, .int 0, .int 11]) (res := Sum.map id (fun _ => x) r4) (mc1 := 1) (bad := fun k => (Sum.map id (fun v => (v, x)) r) = .inl k) C X (metX6_checkRange l G _ _ _ _ _ c4 X.1) gkX6_160 ekX6_160 rfl ⟨rfl, rfl⟩ ⟨Nat.le_of_ble_eq_true rfl, Nat.le_of_ble_eq_true rfl⟩ (by simp [Value.category]) ⟨Nat.le_of_ble_eq_true rfl, Nat.le_of_ble_eq_true rfl⟩ ⟨Nat.le_of_ble_eq_true rfl, Nat.le_of_ble_eq_true rfl⟩ rfl dX6_count_4 (fun j hj => ?_) (fun u hu => ?_)
  · cases r4 with
    | inr w => cases hj
    | inl j1 =>
      cases hj
      exact (Option.some.inj (congrArg (Option.map (Sum.map id (fun v => (v, x)))) hf)).symm
  · cases r4 with
    | inl j1 => cases hu
    | inr w =>
      cases hu
      refine b_aload_n C dX6_count_7 rfl 0 rfl ?_
      refine b_iload_n C dX6_count_8 rfl 1 rfl ?_
      obtain ⟨r9, c9, hf⟩ := oB hf
      refine b_callVi (K := 6) (As := [.int v1]) (res := (r9, x)) C (metX6_accountOf l G _ _ _ _ hk0 c9) hk0 (by decide) rfl gkX6_166 ekX6_166 rfl ⟨rfl, rfl⟩ ⟨Nat.le_of_ble_eq_true rfl, Nat.le_of_ble_eq_true rfl⟩ (by simp [Value.category]) ⟨Nat.le_of_ble_eq_true rfl, Nat.le_of_ble_eq_true rfl⟩ rfl dX6_count_9 ?_
      exact b_xiret C dX6_count_12 (congrArg (Option.map (Sum.map id (fun v => (v, x)))) hf) ⟨Nat.le_of_ble_eq_true rfl, Nat.le_of_ble_eq_true rfl⟩
end
theorem metX6_count (l : Launch) (G : gT) (i0 : Nat) (v1 : Int32) (x : xS) (r : (Sum Nat Int32)) (hk0 : KD G i0 6) (hf : fX6_count i0 v1 x = some r) (hl : l.stackTraces = false) : xI l yX6_count cX6_count 2 (.int) rX6_count 1 [.ref (G.2.2 i0), .int v1] G x (Sum.map id (fun v => (v, x)) r) :=
  b_bodyX (by decide) hl (Nat.le_of_ble_eq_true rfl) rfl (fun p e s m args below meth c C X => wX6_count_b0 C X hk0  hf)
-- X6_favour
abbrev rX6_favour : Room := { frames := 7, cells := 1, slots := 6, locals := 146 }
def fX6_favour_b0 (i0 : Nat) (v1 : Int32) (x : xS) : Option (Sum Nat (Int32 × xS)) :=
  Option.bind (fX6_checkLodger v1 x) (fun r1 => match r1 with
  | Sum.inl j => some (Sum.inl j)
  | Sum.inr _ =>
  Option.bind (fX6_saveState i0 x) (fun r5 =>
  Option.bind (fX3_giveFavour (i0 + 1) v1 r5) (fun r13 =>
  some (Sum.inr (r13.1, r13.2)))))
def fX6_favour (i0 : Nat) (v1 : Int32) (x : xS) : Option (Sum Nat (Int32 × xS)) := fX6_favour_b0 i0 v1 x
section
variable {p : Program} {l : Launch} {e : Env} {R : Room} {s : State} {m : MethodId} {args : Array Value} {below : List Frame} {meth : Method} {c : Code} {G : gT}
set_option maxHeartbeats 4000000 in
set_option maxRecDepth 100000 in
theorem wX6_favour_b0 (C : CT p s m args meth c cX6_favour 2 RX6 (some (.int)) G (pA G s.heap.size)) (X : XT l c (pA G s.heap.size) s) {i0 : Nat} {v1 : Int32} {x : xS} {r : (Sum Nat (Int32 × xS))} (hk0 : KD G i0 6) (hf : fX6_favour_b0 i0 v1 x = some r) : WB p l e rX6_favour s m args below meth c 2 G (pA G s.heap.size) (qxI below G x r args s 1) 0 0 0 [(0, .ref (G.2.2 i0)), (1, .int v1)] [] x := by
  unfold fX6_favour_b0 at hf
  refine b_iload_n C dX6_favour_0 rfl 1 rfl ?_
  obtain ⟨r1, c1, hf⟩ := oB hf
  refine b_xcSv (As := [.int v1]) (res := Sum.map id (fun _ => x) r1) (mc1 := 1) (bad := fun k => r = .inl k) C X (metX6_checkLodger l G _ _ _ c1 X.1) gkX6_53 ekX6_53 rfl ⟨rfl, rfl⟩ ⟨Nat.le_of_ble_eq_true rfl, Nat.le_of_ble_eq_true rfl⟩ (by simp [Value.category]) ⟨Nat.le_of_ble_eq_true rfl, Nat.le_of_ble_eq_true rfl⟩ ⟨Nat.le_of_ble_eq_true rfl, Nat.le_of_ble_eq_true rfl⟩ rfl dX6_favour_1 (fun j hj => ?_) (fun u hu => ?_)
  · cases r1 with
    | inr w => cases hj
    | inl j1 =>
      cases hj
      exact (Option.some.inj hf).symm
  · cases r1 with
    | inl j1 => cases hu
    | inr w =>
      cases hu
      refine b_aload_n C dX6_favour_4 rfl 0 rfl ?_
      obtain ⟨r5, c5, hf⟩ := oB hf
      refine b_callVv (K := 6) (As := []) (res := r5) C (metX6_saveState l G _ _ _ hk0 c5) hk0 (by decide) rfl gkX6_46 ekX6_46 rfl ⟨rfl, rfl⟩ ⟨Nat.le_of_ble_eq_true rfl, Nat.le_of_ble_eq_true rfl⟩ (by simp [Value.category]) ⟨Nat.le_of_ble_eq_true rfl, Nat.le_of_ble_eq_true rfl⟩ rfl dX6_favour_5 ?_
      refine b_aload_n C dX6_favour_8 rfl 0 rfl ?_
      refine gfX6_10 C hk0 dX6_favour_9 ?_
      refine b_iload_n C dX6_favour_12 rfl 1 rfl ?_
      obtain ⟨r13, c13, hf⟩ := oB hf
      refine b_callVi (K := 3) (As := [.int v1]) (res := r13) C (metX3_giveFavour l G _ _ _ _ ((kd6 C.cl hk0).1) c13) ((kd6 C.cl hk0).1) (by decide) rfl gkX6_63 ekX6_63 rfl ⟨rfl, rfl⟩ ⟨Nat.le_of_ble_eq_true rfl, Nat.le_of_ble_eq_true rfl⟩ (by simp [Value.category]) ⟨Nat.le_of_ble_eq_true rfl, Nat.le_of_ble_eq_true rfl⟩ rfl dX6_favour_13 ?_
      exact b_xiret C dX6_favour_16 hf ⟨Nat.le_of_ble_eq_true rfl, Nat.le_of_ble_eq_true rfl⟩
end
theorem metX6_favour (l : Launch) (G : gT) (i0 : Nat) (v1 : Int32) (x : xS) (r : (Sum Nat (Int32 × xS))) (hk0 : KD G i0 6) (hf : fX6_favour i0 v1 x = some r) (hl : l.stackTraces = false) : xI l yX6_favour cX6_favour 2 (.int) rX6_favour 1 [.ref (G.2.2 i0), .int v1] G x r :=
  b_bodyX (by decide) hl (Nat.le_of_ble_eq_true rfl) rfl (fun p e s m args below meth c C X => wX6_favour_b0 C X hk0  hf)
-- X6_fewestBeds
abbrev rX6_fewestBeds : Room := { frames := 7, cells := 1, slots := 6, locals := 104 }
def fX6_fewestBeds_b0 (i0 : Nat) (v1 : Int32) (x : xS) : Option (Sum Nat (Int32 × xS)) :=
  Option.bind (fX6_checkRange v1 0 1 x) (fun r3 => match r3 with
  | Sum.inl j => some (Sum.inl j)
  | Sum.inr _ =>
  (if v1 = 0 then
  Option.bind (fX1_bedsFor (i0 + 97) ((i0 + 1) + 1) x) (fun r21 =>
  some (Sum.inr (r21.1, r21.2)))
  else
  Option.bind (fX4_mostLentBeds ((i0 + 1) + 1) x) (fun r34 =>
  some (Sum.inr (r34, x)))))
def fX6_fewestBeds (i0 : Nat) (v1 : Int32) (x : xS) : Option (Sum Nat (Int32 × xS)) := fX6_fewestBeds_b0 i0 v1 x
section
variable {p : Program} {l : Launch} {e : Env} {R : Room} {s : State} {m : MethodId} {args : Array Value} {below : List Frame} {meth : Method} {c : Code} {G : gT}
set_option maxHeartbeats 4000000 in
set_option maxRecDepth 100000 in
theorem wX6_fewestBeds_b0 (C : CT p s m args meth c cX6_fewestBeds 2 RX6 (some (.int)) G (pA G s.heap.size)) (X : XT l c (pA G s.heap.size) s) {i0 : Nat} {v1 : Int32} {x : xS} {r : (Sum Nat (Int32 × xS))} (hk0 : KD G i0 6) (hf : fX6_fewestBeds_b0 i0 v1 x = some r) : WB p l e rX6_fewestBeds s m args below meth c 2 G (pA G s.heap.size) (qxI below G x r args s 1) 0 0 0 [(0, .ref (G.2.2 i0)), (1, .int v1)] [] x := by
  unfold fX6_fewestBeds_b0 at hf
  refine b_iload_n C dX6_fewestBeds_0 rfl 1 rfl ?_
  refine b_iconst (v := 0) C dX6_fewestBeds_1 (by decide) ?_
  refine b_iconst (v := 1) C dX6_fewestBeds_2 (by decide) ?_
  obtain ⟨r3, c3, hf⟩ := oB hf
  refine b_xcSv (As := [.int v1, .int 0, .int 1]) (res := Sum.map id (fun _ => x) r3) (mc1 := 1) (bad := fun k => r = .inl k) C X (metX6_checkRange l G _ _ _ _ _ c3 X.1) gkX6_160 ekX6_160 rfl ⟨rfl, rfl⟩ ⟨Nat.le_of_ble_eq_true rfl, Nat.le_of_ble_eq_true rfl⟩ (by simp [Value.category]) ⟨Nat.le_of_ble_eq_true rfl, Nat.le_of_ble_eq_true rfl⟩ ⟨Nat.le_of_ble_eq_true rfl, Nat.le_of_ble_eq_true rfl⟩ rfl dX6_fewestBeds_3 (fun j hj => ?_) (fun u hu => ?_)
  · cases r3 with
    | inr w => cases hj
    | inl j1 =>
      cases hj
      exact (Option.some.inj hf).symm
  · cases r3 with
    | inl j1 => cases hu
    | inr w =>
      cases hu
      refine b_iload_n C dX6_fewestBeds_6 rfl 1 rfl ?_
      refine b_if_ne (tgt := 27) C dX6_fewestBeds_7 (by decide) (fun c7 => ?_) (fun c7 => ?_)
      · have hf := iF c7 hf
        refine b_aload_n C dX6_fewestBeds_27 rfl 0 rfl ?_
        refine gfX6_10 C hk0 dX6_fewestBeds_28 ?_
        refine gfX6_151 C ((kd6 C.cl hk0).1) dX6_fewestBeds_31 ?_
        obtain ⟨r34, c34, hf⟩ := oB hf
        refine b_callVi (K := 4) (As := []) (res := (r34, x)) C (metX4_mostLentBeds l G _ _ _ ((kd3 C.cl ((kd6 C.cl hk0).1)).1) c34) ((kd3 C.cl ((kd6 C.cl hk0).1)).1) (by decide) rfl gkX6_182 ekX6_182 rfl ⟨rfl, rfl⟩ ⟨Nat.le_of_ble_eq_true rfl, Nat.le_of_ble_eq_true rfl⟩ (by simp [Value.category]) ⟨Nat.le_of_ble_eq_true rfl, Nat.le_of_ble_eq_true rfl⟩ rfl dX6_fewestBeds_34 ?_
        exact b_xiret C dX6_fewestBeds_37 hf ⟨Nat.le_of_ble_eq_true rfl, Nat.le_of_ble_eq_true rfl⟩
      · have hf := iT c7 hf
        refine b_aload_n C dX6_fewestBeds_10 rfl 0 rfl ?_
        refine gfX6_31 C hk0 dX6_fewestBeds_11 ?_
        refine b_aload_n C dX6_fewestBeds_14 rfl 0 rfl ?_
        refine gfX6_10 C hk0 dX6_fewestBeds_15 ?_
        refine gfX6_151 C ((kd6 C.cl hk0).1) dX6_fewestBeds_18 ?_
        obtain ⟨r21, c21, hf⟩ := oB hf
        refine b_callVi (K := 1) (As := [.ref (G.2.2 ((i0 + 1) + 1))]) (res := r21) C (metX1_bedsFor l G _ _ _ _ ((kd6 C.cl hk0).2.2.2.1) ((kd3 C.cl ((kd6 C.cl hk0).1)).1) c21) ((kd6 C.cl hk0).2.2.2.1) (by decide) rfl gkX6_178 ekX6_178 rfl ⟨rfl, rfl⟩ ⟨Nat.le_of_ble_eq_true rfl, Nat.le_of_ble_eq_true rfl⟩ (by simp [Value.category]) ⟨Nat.le_of_ble_eq_true rfl, Nat.le_of_ble_eq_true rfl⟩ rfl dX6_fewestBeds_21 ?_
        refine b_goto (tgt := 37) C dX6_fewestBeds_24 (by decide) ?_
        exact b_xiret C dX6_fewestBeds_37 hf ⟨Nat.le_of_ble_eq_true rfl, Nat.le_of_ble_eq_true rfl⟩
end
theorem metX6_fewestBeds (l : Launch) (G : gT) (i0 : Nat) (v1 : Int32) (x : xS) (r : (Sum Nat (Int32 × xS))) (hk0 : KD G i0 6) (hf : fX6_fewestBeds i0 v1 x = some r) (hl : l.stackTraces = false) : xI l yX6_fewestBeds cX6_fewestBeds 2 (.int) rX6_fewestBeds 1 [.ref (G.2.2 i0), .int v1] G x r :=
  b_bodyX (by decide) hl (Nat.le_of_ble_eq_true rfl) rfl (fun p e s m args below meth c C X => wX6_fewestBeds_b0 C X hk0  hf)
-- X6_giveBack
abbrev rX6_giveBack : Room := { frames := 8, cells := 2, slots := 12, locals := 146 }
def fX6_giveBack_b0 (i0 : Nat) (v1 : Int32) (v2 : Int32) (x : xS) : Option (Sum Nat (Int32 × xS)) :=
  Option.bind (fX6_checkLodger v1 x) (fun r1 => match r1 with
  | Sum.inl j => some (Sum.inl j)
  | Sum.inr _ =>
  Option.bind (fX6_checkHour v2 x) (fun r5 => match r5 with
  | Sum.inl j => some (Sum.inl j)
  | Sum.inr _ =>
  Option.bind (fX6_saveState i0 x) (fun r9 =>
  Option.bind (fX3_takeBack (i0 + 1) v1 v2 r9) (fun r18 =>
  some (Sum.inr (r18.1, r18.2))))))
def fX6_giveBack (i0 : Nat) (v1 : Int32) (v2 : Int32) (x : xS) : Option (Sum Nat (Int32 × xS)) := fX6_giveBack_b0 i0 v1 v2 x
section
variable {p : Program} {l : Launch} {e : Env} {R : Room} {s : State} {m : MethodId} {args : Array Value} {below : List Frame} {meth : Method} {c : Code} {G : gT}
set_option maxHeartbeats 4000000 in
set_option maxRecDepth 100000 in
theorem wX6_giveBack_b0 (C : CT p s m args meth c cX6_giveBack 3 RX6 (some (.int)) G (pA G s.heap.size)) (X : XT l c (pA G s.heap.size) s) {i0 : Nat} {v1 : Int32} {v2 : Int32} {x : xS} {r : (Sum Nat (Int32 × xS))} (hk0 : KD G i0 6) (hf : fX6_giveBack_b0 i0 v1 v2 x = some r) : WB p l e rX6_giveBack s m args below meth c 3 G (pA G s.heap.size) (qxI below G x r args s 2) 0 0 0 [(0, .ref (G.2.2 i0)), (1, .int v1), (2, .int v2)] [] x := by
  unfold fX6_giveBack_b0 at hf
  refine b_iload_n C dX6_giveBack_0 rfl 1 rfl ?_
  obtain ⟨r1, c1, hf⟩ := oB hf
  refine b_xcSv (As := [.int v1]) (res := Sum.map id (fun _ => x) r1) (mc1 := 1) (bad := fun k => r = .inl k) C X (metX6_checkLodger l G _ _ _ c1 X.1) gkX6_53 ekX6_53 rfl ⟨rfl, rfl⟩ ⟨Nat.le_of_ble_eq_true rfl, Nat.le_of_ble_eq_true rfl⟩ (by simp [Value.category]) ⟨Nat.le_of_ble_eq_true rfl, Nat.le_of_ble_eq_true rfl⟩ ⟨Nat.le_of_ble_eq_true rfl, Nat.le_of_ble_eq_true rfl⟩ rfl dX6_giveBack_1 (fun j hj => ?_) (fun u hu => ?_)
  · cases r1 with
    | inr w => cases hj
    | inl j1 =>
      cases hj
      exact (Option.some.inj hf).symm
  · cases r1 with
    | inl j1 => cases hu
    | inr w =>
      cases hu
      refine b_iload_n C dX6_giveBack_4 rfl 2 rfl ?_
      obtain ⟨r5, c5, hf⟩ := oB hf
      refine b_xcSv (As := [.int v2]) (res := Sum.map id (fun _ => x) r5) (mc1 := 1) (bad := fun k => r = .inl k) C X (metX6_checkHour l G _ _ _ c5 X.1) gkX6_56 ekX6_56 rfl ⟨rfl, rfl⟩ ⟨Nat.le_of_ble_eq_true rfl, Nat.le_of_ble_eq_true rfl⟩ (by simp [Value.category]) ⟨Nat.le_of_ble_eq_true rfl, Nat.le_of_ble_eq_true rfl⟩ ⟨Nat.le_of_ble_eq_true rfl, Nat.le_of_ble_eq_true rfl⟩ rfl dX6_giveBack_5 (fun j hj => ?_) (fun u hu => ?_)
      · cases r5 with
        | inr w => cases hj
        | inl j1 =>
          cases hj
          exact (Option.some.inj hf).symm
      · cases r5 with
        | inl j1 => cases hu
        | inr w =>
          cases hu
          refine b_aload_n C dX6_giveBack_8 rfl 0 rfl ?_
          obtain ⟨r9, c9, hf⟩ := oB hf
          refine b_callVv (K := 6) (As := []) (res := r9) C (metX6_saveState l G _ _ _ hk0 c9) hk0 (by decide) rfl gkX6_46 ekX6_46 rfl ⟨rfl, rfl⟩ ⟨Nat.le_of_ble_eq_true rfl, Nat.le_of_ble_eq_true rfl⟩ (by simp [Value.category]) ⟨Nat.le_of_ble_eq_true rfl, Nat.le_of_ble_eq_true rfl⟩ rfl dX6_giveBack_9 ?_
          refine b_aload_n C dX6_giveBack_12 rfl 0 rfl ?_
          refine gfX6_10 C hk0 dX6_giveBack_13 ?_
          refine b_iload_n C dX6_giveBack_16 rfl 1 rfl ?_
          refine b_iload_n C dX6_giveBack_17 rfl 2 rfl ?_
          obtain ⟨r18, c18, hf⟩ := oB hf
          refine b_callVi (K := 3) (As := [.int v1, .int v2]) (res := r18) C (metX3_takeBack l G _ _ _ _ _ ((kd6 C.cl hk0).1) c18) ((kd6 C.cl hk0).1) (by decide) rfl gkX6_59 ekX6_59 rfl ⟨rfl, rfl⟩ ⟨Nat.le_of_ble_eq_true rfl, Nat.le_of_ble_eq_true rfl⟩ (by simp [Value.category]) ⟨Nat.le_of_ble_eq_true rfl, Nat.le_of_ble_eq_true rfl⟩ rfl dX6_giveBack_18 ?_
          exact b_xiret C dX6_giveBack_21 hf ⟨Nat.le_of_ble_eq_true rfl, Nat.le_of_ble_eq_true rfl⟩
end
theorem metX6_giveBack (l : Launch) (G : gT) (i0 : Nat) (v1 : Int32) (v2 : Int32) (x : xS) (r : (Sum Nat (Int32 × xS))) (hk0 : KD G i0 6) (hf : fX6_giveBack i0 v1 v2 x = some r) (hl : l.stackTraces = false) : xI l yX6_giveBack cX6_giveBack 3 (.int) rX6_giveBack 2 [.ref (G.2.2 i0), .int v1, .int v2] G x r :=
  b_bodyX (by decide) hl (Nat.le_of_ble_eq_true rfl) rfl (fun p e s m args below meth c C X => wX6_giveBack_b0 C X hk0  hf)
-- X6_goBack
abbrev rX6_goBack : Room := { frames := 8, cells := 2, slots := 12, locals := 146 }
def fX6_goBack_b0 (i0 : Nat) (v1 : Int32) (x : xS) : Option (Sum Nat (Int32 × xS)) :=
  Option.bind (fX6_checkSlot v1 x) (fun r1 => match r1 with
  | Sum.inl j => some (Sum.inl j)
  | Sum.inr _ =>
  Option.bind (fX5_isFilled (i0 + 11) v1 x) (fun r9 =>
  (if r9 = 0 then
  some (Sum.inl 3)
  else
  Option.bind (fX6_saveState i0 x) (fun r26 =>
  Option.bind (fX5_restore (i0 + 11) v1 (i0 + 1) r26) (fun r38 =>
  Option.bind (fX3_account (i0 + 1) 2 r38) (fun r46 =>
  some (Sum.inr (r46, r38))))))))
def fX6_goBack (i0 : Nat) (v1 : Int32) (x : xS) : Option (Sum Nat (Int32 × xS)) := fX6_goBack_b0 i0 v1 x
section
variable {p : Program} {l : Launch} {e : Env} {R : Room} {s : State} {m : MethodId} {args : Array Value} {below : List Frame} {meth : Method} {c : Code} {G : gT}
set_option maxHeartbeats 4000000 in
set_option maxRecDepth 100000 in
theorem wX6_goBack_b0 (C : CT p s m args meth c cX6_goBack 2 RX6 (some (.int)) G (pA G s.heap.size)) (X : XT l c (pA G s.heap.size) s) {i0 : Nat} {v1 : Int32} {x : xS} {r : (Sum Nat (Int32 × xS))} (hk0 : KD G i0 6) (hf : fX6_goBack_b0 i0 v1 x = some r) : WB p l e rX6_goBack s m args below meth c 2 G (pA G s.heap.size) (qxI below G x r args s 2) 0 0 0 [(0, .ref (G.2.2 i0)), (1, .int v1)] [] x := by
  unfold fX6_goBack_b0 at hf
  refine b_iload_n C dX6_goBack_0 rfl 1 rfl ?_
  obtain ⟨r1, c1, hf⟩ := oB hf
  refine b_xcSv (As := [.int v1]) (res := Sum.map id (fun _ => x) r1) (mc1 := 1) (bad := fun k => r = .inl k) C X (metX6_checkSlot l G _ _ _ c1 X.1) gkX6_118 ekX6_118 rfl ⟨rfl, rfl⟩ ⟨Nat.le_of_ble_eq_true rfl, Nat.le_of_ble_eq_true rfl⟩ (by simp [Value.category]) ⟨Nat.le_of_ble_eq_true rfl, Nat.le_of_ble_eq_true rfl⟩ ⟨Nat.le_of_ble_eq_true rfl, Nat.le_of_ble_eq_true rfl⟩ rfl dX6_goBack_1 (fun j hj => ?_) (fun u hu => ?_)
  · cases r1 with
    | inr w => cases hj
    | inl j1 =>
      cases hj
      exact (Option.some.inj hf).symm
  · cases r1 with
    | inl j1 => cases hu
    | inr w =>
      cases hu
      refine b_aload_n C dX6_goBack_4 rfl 0 rfl ?_
      refine gfX6_21 C hk0 dX6_goBack_5 ?_
      refine b_iload_n C dX6_goBack_8 rfl 1 rfl ?_
      obtain ⟨r9, c9, hf⟩ := oB hf
      refine b_callVi (K := 5) (As := [.int v1]) (res := (r9, x)) C (metX5_isFilled l G _ _ _ _ ((kd6 C.cl hk0).2.1) c9) ((kd6 C.cl hk0).2.1) (by decide) rfl gkX6_128 ekX6_128 rfl ⟨rfl, rfl⟩ ⟨Nat.le_of_ble_eq_true rfl, Nat.le_of_ble_eq_true rfl⟩ (by simp [Value.category]) ⟨Nat.le_of_ble_eq_true rfl, Nat.le_of_ble_eq_true rfl⟩ rfl dX6_goBack_9 ?_
      refine b_if_ne (tgt := 25) C dX6_goBack_12 (by decide) (fun c12 => ?_) (fun c12 => ?_)
      · have hf := iF c12 hf
        refine b_aload_n C dX6_goBack_25 rfl 0 rfl ?_
        obtain ⟨r26, c26, hf⟩ := oB hf
        refine b_callVv (K := 6) (As := []) (res := r26) C (metX6_saveState l G _ _ _ hk0 c26) hk0 (by decide) rfl gkX6_46 ekX6_46 rfl ⟨rfl, rfl⟩ ⟨Nat.le_of_ble_eq_true rfl, Nat.le_of_ble_eq_true rfl⟩ (by simp [Value.category]) ⟨Nat.le_of_ble_eq_true rfl, Nat.le_of_ble_eq_true rfl⟩ rfl dX6_goBack_26 ?_
        refine b_aload_n C dX6_goBack_29 rfl 0 rfl ?_
        refine gfX6_21 C hk0 dX6_goBack_30 ?_
        refine b_iload_n C dX6_goBack_33 rfl 1 rfl ?_
        refine b_aload_n C dX6_goBack_34 rfl 0 rfl ?_
        refine gfX6_10 C hk0 dX6_goBack_35 ?_
        obtain ⟨r38, c38, hf⟩ := oB hf
        refine b_callVv (K := 5) (As := [.int v1, .ref (G.2.2 (i0 + 1))]) (res := r38) C (metX5_restore l G _ _ _ _ _ ((kd6 C.cl hk0).2.1) ((kd6 C.cl hk0).1) c38) ((kd6 C.cl hk0).2.1) (by decide) rfl gkX6_134 ekX6_134 rfl ⟨rfl, rfl⟩ ⟨Nat.le_of_ble_eq_true rfl, Nat.le_of_ble_eq_true rfl⟩ (by simp [Value.category]) ⟨Nat.le_of_ble_eq_true rfl, Nat.le_of_ble_eq_true rfl⟩ rfl dX6_goBack_38 ?_
        refine b_aload_n C dX6_goBack_41 rfl 0 rfl ?_
        refine gfX6_10 C hk0 dX6_goBack_42 ?_
        refine b_iconst (v := 2) C dX6_goBack_45 (by decide) ?_
        obtain ⟨r46, c46, hf⟩ := oB hf
        refine b_callVi (K := 3) (As := [.int 2]) (res := (r46, r38)) C (metX3_account l G _ _ _ _ ((kd6 C.cl hk0).1) c46) ((kd6 C.cl hk0).1) (by decide) rfl gkX6_125 ekX6_125 rfl ⟨rfl, rfl⟩ ⟨Nat.le_of_ble_eq_true rfl, Nat.le_of_ble_eq_true rfl⟩ (by simp [Value.category]) ⟨Nat.le_of_ble_eq_true rfl, Nat.le_of_ble_eq_true rfl⟩ rfl dX6_goBack_46 ?_
        exact b_xiret C dX6_goBack_49 hf ⟨Nat.le_of_ble_eq_true rfl, Nat.le_of_ble_eq_true rfl⟩
      · have hf := iT c12 hf
        exact b_thr3 C X w_528 w_529 X.2.2.2.2.s132 ((Option.some.inj hf).symm) dX6_goBack_15 dX6_goBack_18 dX6_goBack_19 dX6_goBack_21 dX6_goBack_24 ⟨Nat.le_of_ble_eq_true rfl, Nat.le_of_ble_eq_true rfl⟩ ⟨Nat.le_of_ble_eq_true rfl, Nat.le_of_ble_eq_true rfl⟩ ⟨Nat.le_of_ble_eq_true rfl, Nat.le_of_ble_eq_true rfl⟩
end
theorem metX6_goBack (l : Launch) (G : gT) (i0 : Nat) (v1 : Int32) (x : xS) (r : (Sum Nat (Int32 × xS))) (hk0 : KD G i0 6) (hf : fX6_goBack i0 v1 x = some r) (hl : l.stackTraces = false) : xI l yX6_goBack cX6_goBack 2 (.int) rX6_goBack 2 [.ref (G.2.2 i0), .int v1] G x r :=
  b_bodyX (by decide) hl (Nat.le_of_ble_eq_true rfl) rfl (fun p e s m args below meth c C X => wX6_goBack_b0 C X hk0  hf)
-- X6_ifAsked
abbrev rX6_ifAsked : Room := { frames := 8, cells := 2, slots := 12, locals := 124 }
def fX6_ifAsked_b0 (i0 : Nat) (v1 : Int32) (v2 : Int32) (v3 : Int32) (x : xS)  : Option (Sum Nat Int32) :=
  Option.bind (fX6_checkAsking v1 v2 v3 x) (fun r3 => match r3 with
  | Sum.inl j => some (Sum.inl j)
  | Sum.inr _ =>
  Option.bind (fX3_answerTo (i0 + 1) v1 v2 v3 x) (fun r13 =>
  some (Sum.inr r13)))
def fX6_ifAsked (i0 : Nat) (v1 : Int32) (v2 : Int32) (v3 : Int32) (x : xS) : Option (Sum Nat Int32) := fX6_ifAsked_b0 i0 v1 v2 v3 x
section
variable {p : Program} {l : Launch} {e : Env} {R : Room} {s : State} {m : MethodId} {args : Array Value} {below : List Frame} {meth : Method} {c : Code} {G : gT}
set_option maxHeartbeats 4000000 in
set_option maxRecDepth 100000 in
theorem wX6_ifAsked_b0 (C : CT p s m args meth c cX6_ifAsked 4 RX6 (some (.int)) G (pA G s.heap.size)) (X : XT l c (pA G s.heap.size) s) {i0 : Nat} {v1 : Int32} {v2 : Int32} {v3 : Int32} {x : xS}  {r : (Sum Nat Int32)} (hk0 : KD G i0 6) (hf : fX6_ifAsked_b0 i0 v1 v2 v3 x  = some r) : WB p l e rX6_ifAsked s m args below meth c 4 G (pA G s.heap.size) (qxI below G x (Sum.map id (fun v => (v, x)) r) args s 2) 0 0 0 [(0, .ref (G.2.2 i0)), (1, .int v1), (2, .int v2), (3, .int v3)] [] x := by
  unfold fX6_ifAsked_b0 at hf
  refine b_iload_n C dX6_ifAsked_0 rfl 1 rfl ?_
  refine b_iload_n C dX6_ifAsked_1 rfl 2 rfl ?_
  refine b_iload_n C dX6_ifAsked_2 rfl 3 rfl ?_
  obtain ⟨r3, c3, hf⟩ := oB hf
  refine b_xcSv (As := [.int v1, .int v2, .int v3]) (res := Sum.map id (fun _ => x) r3) (mc1 := 2) (bad := fun k => (Sum.map id (fun v => (v, x)) r) = .inl k) C X (metX6_checkAsking l G _ _ _ _ _ c3 X.1) gkX6_42 ekX6_42 rfl ⟨rfl, rfl⟩ ⟨Nat.le_of_ble_eq_true rfl, Nat.le_of_ble_eq_true rfl⟩ (by simp [Value.category]) ⟨Nat.le_of_ble_eq_true rfl, Nat.le_of_ble_eq_true rfl⟩ ⟨Nat.le_of_ble_eq_true rfl, Nat.le_of_ble_eq_true rfl⟩ rfl dX6_ifAsked_3 (fun j hj => ?_) (fun u hu => ?_)
  · cases r3 with
    | inr w => cases hj
    | inl j1 =>
      cases hj
      exact (Option.some.inj (congrArg (Option.map (Sum.map id (fun v => (v, x)))) hf)).symm
  · cases r3 with
    | inl j1 => cases hu
    | inr w =>
      cases hu
      refine b_aload_n C dX6_ifAsked_6 rfl 0 rfl ?_
      refine gfX6_10 C hk0 dX6_ifAsked_7 ?_
      refine b_iload_n C dX6_ifAsked_10 rfl 1 rfl ?_
      refine b_iload_n C dX6_ifAsked_11 rfl 2 rfl ?_
      refine b_iload_n C dX6_ifAsked_12 rfl 3 rfl ?_
      obtain ⟨r13, c13, hf⟩ := oB hf
      refine b_callVi (K := 3) (As := [.int v1, .int v2, .int v3]) (res := (r13, x)) C (metX3_answerTo l G _ _ _ _ _ _ ((kd6 C.cl hk0).1) c13) ((kd6 C.cl hk0).1) (by decide) rfl gkX6_172 ekX6_172 rfl ⟨rfl, rfl⟩ ⟨Nat.le_of_ble_eq_true rfl, Nat.le_of_ble_eq_true rfl⟩ (by simp [Value.category]) ⟨Nat.le_of_ble_eq_true rfl, Nat.le_of_ble_eq_true rfl⟩ rfl dX6_ifAsked_13 ?_
      exact b_xiret C dX6_ifAsked_16 (congrArg (Option.map (Sum.map id (fun v => (v, x)))) hf) ⟨Nat.le_of_ble_eq_true rfl, Nat.le_of_ble_eq_true rfl⟩
end
theorem metX6_ifAsked (l : Launch) (G : gT) (i0 : Nat) (v1 : Int32) (v2 : Int32) (v3 : Int32) (x : xS) (r : (Sum Nat Int32)) (hk0 : KD G i0 6) (hf : fX6_ifAsked i0 v1 v2 v3 x = some r) (hl : l.stackTraces = false) : xI l yX6_ifAsked cX6_ifAsked 4 (.int) rX6_ifAsked 2 [.ref (G.2.2 i0), .int v1, .int v2, .int v3] G x (Sum.map id (fun v => (v, x)) r) :=
  b_bodyX (by decide) hl (Nat.le_of_ble_eq_true rfl) rfl (fun p e s m args below meth c C X => wX6_ifAsked_b0 C X hk0  hf)
-- X6_ifPutOut
abbrev rX6_ifPutOut : Room := { frames := 8, cells := 2, slots := 12, locals := 124 }
def fX6_ifPutOut_b0 (i0 : Nat) (v1 : Int32) (v2 : Int32) (v3 : Int32) (x : xS)  : Option (Sum Nat Int32) :=
  Option.bind (fX6_checkAsking v1 v2 v3 x) (fun r3 => match r3 with
  | Sum.inl j => some (Sum.inl j)
  | Sum.inr _ =>
  Option.bind (fX3_wouldBePutOut (i0 + 1) v1 v2 v3 x) (fun r13 =>
  some (Sum.inr r13)))
def fX6_ifPutOut (i0 : Nat) (v1 : Int32) (v2 : Int32) (v3 : Int32) (x : xS) : Option (Sum Nat Int32) := fX6_ifPutOut_b0 i0 v1 v2 v3 x
section
variable {p : Program} {l : Launch} {e : Env} {R : Room} {s : State} {m : MethodId} {args : Array Value} {below : List Frame} {meth : Method} {c : Code} {G : gT}
set_option maxHeartbeats 4000000 in
set_option maxRecDepth 100000 in
theorem wX6_ifPutOut_b0 (C : CT p s m args meth c cX6_ifPutOut 4 RX6 (some (.int)) G (pA G s.heap.size)) (X : XT l c (pA G s.heap.size) s) {i0 : Nat} {v1 : Int32} {v2 : Int32} {v3 : Int32} {x : xS}  {r : (Sum Nat Int32)} (hk0 : KD G i0 6) (hf : fX6_ifPutOut_b0 i0 v1 v2 v3 x  = some r) : WB p l e rX6_ifPutOut s m args below meth c 4 G (pA G s.heap.size) (qxI below G x (Sum.map id (fun v => (v, x)) r) args s 2) 0 0 0 [(0, .ref (G.2.2 i0)), (1, .int v1), (2, .int v2), (3, .int v3)] [] x := by
  unfold fX6_ifPutOut_b0 at hf
  refine b_iload_n C dX6_ifPutOut_0 rfl 1 rfl ?_
  refine b_iload_n C dX6_ifPutOut_1 rfl 2 rfl ?_
  refine b_iload_n C dX6_ifPutOut_2 rfl 3 rfl ?_
  obtain ⟨r3, c3, hf⟩ := oB hf
  refine b_xcSv (As := [.int v1, .int v2, .int v3]) (res := Sum.map id (fun _ => x) r3) (mc1 := 2) (bad := fun k => (Sum.map id (fun v => (v, x)) r) = .inl k) C X (metX6_checkAsking l G _ _ _ _ _ c3 X.1) gkX6_42 ekX6_42 rfl ⟨rfl, rfl⟩ ⟨Nat.le_of_ble_eq_true rfl, Nat.le_of_ble_eq_true rfl⟩ (by simp [Value.category]) ⟨Nat.le_of_ble_eq_true rfl, Nat.le_of_ble_eq_true rfl⟩ ⟨Nat.le_of_ble_eq_true rfl, Nat.le_of_ble_eq_true rfl⟩ rfl dX6_ifPutOut_3 (fun j hj => ?_) (fun u hu => ?_)
  · cases r3 with
    | inr w => cases hj
    | inl j1 =>
      cases hj
      exact (Option.some.inj (congrArg (Option.map (Sum.map id (fun v => (v, x)))) hf)).symm
  · cases r3 with
    | inl j1 => cases hu
    | inr w =>
      cases hu
      refine b_aload_n C dX6_ifPutOut_6 rfl 0 rfl ?_
      refine gfX6_10 C hk0 dX6_ifPutOut_7 ?_
      refine b_iload_n C dX6_ifPutOut_10 rfl 1 rfl ?_
      refine b_iload_n C dX6_ifPutOut_11 rfl 2 rfl ?_
      refine b_iload_n C dX6_ifPutOut_12 rfl 3 rfl ?_
      obtain ⟨r13, c13, hf⟩ := oB hf
      refine b_callVi (K := 3) (As := [.int v1, .int v2, .int v3]) (res := (r13, x)) C (metX3_wouldBePutOut l G _ _ _ _ _ _ ((kd6 C.cl hk0).1) c13) ((kd6 C.cl hk0).1) (by decide) rfl gkX6_175 ekX6_175 rfl ⟨rfl, rfl⟩ ⟨Nat.le_of_ble_eq_true rfl, Nat.le_of_ble_eq_true rfl⟩ (by simp [Value.category]) ⟨Nat.le_of_ble_eq_true rfl, Nat.le_of_ble_eq_true rfl⟩ rfl dX6_ifPutOut_13 ?_
      exact b_xiret C dX6_ifPutOut_16 (congrArg (Option.map (Sum.map id (fun v => (v, x)))) hf) ⟨Nat.le_of_ble_eq_true rfl, Nat.le_of_ble_eq_true rfl⟩
end
theorem metX6_ifPutOut (l : Launch) (G : gT) (i0 : Nat) (v1 : Int32) (v2 : Int32) (v3 : Int32) (x : xS) (r : (Sum Nat Int32)) (hk0 : KD G i0 6) (hf : fX6_ifPutOut i0 v1 v2 v3 x = some r) (hl : l.stackTraces = false) : xI l yX6_ifPutOut cX6_ifPutOut 4 (.int) rX6_ifPutOut 2 [.ref (G.2.2 i0), .int v1, .int v2, .int v3] G x (Sum.map id (fun v => (v, x)) r) :=
  b_bodyX (by decide) hl (Nat.le_of_ble_eq_true rfl) rfl (fun p e s m args below meth c C X => wX6_ifPutOut_b0 C X hk0  hf)
-- X6_keep
abbrev rX6_keep : Room := { frames := 8, cells := 1, slots := 6, locals := 126 }
def fX6_keep_b0 (i0 : Nat) (v1 : Int32) (x : xS) : Option (Sum Nat (Int32 × xS)) :=
  Option.bind (fX6_checkSlot v1 x) (fun r1 => match r1 with
  | Sum.inl j => some (Sum.inl j)
  | Sum.inr _ =>
  Option.bind (fX5_store (i0 + 11) v1 (i0 + 1) x) (fun r13 =>
  Option.bind (fX3_account (i0 + 1) 2 r13) (fun r21 =>
  some (Sum.inr (r21, r13)))))
def fX6_keep (i0 : Nat) (v1 : Int32) (x : xS) : Option (Sum Nat (Int32 × xS)) := fX6_keep_b0 i0 v1 x
section
variable {p : Program} {l : Launch} {e : Env} {R : Room} {s : State} {m : MethodId} {args : Array Value} {below : List Frame} {meth : Method} {c : Code} {G : gT}
set_option maxHeartbeats 4000000 in
set_option maxRecDepth 100000 in
theorem wX6_keep_b0 (C : CT p s m args meth c cX6_keep 2 RX6 (some (.int)) G (pA G s.heap.size)) (X : XT l c (pA G s.heap.size) s) {i0 : Nat} {v1 : Int32} {x : xS} {r : (Sum Nat (Int32 × xS))} (hk0 : KD G i0 6) (hf : fX6_keep_b0 i0 v1 x = some r) : WB p l e rX6_keep s m args below meth c 2 G (pA G s.heap.size) (qxI below G x r args s 1) 0 0 0 [(0, .ref (G.2.2 i0)), (1, .int v1)] [] x := by
  unfold fX6_keep_b0 at hf
  refine b_iload_n C dX6_keep_0 rfl 1 rfl ?_
  obtain ⟨r1, c1, hf⟩ := oB hf
  refine b_xcSv (As := [.int v1]) (res := Sum.map id (fun _ => x) r1) (mc1 := 1) (bad := fun k => r = .inl k) C X (metX6_checkSlot l G _ _ _ c1 X.1) gkX6_118 ekX6_118 rfl ⟨rfl, rfl⟩ ⟨Nat.le_of_ble_eq_true rfl, Nat.le_of_ble_eq_true rfl⟩ (by simp [Value.category]) ⟨Nat.le_of_ble_eq_true rfl, Nat.le_of_ble_eq_true rfl⟩ ⟨Nat.le_of_ble_eq_true rfl, Nat.le_of_ble_eq_true rfl⟩ rfl dX6_keep_1 (fun j hj => ?_) (fun u hu => ?_)
  · cases r1 with
    | inr w => cases hj
    | inl j1 =>
      cases hj
      exact (Option.some.inj hf).symm
  · cases r1 with
    | inl j1 => cases hu
    | inr w =>
      cases hu
      refine b_aload_n C dX6_keep_4 rfl 0 rfl ?_
      refine gfX6_21 C hk0 dX6_keep_5 ?_
      refine b_iload_n C dX6_keep_8 rfl 1 rfl ?_
      refine b_aload_n C dX6_keep_9 rfl 0 rfl ?_
      refine gfX6_10 C hk0 dX6_keep_10 ?_
      obtain ⟨r13, c13, hf⟩ := oB hf
      refine b_callVv (K := 5) (As := [.int v1, .ref (G.2.2 (i0 + 1))]) (res := r13) C (metX5_store l G _ _ _ _ _ ((kd6 C.cl hk0).2.1) ((kd6 C.cl hk0).1) c13) ((kd6 C.cl hk0).2.1) (by decide) rfl gkX6_121 ekX6_121 rfl ⟨rfl, rfl⟩ ⟨Nat.le_of_ble_eq_true rfl, Nat.le_of_ble_eq_true rfl⟩ (by simp [Value.category]) ⟨Nat.le_of_ble_eq_true rfl, Nat.le_of_ble_eq_true rfl⟩ rfl dX6_keep_13 ?_
      refine b_aload_n C dX6_keep_16 rfl 0 rfl ?_
      refine gfX6_10 C hk0 dX6_keep_17 ?_
      refine b_iconst (v := 2) C dX6_keep_20 (by decide) ?_
      obtain ⟨r21, c21, hf⟩ := oB hf
      refine b_callVi (K := 3) (As := [.int 2]) (res := (r21, r13)) C (metX3_account l G _ _ _ _ ((kd6 C.cl hk0).1) c21) ((kd6 C.cl hk0).1) (by decide) rfl gkX6_125 ekX6_125 rfl ⟨rfl, rfl⟩ ⟨Nat.le_of_ble_eq_true rfl, Nat.le_of_ble_eq_true rfl⟩ (by simp [Value.category]) ⟨Nat.le_of_ble_eq_true rfl, Nat.le_of_ble_eq_true rfl⟩ rfl dX6_keep_21 ?_
      exact b_xiret C dX6_keep_24 hf ⟨Nat.le_of_ble_eq_true rfl, Nat.le_of_ble_eq_true rfl⟩
end
theorem metX6_keep (l : Launch) (G : gT) (i0 : Nat) (v1 : Int32) (x : xS) (r : (Sum Nat (Int32 × xS))) (hk0 : KD G i0 6) (hf : fX6_keep i0 v1 x = some r) (hl : l.stackTraces = false) : xI l yX6_keep cX6_keep 2 (.int) rX6_keep 1 [.ref (G.2.2 i0), .int v1] G x r :=
  b_bodyX (by decide) hl (Nat.le_of_ble_eq_true rfl) rfl (fun p e s m args below meth c C X => wX6_keep_b0 C X hk0  hf)
-- X6_lodgerOf
abbrev rX6_lodgerOf : Room := { frames := 7, cells := 2, slots := 12, locals := 104 }
def fX6_lodgerOf_b0 (i0 : Nat) (v1 : Int32) (v2 : Int32) (x : xS)  : Option (Sum Nat Int32) :=
  Option.bind (fX6_checkLodger v1 x) (fun r1 => match r1 with
  | Sum.inl j => some (Sum.inl j)
  | Sum.inr _ =>
  Option.bind (fX6_checkRange v2 0 6 x) (fun r8 => match r8 with
  | Sum.inl j => some (Sum.inl j)
  | Sum.inr _ =>
  Option.bind (fX3_lodgerNumber (i0 + 1) v1 v2 x) (fun r17 =>
  some (Sum.inr r17))))
def fX6_lodgerOf (i0 : Nat) (v1 : Int32) (v2 : Int32) (x : xS) : Option (Sum Nat Int32) := fX6_lodgerOf_b0 i0 v1 v2 x
section
variable {p : Program} {l : Launch} {e : Env} {R : Room} {s : State} {m : MethodId} {args : Array Value} {below : List Frame} {meth : Method} {c : Code} {G : gT}
set_option maxHeartbeats 4000000 in
set_option maxRecDepth 100000 in
theorem wX6_lodgerOf_b0 (C : CT p s m args meth c cX6_lodgerOf 3 RX6 (some (.int)) G (pA G s.heap.size)) (X : XT l c (pA G s.heap.size) s) {i0 : Nat} {v1 : Int32} {v2 : Int32} {x : xS}  {r : (Sum Nat Int32)} (hk0 : KD G i0 6) (hf : fX6_lodgerOf_b0 i0 v1 v2 x  = some r) : WB p l e rX6_lodgerOf s m args below meth c 3 G (pA G s.heap.size) (qxI below G x (Sum.map id (fun v => (v, x)) r) args s 2) 0 0 0 [(0, .ref (G.2.2 i0)), (1, .int v1), (2, .int v2)] [] x := by
  unfold fX6_lodgerOf_b0 at hf
  refine b_iload_n C dX6_lodgerOf_0 rfl 1 rfl ?_
  obtain ⟨r1, c1, hf⟩ := oB hf
  refine b_xcSv (As := [.int v1]) (res := Sum.map id (fun _ => x) r1) (mc1 := 1) (bad := fun k => (Sum.map id (fun v => (v, x)) r) = .inl k) C X (metX6_checkLodger l G _ _ _ c1 X.1) gkX6_53 ekX6_53 rfl ⟨rfl, rfl⟩ ⟨Nat.le_of_ble_eq_true rfl, Nat.le_of_ble_eq_true rfl⟩ (by simp [Value.category]) ⟨Nat.le_of_ble_eq_true rfl, Nat.le_of_ble_eq_true rfl⟩ ⟨Nat.le_of_ble_eq_true rfl, Nat.le_of_ble_eq_true rfl⟩ rfl dX6_lodgerOf_1 (fun j hj => ?_) (fun u hu => ?_)
  · cases r1 with
    | inr w => cases hj
    | inl j1 =>
      cases hj
      exact (Option.some.inj (congrArg (Option.map (Sum.map id (fun v => (v, x)))) hf)).symm
  · cases r1 with
    | inl j1 => cases hu
    | inr w =>
      cases hu
      refine b_iload_n C dX6_lodgerOf_4 rfl 2 rfl ?_
      refine b_iconst (v := 0) C dX6_lodgerOf_5 (by decide) ?_
      refine b_bipush (v := 6) C dX6_lodgerOf_6 (by decide) ?_
      obtain ⟨r8, c8, hf⟩ := oB hf
      refine b_xcSv (As := [.int v2, .int 0, .int 6]) (res := Sum.map id (fun _ => x) r8) (mc1 := 1) (bad := fun k => (Sum.map id (fun v => (v, x)) r) = .inl k) C X (metX6_checkRange l G _ _ _ _ _ c8 X.1) gkX6_160 ekX6_160 rfl ⟨rfl, rfl⟩ ⟨Nat.le_of_ble_eq_true rfl, Nat.le_of_ble_eq_true rfl⟩ (by simp [Value.category]) ⟨Nat.le_of_ble_eq_true rfl, Nat.le_of_ble_eq_true rfl⟩ ⟨Nat.le_of_ble_eq_true rfl, Nat.le_of_ble_eq_true rfl⟩ rfl dX6_lodgerOf_8 (fun j hj => ?_) (fun u hu => ?_)
      · cases r8 with
        | inr w => cases hj
        | inl j1 =>
          cases hj
          exact (Option.some.inj (congrArg (Option.map (Sum.map id (fun v => (v, x)))) hf)).symm
      · cases r8 with
        | inl j1 => cases hu
        | inr w =>
          cases hu
          refine b_aload_n C dX6_lodgerOf_11 rfl 0 rfl ?_
          refine gfX6_10 C hk0 dX6_lodgerOf_12 ?_
          refine b_iload_n C dX6_lodgerOf_15 rfl 1 rfl ?_
          refine b_iload_n C dX6_lodgerOf_16 rfl 2 rfl ?_
          obtain ⟨r17, c17, hf⟩ := oB hf
          refine b_callVi (K := 3) (As := [.int v1, .int v2]) (res := (r17, x)) C (metX3_lodgerNumber l G _ _ _ _ _ ((kd6 C.cl hk0).1) c17) ((kd6 C.cl hk0).1) (by decide) rfl gkX6_163 ekX6_163 rfl ⟨rfl, rfl⟩ ⟨Nat.le_of_ble_eq_true rfl, Nat.le_of_ble_eq_true rfl⟩ (by simp [Value.category]) ⟨Nat.le_of_ble_eq_true rfl, Nat.le_of_ble_eq_true rfl⟩ rfl dX6_lodgerOf_17 ?_
          exact b_xiret C dX6_lodgerOf_20 (congrArg (Option.map (Sum.map id (fun v => (v, x)))) hf) ⟨Nat.le_of_ble_eq_true rfl, Nat.le_of_ble_eq_true rfl⟩
end
theorem metX6_lodgerOf (l : Launch) (G : gT) (i0 : Nat) (v1 : Int32) (v2 : Int32) (x : xS) (r : (Sum Nat Int32)) (hk0 : KD G i0 6) (hf : fX6_lodgerOf i0 v1 v2 x = some r) (hl : l.stackTraces = false) : xI l yX6_lodgerOf cX6_lodgerOf 3 (.int) rX6_lodgerOf 2 [.ref (G.2.2 i0), .int v1, .int v2] G x (Sum.map id (fun v => (v, x)) r) :=
  b_bodyX (by decide) hl (Nat.le_of_ble_eq_true rfl) rfl (fun p e s m args below meth c C X => wX6_lodgerOf_b0 C X hk0  hf)
-- X6_longest
abbrev rX6_longest : Room := { frames := 8, cells := 2, slots := 12, locals := 124 }
def fX6_longest_b0 (i0 : Nat) (v1 : Int32) (v2 : Int32) (x : xS)  : Option (Sum Nat Int32) :=
  Option.bind (fX6_checkLodger v1 x) (fun r1 => match r1 with
  | Sum.inl j => some (Sum.inl j)
  | Sum.inr _ =>
  Option.bind (fX6_checkHour v2 x) (fun r5 => match r5 with
  | Sum.inl j => some (Sum.inl j)
  | Sum.inr _ =>
  Option.bind (fX4_longestFor ((i0 + 1) + 1) v1 v2 x) (fun r17 =>
  some (Sum.inr r17))))
def fX6_longest (i0 : Nat) (v1 : Int32) (v2 : Int32) (x : xS) : Option (Sum Nat Int32) := fX6_longest_b0 i0 v1 v2 x
section
variable {p : Program} {l : Launch} {e : Env} {R : Room} {s : State} {m : MethodId} {args : Array Value} {below : List Frame} {meth : Method} {c : Code} {G : gT}
set_option maxHeartbeats 4000000 in
set_option maxRecDepth 100000 in
theorem wX6_longest_b0 (C : CT p s m args meth c cX6_longest 3 RX6 (some (.int)) G (pA G s.heap.size)) (X : XT l c (pA G s.heap.size) s) {i0 : Nat} {v1 : Int32} {v2 : Int32} {x : xS}  {r : (Sum Nat Int32)} (hk0 : KD G i0 6) (hf : fX6_longest_b0 i0 v1 v2 x  = some r) : WB p l e rX6_longest s m args below meth c 3 G (pA G s.heap.size) (qxI below G x (Sum.map id (fun v => (v, x)) r) args s 2) 0 0 0 [(0, .ref (G.2.2 i0)), (1, .int v1), (2, .int v2)] [] x := by
  unfold fX6_longest_b0 at hf
  refine b_iload_n C dX6_longest_0 rfl 1 rfl ?_
  obtain ⟨r1, c1, hf⟩ := oB hf
  refine b_xcSv (As := [.int v1]) (res := Sum.map id (fun _ => x) r1) (mc1 := 1) (bad := fun k => (Sum.map id (fun v => (v, x)) r) = .inl k) C X (metX6_checkLodger l G _ _ _ c1 X.1) gkX6_53 ekX6_53 rfl ⟨rfl, rfl⟩ ⟨Nat.le_of_ble_eq_true rfl, Nat.le_of_ble_eq_true rfl⟩ (by simp [Value.category]) ⟨Nat.le_of_ble_eq_true rfl, Nat.le_of_ble_eq_true rfl⟩ ⟨Nat.le_of_ble_eq_true rfl, Nat.le_of_ble_eq_true rfl⟩ rfl dX6_longest_1 (fun j hj => ?_) (fun u hu => ?_)
  · cases r1 with
    | inr w => cases hj
    | inl j1 =>
      cases hj
      exact (Option.some.inj (congrArg (Option.map (Sum.map id (fun v => (v, x)))) hf)).symm
  · cases r1 with
    | inl j1 => cases hu
    | inr w =>
      cases hu
      refine b_iload_n C dX6_longest_4 rfl 2 rfl ?_
      obtain ⟨r5, c5, hf⟩ := oB hf
      refine b_xcSv (As := [.int v2]) (res := Sum.map id (fun _ => x) r5) (mc1 := 1) (bad := fun k => (Sum.map id (fun v => (v, x)) r) = .inl k) C X (metX6_checkHour l G _ _ _ c5 X.1) gkX6_56 ekX6_56 rfl ⟨rfl, rfl⟩ ⟨Nat.le_of_ble_eq_true rfl, Nat.le_of_ble_eq_true rfl⟩ (by simp [Value.category]) ⟨Nat.le_of_ble_eq_true rfl, Nat.le_of_ble_eq_true rfl⟩ ⟨Nat.le_of_ble_eq_true rfl, Nat.le_of_ble_eq_true rfl⟩ rfl dX6_longest_5 (fun j hj => ?_) (fun u hu => ?_)
      · cases r5 with
        | inr w => cases hj
        | inl j1 =>
          cases hj
          exact (Option.some.inj (congrArg (Option.map (Sum.map id (fun v => (v, x)))) hf)).symm
      · cases r5 with
        | inl j1 => cases hu
        | inr w =>
          cases hu
          refine b_aload_n C dX6_longest_8 rfl 0 rfl ?_
          refine gfX6_10 C hk0 dX6_longest_9 ?_
          refine gfX6_151 C ((kd6 C.cl hk0).1) dX6_longest_12 ?_
          refine b_iload_n C dX6_longest_15 rfl 1 rfl ?_
          refine b_iload_n C dX6_longest_16 rfl 2 rfl ?_
          obtain ⟨r17, c17, hf⟩ := oB hf
          refine b_callVi (K := 4) (As := [.int v1, .int v2]) (res := (r17, x)) C (metX4_longestFor l G _ _ _ _ _ ((kd3 C.cl ((kd6 C.cl hk0).1)).1) c17) ((kd3 C.cl ((kd6 C.cl hk0).1)).1) (by decide) rfl gkX6_185 ekX6_185 rfl ⟨rfl, rfl⟩ ⟨Nat.le_of_ble_eq_true rfl, Nat.le_of_ble_eq_true rfl⟩ (by simp [Value.category]) ⟨Nat.le_of_ble_eq_true rfl, Nat.le_of_ble_eq_true rfl⟩ rfl dX6_longest_17 ?_
          exact b_xiret C dX6_longest_20 (congrArg (Option.map (Sum.map id (fun v => (v, x)))) hf) ⟨Nat.le_of_ble_eq_true rfl, Nat.le_of_ble_eq_true rfl⟩
end
theorem metX6_longest (l : Launch) (G : gT) (i0 : Nat) (v1 : Int32) (v2 : Int32) (x : xS) (r : (Sum Nat Int32)) (hk0 : KD G i0 6) (hf : fX6_longest i0 v1 v2 x = some r) (hl : l.stackTraces = false) : xI l yX6_longest cX6_longest 3 (.int) rX6_longest 2 [.ref (G.2.2 i0), .int v1, .int v2] G x (Sum.map id (fun v => (v, x)) r) :=
  b_bodyX (by decide) hl (Nat.le_of_ble_eq_true rfl) rfl (fun p e s m args below meth c C X => wX6_longest_b0 C X hk0  hf)
-- X6_need
abbrev rX6_need : Room := { frames := 8, cells := 2, slots := 12, locals := 146 }
def fX6_need_b0 (i0 : Nat) (v1 : Int32) (v2 : Int32) (x : xS) : Option (Sum Nat (Int32 × xS)) :=
  Option.bind (fX6_checkLodger v1 x) (fun r1 => match r1 with
  | Sum.inl j => some (Sum.inl j)
  | Sum.inr _ =>
  Option.bind (fX6_checkNeed v2 x) (fun r5 => match r5 with
  | Sum.inl j => some (Sum.inl j)
  | Sum.inr _ =>
  Option.bind (fX6_saveState i0 x) (fun r9 =>
  Option.bind (fX3_changeNeed (i0 + 1) v1 v2 r9) (fun r18 =>
  some (Sum.inr (r18.1, r18.2))))))
def fX6_need (i0 : Nat) (v1 : Int32) (v2 : Int32) (x : xS) : Option (Sum Nat (Int32 × xS)) := fX6_need_b0 i0 v1 v2 x
section
variable {p : Program} {l : Launch} {e : Env} {R : Room} {s : State} {m : MethodId} {args : Array Value} {below : List Frame} {meth : Method} {c : Code} {G : gT}
set_option maxHeartbeats 4000000 in
set_option maxRecDepth 100000 in
theorem wX6_need_b0 (C : CT p s m args meth c cX6_need 3 RX6 (some (.int)) G (pA G s.heap.size)) (X : XT l c (pA G s.heap.size) s) {i0 : Nat} {v1 : Int32} {v2 : Int32} {x : xS} {r : (Sum Nat (Int32 × xS))} (hk0 : KD G i0 6) (hf : fX6_need_b0 i0 v1 v2 x = some r) : WB p l e rX6_need s m args below meth c 3 G (pA G s.heap.size) (qxI below G x r args s 2) 0 0 0 [(0, .ref (G.2.2 i0)), (1, .int v1), (2, .int v2)] [] x := by
  unfold fX6_need_b0 at hf
  refine b_iload_n C dX6_need_0 rfl 1 rfl ?_
  obtain ⟨r1, c1, hf⟩ := oB hf
  refine b_xcSv (As := [.int v1]) (res := Sum.map id (fun _ => x) r1) (mc1 := 1) (bad := fun k => r = .inl k) C X (metX6_checkLodger l G _ _ _ c1 X.1) gkX6_53 ekX6_53 rfl ⟨rfl, rfl⟩ ⟨Nat.le_of_ble_eq_true rfl, Nat.le_of_ble_eq_true rfl⟩ (by simp [Value.category]) ⟨Nat.le_of_ble_eq_true rfl, Nat.le_of_ble_eq_true rfl⟩ ⟨Nat.le_of_ble_eq_true rfl, Nat.le_of_ble_eq_true rfl⟩ rfl dX6_need_1 (fun j hj => ?_) (fun u hu => ?_)
  · cases r1 with
    | inr w => cases hj
    | inl j1 =>
      cases hj
      exact (Option.some.inj hf).symm
  · cases r1 with
    | inl j1 => cases hu
    | inr w =>
      cases hu
      refine b_iload_n C dX6_need_4 rfl 2 rfl ?_
      obtain ⟨r5, c5, hf⟩ := oB hf
      refine b_xcSv (As := [.int v2]) (res := Sum.map id (fun _ => x) r5) (mc1 := 1) (bad := fun k => r = .inl k) C X (metX6_checkNeed l G _ _ _ c5 X.1) gkX6_67 ekX6_67 rfl ⟨rfl, rfl⟩ ⟨Nat.le_of_ble_eq_true rfl, Nat.le_of_ble_eq_true rfl⟩ (by simp [Value.category]) ⟨Nat.le_of_ble_eq_true rfl, Nat.le_of_ble_eq_true rfl⟩ ⟨Nat.le_of_ble_eq_true rfl, Nat.le_of_ble_eq_true rfl⟩ rfl dX6_need_5 (fun j hj => ?_) (fun u hu => ?_)
      · cases r5 with
        | inr w => cases hj
        | inl j1 =>
          cases hj
          exact (Option.some.inj hf).symm
      · cases r5 with
        | inl j1 => cases hu
        | inr w =>
          cases hu
          refine b_aload_n C dX6_need_8 rfl 0 rfl ?_
          obtain ⟨r9, c9, hf⟩ := oB hf
          refine b_callVv (K := 6) (As := []) (res := r9) C (metX6_saveState l G _ _ _ hk0 c9) hk0 (by decide) rfl gkX6_46 ekX6_46 rfl ⟨rfl, rfl⟩ ⟨Nat.le_of_ble_eq_true rfl, Nat.le_of_ble_eq_true rfl⟩ (by simp [Value.category]) ⟨Nat.le_of_ble_eq_true rfl, Nat.le_of_ble_eq_true rfl⟩ rfl dX6_need_9 ?_
          refine b_aload_n C dX6_need_12 rfl 0 rfl ?_
          refine gfX6_10 C hk0 dX6_need_13 ?_
          refine b_iload_n C dX6_need_16 rfl 1 rfl ?_
          refine b_iload_n C dX6_need_17 rfl 2 rfl ?_
          obtain ⟨r18, c18, hf⟩ := oB hf
          refine b_callVi (K := 3) (As := [.int v1, .int v2]) (res := r18) C (metX3_changeNeed l G _ _ _ _ _ ((kd6 C.cl hk0).1) c18) ((kd6 C.cl hk0).1) (by decide) rfl gkX6_70 ekX6_70 rfl ⟨rfl, rfl⟩ ⟨Nat.le_of_ble_eq_true rfl, Nat.le_of_ble_eq_true rfl⟩ (by simp [Value.category]) ⟨Nat.le_of_ble_eq_true rfl, Nat.le_of_ble_eq_true rfl⟩ rfl dX6_need_18 ?_
          exact b_xiret C dX6_need_21 hf ⟨Nat.le_of_ble_eq_true rfl, Nat.le_of_ble_eq_true rfl⟩
end
theorem metX6_need (l : Launch) (G : gT) (i0 : Nat) (v1 : Int32) (v2 : Int32) (x : xS) (r : (Sum Nat (Int32 × xS))) (hk0 : KD G i0 6) (hf : fX6_need i0 v1 v2 x = some r) (hl : l.stackTraces = false) : xI l yX6_need cX6_need 3 (.int) rX6_need 2 [.ref (G.2.2 i0), .int v1, .int v2] G x r :=
  b_bodyX (by decide) hl (Nat.le_of_ble_eq_true rfl) rfl (fun p e s m args below meth c C X => wX6_need_b0 C X hk0  hf)
-- X6_pass
abbrev rX6_pass : Room := { frames := 6, cells := 1, slots := 6, locals := 146 }
def fX6_pass_b0 (i0 : Nat) (x : xS) : Option (Sum Nat (Int32 × xS)) :=
  Option.bind (fX3_canLetHourGo (i0 + 1) x) (fun r4 =>
  (if r4 = 0 then
  some (Sum.inl 3)
  else
  Option.bind (fX6_saveState i0 x) (fun r21 =>
  Option.bind (fX3_letHourGo (i0 + 1) r21) (fun r28 =>
  some (Sum.inr (r28.1, r28.2))))))
def fX6_pass (i0 : Nat) (x : xS) : Option (Sum Nat (Int32 × xS)) := fX6_pass_b0 i0 x
section
variable {p : Program} {l : Launch} {e : Env} {R : Room} {s : State} {m : MethodId} {args : Array Value} {below : List Frame} {meth : Method} {c : Code} {G : gT}
set_option maxHeartbeats 4000000 in
set_option maxRecDepth 100000 in
theorem wX6_pass_b0 (C : CT p s m args meth c cX6_pass 1 RX6 (some (.int)) G (pA G s.heap.size)) (X : XT l c (pA G s.heap.size) s) {i0 : Nat} {x : xS} {r : (Sum Nat (Int32 × xS))} (hk0 : KD G i0 6) (hf : fX6_pass_b0 i0 x = some r) : WB p l e rX6_pass s m args below meth c 1 G (pA G s.heap.size) (qxI below G x r args s 1) 0 0 0 [(0, .ref (G.2.2 i0))] [] x := by
  unfold fX6_pass_b0 at hf
  refine b_aload_n C dX6_pass_0 rfl 0 rfl ?_
  refine gfX6_10 C hk0 dX6_pass_1 ?_
  obtain ⟨r4, c4, hf⟩ := oB hf
  refine b_callVi (K := 3) (As := []) (res := (r4, x)) C (metX3_canLetHourGo l G _ _ _ ((kd6 C.cl hk0).1) c4) ((kd6 C.cl hk0).1) (by decide) rfl gkX6_73 ekX6_73 rfl ⟨rfl, rfl⟩ ⟨Nat.le_of_ble_eq_true rfl, Nat.le_of_ble_eq_true rfl⟩ (by simp [Value.category]) ⟨Nat.zero_le _, Nat.zero_le _⟩ rfl dX6_pass_4 ?_
  refine b_if_ne (tgt := 20) C dX6_pass_7 (by decide) (fun c7 => ?_) (fun c7 => ?_)
  · have hf := iF c7 hf
    refine b_aload_n C dX6_pass_20 rfl 0 rfl ?_
    obtain ⟨r21, c21, hf⟩ := oB hf
    refine b_callVv (K := 6) (As := []) (res := r21) C (metX6_saveState l G _ _ _ hk0 c21) hk0 (by decide) rfl gkX6_46 ekX6_46 rfl ⟨rfl, rfl⟩ ⟨Nat.le_of_ble_eq_true rfl, Nat.le_of_ble_eq_true rfl⟩ (by simp [Value.category]) ⟨Nat.zero_le _, Nat.zero_le _⟩ rfl dX6_pass_21 ?_
    refine b_aload_n C dX6_pass_24 rfl 0 rfl ?_
    refine gfX6_10 C hk0 dX6_pass_25 ?_
    obtain ⟨r28, c28, hf⟩ := oB hf
    refine b_callVi (K := 3) (As := []) (res := r28) C (metX3_letHourGo l G _ _ _ ((kd6 C.cl hk0).1) c28) ((kd6 C.cl hk0).1) (by decide) rfl gkX6_84 ekX6_84 rfl ⟨rfl, rfl⟩ ⟨Nat.le_of_ble_eq_true rfl, Nat.le_of_ble_eq_true rfl⟩ (by simp [Value.category]) ⟨Nat.zero_le _, Nat.zero_le _⟩ rfl dX6_pass_28 ?_
    exact b_xiret C dX6_pass_31 hf ⟨Nat.le_of_ble_eq_true rfl, Nat.le_of_ble_eq_true rfl⟩
  · have hf := iT c7 hf
    exact b_thr3 C X w_528 w_529 X.2.2.2.2.s79 ((Option.some.inj hf).symm) dX6_pass_10 dX6_pass_13 dX6_pass_14 dX6_pass_16 dX6_pass_19 ⟨Nat.le_of_ble_eq_true rfl, Nat.le_of_ble_eq_true rfl⟩ ⟨Nat.le_of_ble_eq_true rfl, Nat.le_of_ble_eq_true rfl⟩ ⟨Nat.le_of_ble_eq_true rfl, Nat.le_of_ble_eq_true rfl⟩
end
theorem metX6_pass (l : Launch) (G : gT) (i0 : Nat) (x : xS) (r : (Sum Nat (Int32 × xS))) (hk0 : KD G i0 6) (hf : fX6_pass i0 x = some r) (hl : l.stackTraces = false) : xI l yX6_pass cX6_pass 1 (.int) rX6_pass 1 [.ref (G.2.2 i0)] G x r :=
  b_bodyX (by decide) hl (Nat.le_of_ble_eq_true rfl) rfl (fun p e s m args below meth c C X => wX6_pass_b0 C X hk0  hf)
-- X6_refused
abbrev rX6_refused : Room := { frames := 7, cells := 1, slots := 6, locals := 104 }
def fX6_refused_b0 (i0 : Nat) (v1 : Int32) (x : xS)  : Option (Sum Nat Int32) :=
  Option.bind (fX6_checkRange v1 1 4 x) (fun r3 => match r3 with
  | Sum.inl j => some (Sum.inl j)
  | Sum.inr _ =>
  Option.bind (fX3_refusedFor (i0 + 1) v1 x) (fun r11 =>
  some (Sum.inr r11)))
def fX6_refused (i0 : Nat) (v1 : Int32) (x : xS) : Option (Sum Nat Int32) := fX6_refused_b0 i0 v1 x
section
variable {p : Program} {l : Launch} {e : Env} {R : Room} {s : State} {m : MethodId} {args : Array Value} {below : List Frame} {meth : Method} {c : Code} {G : gT}
set_option maxHeartbeats 4000000 in
set_option maxRecDepth 100000 in
theorem wX6_refused_b0 (C : CT p s m args meth c cX6_refused 2 RX6 (some (.int)) G (pA G s.heap.size)) (X : XT l c (pA G s.heap.size) s) {i0 : Nat} {v1 : Int32} {x : xS}  {r : (Sum Nat Int32)} (hk0 : KD G i0 6) (hf : fX6_refused_b0 i0 v1 x  = some r) : WB p l e rX6_refused s m args below meth c 2 G (pA G s.heap.size) (qxI below G x (Sum.map id (fun v => (v, x)) r) args s 1) 0 0 0 [(0, .ref (G.2.2 i0)), (1, .int v1)] [] x := by
  unfold fX6_refused_b0 at hf
  refine b_iload_n C dX6_refused_0 rfl 1 rfl ?_
  refine b_iconst (v := 1) C dX6_refused_1 (by decide) ?_
  refine b_iconst (v := 4) C dX6_refused_2 (by decide) ?_
  obtain ⟨r3, c3, hf⟩ := oB hf
  refine b_xcSv (As := [.int v1, .int 1, .int 4]) (res := Sum.map id (fun _ => x) r3) (mc1 := 1) (bad := fun k => (Sum.map id (fun v => (v, x)) r) = .inl k) C X (metX6_checkRange l G _ _ _ _ _ c3 X.1) gkX6_160 ekX6_160 rfl ⟨rfl, rfl⟩ ⟨Nat.le_of_ble_eq_true rfl, Nat.le_of_ble_eq_true rfl⟩ (by simp [Value.category]) ⟨Nat.le_of_ble_eq_true rfl, Nat.le_of_ble_eq_true rfl⟩ ⟨Nat.le_of_ble_eq_true rfl, Nat.le_of_ble_eq_true rfl⟩ rfl dX6_refused_3 (fun j hj => ?_) (fun u hu => ?_)
  · cases r3 with
    | inr w => cases hj
    | inl j1 =>
      cases hj
      exact (Option.some.inj (congrArg (Option.map (Sum.map id (fun v => (v, x)))) hf)).symm
  · cases r3 with
    | inl j1 => cases hu
    | inr w =>
      cases hu
      refine b_aload_n C dX6_refused_6 rfl 0 rfl ?_
      refine gfX6_10 C hk0 dX6_refused_7 ?_
      refine b_iload_n C dX6_refused_10 rfl 1 rfl ?_
      obtain ⟨r11, c11, hf⟩ := oB hf
      refine b_callVi (K := 3) (As := [.int v1]) (res := (r11, x)) C (metX3_refusedFor l G _ _ _ _ ((kd6 C.cl hk0).1) c11) ((kd6 C.cl hk0).1) (by decide) rfl gkX6_169 ekX6_169 rfl ⟨rfl, rfl⟩ ⟨Nat.le_of_ble_eq_true rfl, Nat.le_of_ble_eq_true rfl⟩ (by simp [Value.category]) ⟨Nat.le_of_ble_eq_true rfl, Nat.le_of_ble_eq_true rfl⟩ rfl dX6_refused_11 ?_
      exact b_xiret C dX6_refused_14 (congrArg (Option.map (Sum.map id (fun v => (v, x)))) hf) ⟨Nat.le_of_ble_eq_true rfl, Nat.le_of_ble_eq_true rfl⟩
end
theorem metX6_refused (l : Launch) (G : gT) (i0 : Nat) (v1 : Int32) (x : xS) (r : (Sum Nat Int32)) (hk0 : KD G i0 6) (hf : fX6_refused i0 v1 x = some r) (hl : l.stackTraces = false) : xI l yX6_refused cX6_refused 2 (.int) rX6_refused 1 [.ref (G.2.2 i0), .int v1] G x (Sum.map id (fun v => (v, x)) r) :=
  b_bodyX (by decide) hl (Nat.le_of_ble_eq_true rfl) rfl (fun p e s m args below meth c C X => wX6_refused_b0 C X hk0  hf)
-- X6_run
abbrev rX6_run : Room := { frames := 6, cells := 1, slots := 6, locals := 146 }
def fX6_run_b0 (i0 : Nat) (x : xS) : Option (Sum Nat (Int32 × xS)) :=
  Option.bind (fX0_tellsAskings (i0 + 99) x) (fun r4 =>
  (if r4 = 0 then
  some (Sum.inl 2)
  else
  Option.bind (fX6_saveState i0 x) (fun r21 =>
  Option.bind (fX6_doText i0 r21) (fun r25 =>
  Option.bind (fX0_empty (i0 + 99) r25.2) (fun r33 =>
  some (Sum.inr (r25.1, r33.2)))))))
def fX6_run (i0 : Nat) (x : xS) : Option (Sum Nat (Int32 × xS)) := fX6_run_b0 i0 x
section
variable {p : Program} {l : Launch} {e : Env} {R : Room} {s : State} {m : MethodId} {args : Array Value} {below : List Frame} {meth : Method} {c : Code} {G : gT}
set_option maxHeartbeats 4000000 in
set_option maxRecDepth 100000 in
theorem wX6_run_b0 (C : CT p s m args meth c cX6_run 2 RX6 (some (.int)) G (pA G s.heap.size)) (X : XT l c (pA G s.heap.size) s) {i0 : Nat} {x : xS} {r : (Sum Nat (Int32 × xS))} (hk0 : KD G i0 6) (hf : fX6_run_b0 i0 x = some r) : WB p l e rX6_run s m args below meth c 2 G (pA G s.heap.size) (qxI below G x r args s 1) 0 0 0 [(0, .ref (G.2.2 i0))] [] x := by
  unfold fX6_run_b0 at hf
  refine b_aload_n C dX6_run_0 rfl 0 rfl ?_
  refine gfX6_38 C hk0 dX6_run_1 ?_
  obtain ⟨r4, c4, hf⟩ := oB hf
  refine b_callVi (K := 0) (As := []) (res := (r4, x)) C (metX0_tellsAskings l G _ _ _ ((kd6 C.cl hk0).2.2.2.2) c4) ((kd6 C.cl hk0).2.2.2.2) (by decide) rfl gkX6_110 ekX6_110 rfl ⟨rfl, rfl⟩ ⟨Nat.le_of_ble_eq_true rfl, Nat.le_of_ble_eq_true rfl⟩ (by simp [Value.category]) ⟨Nat.zero_le _, Nat.zero_le _⟩ rfl dX6_run_4 ?_
  refine b_if_ne (tgt := 20) C dX6_run_7 (by decide) (fun c7 => ?_) (fun c7 => ?_)
  · have hf := iF c7 hf
    refine b_aload_n C dX6_run_20 rfl 0 rfl ?_
    obtain ⟨r21, c21, hf⟩ := oB hf
    refine b_callVv (K := 6) (As := []) (res := r21) C (metX6_saveState l G _ _ _ hk0 c21) hk0 (by decide) rfl gkX6_46 ekX6_46 rfl ⟨rfl, rfl⟩ ⟨Nat.le_of_ble_eq_true rfl, Nat.le_of_ble_eq_true rfl⟩ (by simp [Value.category]) ⟨Nat.zero_le _, Nat.zero_le _⟩ rfl dX6_run_21 ?_
    refine b_aload_n C dX6_run_24 rfl 0 rfl ?_
    obtain ⟨r25, c25, hf⟩ := oB hf
    refine b_callVi (K := 6) (As := []) (res := r25) C (metX6_doText l G _ _ _ hk0 c25) hk0 (by decide) rfl gkX6_115 ekX6_115 rfl ⟨rfl, rfl⟩ ⟨Nat.le_of_ble_eq_true rfl, Nat.le_of_ble_eq_true rfl⟩ (by simp [Value.category]) ⟨Nat.zero_le _, Nat.zero_le _⟩ rfl dX6_run_25 ?_
    refine b_istore_n (lv' := [(1, .int r25.1), (0, .ref (G.2.2 i0))]) C dX6_run_28 rfl (by decide) rfl ?_
    refine b_aload_n C dX6_run_29 rfl 1 rfl ?_
    refine gfX6_38 C hk0 dX6_run_30 ?_
    obtain ⟨r33, c33, hf⟩ := oB hf
    refine b_callVi (K := 0) (As := []) (res := r33) C (metX0_empty l G _ _ _ ((kd6 C.cl hk0).2.2.2.2) c33) ((kd6 C.cl hk0).2.2.2.2) (by decide) rfl gkX6_104 ekX6_104 rfl ⟨rfl, rfl⟩ ⟨Nat.le_of_ble_eq_true rfl, Nat.le_of_ble_eq_true rfl⟩ (by simp [Value.category]) ⟨Nat.zero_le _, Nat.zero_le _⟩ rfl dX6_run_33 ?_
    refine b_pop C dX6_run_36 rfl ?_
    refine b_iload_n C dX6_run_37 rfl 0 rfl ?_
    exact b_xiret C dX6_run_38 hf ⟨Nat.le_of_ble_eq_true rfl, Nat.le_of_ble_eq_true rfl⟩
  · have hf := iT c7 hf
    exact b_thr2 C X w_518 w_519 X.2.2.2.2.s113 ((Option.some.inj hf).symm) dX6_run_10 dX6_run_13 dX6_run_14 dX6_run_16 dX6_run_19 ⟨Nat.le_of_ble_eq_true rfl, Nat.le_of_ble_eq_true rfl⟩ ⟨Nat.le_of_ble_eq_true rfl, Nat.le_of_ble_eq_true rfl⟩ ⟨Nat.le_of_ble_eq_true rfl, Nat.le_of_ble_eq_true rfl⟩
end
theorem metX6_run (l : Launch) (G : gT) (i0 : Nat) (x : xS) (r : (Sum Nat (Int32 × xS))) (hk0 : KD G i0 6) (hf : fX6_run i0 x = some r) (hl : l.stackTraces = false) : xI l yX6_run cX6_run 2 (.int) rX6_run 1 [.ref (G.2.2 i0)] G x r :=
  b_bodyX (by decide) hl (Nat.le_of_ble_eq_true rfl) rfl (fun p e s m args below meth c C X => wX6_run_b0 C X hk0  hf)
-- X6_set
abbrev rX6_set : Room := { frames := 8, cells := 1, slots := 6, locals := 146 }
def fX6_set_b0 (i0 : Nat) (v1 : Int32) (x : xS) : Option (Sum Nat (Int32 × xS)) :=
  Option.bind (fX6_checkNeed v1 x) (fun r1 => match r1 with
  | Sum.inl j => some (Sum.inl j)
  | Sum.inr _ =>
  Option.bind (fX6_saveState i0 x) (fun r5 =>
  Option.bind (fX3_changeSetting (i0 + 1) v1 r5) (fun r13 =>
  some (Sum.inr (r13.1, r13.2)))))
def fX6_set (i0 : Nat) (v1 : Int32) (x : xS) : Option (Sum Nat (Int32 × xS)) := fX6_set_b0 i0 v1 x
section
variable {p : Program} {l : Launch} {e : Env} {R : Room} {s : State} {m : MethodId} {args : Array Value} {below : List Frame} {meth : Method} {c : Code} {G : gT}
set_option maxHeartbeats 4000000 in
set_option maxRecDepth 100000 in
theorem wX6_set_b0 (C : CT p s m args meth c cX6_set 2 RX6 (some (.int)) G (pA G s.heap.size)) (X : XT l c (pA G s.heap.size) s) {i0 : Nat} {v1 : Int32} {x : xS} {r : (Sum Nat (Int32 × xS))} (hk0 : KD G i0 6) (hf : fX6_set_b0 i0 v1 x = some r) : WB p l e rX6_set s m args below meth c 2 G (pA G s.heap.size) (qxI below G x r args s 1) 0 0 0 [(0, .ref (G.2.2 i0)), (1, .int v1)] [] x := by
  unfold fX6_set_b0 at hf
  refine b_iload_n C dX6_set_0 rfl 1 rfl ?_
  obtain ⟨r1, c1, hf⟩ := oB hf
  refine b_xcSv (As := [.int v1]) (res := Sum.map id (fun _ => x) r1) (mc1 := 1) (bad := fun k => r = .inl k) C X (metX6_checkNeed l G _ _ _ c1 X.1) gkX6_67 ekX6_67 rfl ⟨rfl, rfl⟩ ⟨Nat.le_of_ble_eq_true rfl, Nat.le_of_ble_eq_true rfl⟩ (by simp [Value.category]) ⟨Nat.le_of_ble_eq_true rfl, Nat.le_of_ble_eq_true rfl⟩ ⟨Nat.le_of_ble_eq_true rfl, Nat.le_of_ble_eq_true rfl⟩ rfl dX6_set_1 (fun j hj => ?_) (fun u hu => ?_)
  · cases r1 with
    | inr w => cases hj
    | inl j1 =>
      cases hj
      exact (Option.some.inj hf).symm
  · cases r1 with
    | inl j1 => cases hu
    | inr w =>
      cases hu
      refine b_aload_n C dX6_set_4 rfl 0 rfl ?_
      obtain ⟨r5, c5, hf⟩ := oB hf
      refine b_callVv (K := 6) (As := []) (res := r5) C (metX6_saveState l G _ _ _ hk0 c5) hk0 (by decide) rfl gkX6_46 ekX6_46 rfl ⟨rfl, rfl⟩ ⟨Nat.le_of_ble_eq_true rfl, Nat.le_of_ble_eq_true rfl⟩ (by simp [Value.category]) ⟨Nat.le_of_ble_eq_true rfl, Nat.le_of_ble_eq_true rfl⟩ rfl dX6_set_5 ?_
      refine b_aload_n C dX6_set_8 rfl 0 rfl ?_
      refine gfX6_10 C hk0 dX6_set_9 ?_
      refine b_iload_n C dX6_set_12 rfl 1 rfl ?_
      obtain ⟨r13, c13, hf⟩ := oB hf
      refine b_callVi (K := 3) (As := [.int v1]) (res := r13) C (metX3_changeSetting l G _ _ _ _ ((kd6 C.cl hk0).1) c13) ((kd6 C.cl hk0).1) (by decide) rfl gkX6_88 ekX6_88 rfl ⟨rfl, rfl⟩ ⟨Nat.le_of_ble_eq_true rfl, Nat.le_of_ble_eq_true rfl⟩ (by simp [Value.category]) ⟨Nat.le_of_ble_eq_true rfl, Nat.le_of_ble_eq_true rfl⟩ rfl dX6_set_13 ?_
      exact b_xiret C dX6_set_16 hf ⟨Nat.le_of_ble_eq_true rfl, Nat.le_of_ble_eq_true rfl⟩
end
theorem metX6_set (l : Launch) (G : gT) (i0 : Nat) (v1 : Int32) (x : xS) (r : (Sum Nat (Int32 × xS))) (hk0 : KD G i0 6) (hf : fX6_set i0 v1 x = some r) (hl : l.stackTraces = false) : xI l yX6_set cX6_set 2 (.int) rX6_set 1 [.ref (G.2.2 i0), .int v1] G x r :=
  b_bodyX (by decide) hl (Nat.le_of_ble_eq_true rfl) rfl (fun p e s m args below meth c C X => wX6_set_b0 C X hk0  hf)
-- X6_undo
abbrev rX6_undo : Room := { frames := 6, cells := 1, slots := 6, locals := 126 }
def fX6_undo_b35 (i0 : Nat) (s1 : Int32) (x : xS) : Option (Sum Nat (Int32 × xS)) :=
  lt1 (up1 x i0 6 s1) (fun x35 =>
  lt1 (up1 x35 i0 5 ((x35.1 i0 5) - 1)) (fun x45 =>
  Option.bind (fX5_restore (i0 + 34) (x45.1 i0 6) (i0 + 1) x45) (fun r60 =>
  some (Sum.inr ((r60.1 i0 5), r60)))))
def fX6_undo_b0 (i0 : Nat) (x : xS) : Option (Sum Nat (Int32 × xS)) :=
  (if (x.1 i0 5) = 0 then
  some (Sum.inl 3)
  else
  (if (x.1 i0 6) = 0 then
  fX6_undo_b35 i0 5 x
  else
  fX6_undo_b35 i0 ((x.1 i0 6) - 1) x))
def fX6_undo (i0 : Nat) (x : xS) : Option (Sum Nat (Int32 × xS)) := fX6_undo_b0 i0 x
section
variable {p : Program} {l : Launch} {e : Env} {R : Room} {s : State} {m : MethodId} {args : Array Value} {below : List Frame} {meth : Method} {c : Code} {G : gT}
set_option maxHeartbeats 4000000 in
set_option maxRecDepth 100000 in
theorem wX6_undo_b35 (C : CT p s m args meth c cX6_undo 1 RX6 (some (.int)) G (pA G s.heap.size)) (X : XT l c (pA G s.heap.size) s) {x00 : xS} {i0 : Nat} {s1 : Int32} {x : xS} {r : (Sum Nat (Int32 × xS))} (hk0 : KD G i0 6) (hf : fX6_undo_b35 i0 s1 x = some r) : WB p l e rX6_undo s m args below meth c 1 G (pA G s.heap.size) (qxI below G x00 r args s 1) 0 0 35 [(0, .ref (G.2.2 i0))] [.int s1, .ref (G.2.2 i0)] x := by
  unfold fX6_undo_b35 at hf
  obtain ⟨x35, e35, hf⟩ := lN1 hf
  refine pfX6_143 C hk0 dX6_undo_35 e35 ?_
  refine b_aload_n C dX6_undo_38 rfl 0 rfl ?_
  refine b_dup C dX6_undo_39 rfl ?_
  refine gfX6_137 C hk0 dX6_undo_40 ?_
  refine b_iconst (v := 1) C dX6_undo_43 (by decide) ?_
  refine b_isub C dX6_undo_44 ?_
  obtain ⟨x45, e45, hf⟩ := lN1 hf
  refine pfX6_137 C hk0 dX6_undo_45 e45 ?_
  refine b_aload_n C dX6_undo_48 rfl 0 rfl ?_
  refine gfX6_25 C hk0 dX6_undo_49 ?_
  refine b_aload_n C dX6_undo_52 rfl 0 rfl ?_
  refine gfX6_143 C hk0 dX6_undo_53 ?_
  refine b_aload_n C dX6_undo_56 rfl 0 rfl ?_
  refine gfX6_10 C hk0 dX6_undo_57 ?_
  obtain ⟨r60, c60, hf⟩ := oB hf
  refine b_callVv (K := 5) (As := [.int (x45.1 i0 6), .ref (G.2.2 (i0 + 1))]) (res := r60) C (metX5_restore l G _ _ _ _ _ ((kd6 C.cl hk0).2.2.1) ((kd6 C.cl hk0).1) c60) ((kd6 C.cl hk0).2.2.1) (by decide) rfl gkX6_134 ekX6_134 rfl ⟨rfl, rfl⟩ ⟨Nat.le_of_ble_eq_true rfl, Nat.le_of_ble_eq_true rfl⟩ (by simp [Value.category]) ⟨Nat.zero_le _, Nat.zero_le _⟩ rfl dX6_undo_60 ?_
  refine b_aload_n C dX6_undo_63 rfl 0 rfl ?_
  refine gfX6_137 C hk0 dX6_undo_64 ?_
  exact b_xiret C dX6_undo_67 hf ⟨Nat.le_of_ble_eq_true rfl, Nat.le_of_ble_eq_true rfl⟩
set_option maxHeartbeats 4000000 in
set_option maxRecDepth 100000 in
theorem wX6_undo_b0 (C : CT p s m args meth c cX6_undo 1 RX6 (some (.int)) G (pA G s.heap.size)) (X : XT l c (pA G s.heap.size) s) {i0 : Nat} {x : xS} {r : (Sum Nat (Int32 × xS))} (hk0 : KD G i0 6) (hf : fX6_undo_b0 i0 x = some r) : WB p l e rX6_undo s m args below meth c 1 G (pA G s.heap.size) (qxI below G x r args s 1) 0 0 0 [(0, .ref (G.2.2 i0))] [] x := by
  unfold fX6_undo_b0 at hf
  refine b_aload_n C dX6_undo_0 rfl 0 rfl ?_
  refine gfX6_137 C hk0 dX6_undo_1 ?_
  refine b_if_ne (tgt := 17) C dX6_undo_4 (by decide) (fun c4 => ?_) (fun c4 => ?_)
  · have hf := iF c4 hf
    refine b_aload_n C dX6_undo_17 rfl 0 rfl ?_
    refine b_aload_n C dX6_undo_18 rfl 0 rfl ?_
    refine gfX6_143 C hk0 dX6_undo_19 ?_
    refine b_if_ne (tgt := 29) C dX6_undo_22 (by decide) (fun c22 => ?_) (fun c22 => ?_)
    · have hf := iF c22 hf
      refine b_aload_n C dX6_undo_29 rfl 0 rfl ?_
      refine gfX6_143 C hk0 dX6_undo_30 ?_
      refine b_iconst (v := 1) C dX6_undo_33 (by decide) ?_
      refine b_isub C dX6_undo_34 ?_
      exact wX6_undo_b35 C X  hk0 hf
    · have hf := iT c22 hf
      refine b_iconst (v := 5) C dX6_undo_25 (by decide) ?_
      refine b_goto (tgt := 35) C dX6_undo_26 (by decide) ?_
      exact wX6_undo_b35 C X  hk0 hf
  · have hf := iT c4 hf
    exact b_thr3 C X w_528 w_529 X.2.2.2.2.s141 ((Option.some.inj hf).symm) dX6_undo_7 dX6_undo_10 dX6_undo_11 dX6_undo_13 dX6_undo_16 ⟨Nat.le_of_ble_eq_true rfl, Nat.le_of_ble_eq_true rfl⟩ ⟨Nat.le_of_ble_eq_true rfl, Nat.le_of_ble_eq_true rfl⟩ ⟨Nat.le_of_ble_eq_true rfl, Nat.le_of_ble_eq_true rfl⟩
end
theorem metX6_undo (l : Launch) (G : gT) (i0 : Nat) (x : xS) (r : (Sum Nat (Int32 × xS))) (hk0 : KD G i0 6) (hf : fX6_undo i0 x = some r) (hl : l.stackTraces = false) : xI l yX6_undo cX6_undo 1 (.int) rX6_undo 1 [.ref (G.2.2 i0)] G x r :=
  b_bodyX (by decide) hl (Nat.le_of_ble_eq_true rfl) rfl (fun p e s m args below meth c C X => wX6_undo_b0 C X hk0  hf)
