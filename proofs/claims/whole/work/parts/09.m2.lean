-- X7_in
abbrev rX7_in : Room := { frames := 0, cells := 0, slots := 0, locals := 0 }
def fX7_in_b14 (x : xS)  : Option Int32 :=
  some 0
def fX7_in_b0 (v0 : Int32) (v1 : Int32) (v2 : Int32) (x : xS)  : Option Int32 :=
  (if v0 < v1 then
  fX7_in_b14 x 
  else
  (if v2 < v0 then
  fX7_in_b14 x 
  else
  some 1))
def fX7_in (v0 : Int32) (v1 : Int32) (v2 : Int32) (x : xS) : Option Int32 := fX7_in_b0 v0 v1 v2 x
section
variable {p : Program} {l : Launch} {e : Env} {R : Room} {s : State} {m : MethodId} {args : Array Value} {below : List Frame} {meth : Method} {c : Code} {G : gT}
set_option maxHeartbeats 4000000 in
set_option maxRecDepth 100000 in
theorem wX7_in_b14 (C : CT p s m args meth c cX7_in 3 RX7 (some (.boolean)) G (pA G s.heap.size)) {x : xS}  {r : Int32}  (hf : fX7_in_b14 x  = some r) : WB p l e rX7_in s m args below meth c 3 G (pA G s.heap.size) (qI below G (r, x) args s 0 0) 0 0 14 [] [] x := by
  unfold fX7_in_b14 at hf
  refine b_iconst (v := 0) C dX7_in_14 (by decide) ?_
  exact b_iretz C (by decide) dX7_in_15 (congrArg (Option.map (fun q => (q, x))) hf)
set_option maxHeartbeats 4000000 in
set_option maxRecDepth 100000 in
theorem wX7_in_b0 (C : CT p s m args meth c cX7_in 3 RX7 (some (.boolean)) G (pA G s.heap.size)) {v0 : Int32} {v1 : Int32} {v2 : Int32} {x : xS}  {r : Int32}  (hf : fX7_in_b0 v0 v1 v2 x  = some r) : WB p l e rX7_in s m args below meth c 3 G (pA G s.heap.size) (qI below G (r, x) args s 0 0) 0 0 0 [(0, .int v0), (1, .int v1), (2, .int v2)] [] x := by
  unfold fX7_in_b0 at hf
  refine b_iload_n C dX7_in_0 rfl 0 rfl ?_
  refine b_iload_n C dX7_in_1 rfl 1 rfl ?_
  refine b_icmp_lt (tgt := 14) C dX7_in_2 (by decide) (fun c2 => ?_) (fun c2 => ?_)
  · have hf := iT c2 hf
    refine b_pm [] (lv' := []) rfl ?_
    exact wX7_in_b14 C   hf
  · have hf := iF c2 hf
    refine b_iload_n C dX7_in_5 rfl 0 rfl ?_
    refine b_iload_n C dX7_in_6 rfl 2 rfl ?_
    refine b_icmp_gt (tgt := 14) C dX7_in_7 (by decide) (fun c7 => ?_) (fun c7 => ?_)
    · have hf := iT c7 hf
      refine b_pm [] (lv' := []) rfl ?_
      exact wX7_in_b14 C   hf
    · have hf := iF c7 hf
      refine b_iconst (v := 1) C dX7_in_10 (by decide) ?_
      refine b_goto (tgt := 15) C dX7_in_11 (by decide) ?_
      exact b_iretz C (by decide) dX7_in_15 (congrArg (Option.map (fun q => (q, x))) hf)
end
theorem metX7_in (l : Launch) (G : gT) (v0 : Int32) (v1 : Int32) (v2 : Int32) (x : xS) (r : Int32)  (hf : fX7_in v0 v1 v2 x = some r) : cI l yX7_in cX7_in 3 (.boolean) rX7_in [.int v0, .int v1, .int v2] G x (r, x) :=
  b_body (by decide) (Nat.le_of_ble_eq_true rfl) rfl (fun p e s m args below meth c C => wX7_in_b0 C  hf)
-- X7_holds
abbrev rX7_holds : Room := { frames := 0, cells := 0, slots := 0, locals := 0 }
def fX7_holds_b0 (i0 : Nat) (v1 : Int32) (x : xS) : Option (Int32 × xS) :=
  lt1 (up1 x i0 0 v1) (fun x2 =>
  (if v1 = 0 then
  some (1, x2)
  else
  some (0, x2)))
def fX7_holds (i0 : Nat) (v1 : Int32) (x : xS) : Option (Int32 × xS) := fX7_holds_b0 i0 v1 x
section
variable {p : Program} {l : Launch} {e : Env} {R : Room} {s : State} {m : MethodId} {args : Array Value} {below : List Frame} {meth : Method} {c : Code} {G : gT}
set_option maxHeartbeats 4000000 in
set_option maxRecDepth 100000 in
theorem wX7_holds_b0 (C : CT p s m args meth c cX7_holds 2 RX7 (some (.boolean)) G (pA G s.heap.size)) {i0 : Nat} {v1 : Int32} {x : xS} {r : (Int32 × xS)} (hk0 : KD G i0 7) (hf : fX7_holds_b0 i0 v1 x = some r) : WB p l e rX7_holds s m args below meth c 2 G (pA G s.heap.size) (qI below G r args s 0 0) 0 0 0 [(0, .ref (G.2.2 i0)), (1, .int v1)] [] x := by
  unfold fX7_holds_b0 at hf
  refine b_aload_n C dX7_holds_0 rfl 0 rfl ?_
  refine b_iload_n C dX7_holds_1 rfl 1 rfl ?_
  obtain ⟨x2, e2, hf⟩ := lN1 hf
  refine pfX7_29 C hk0 dX7_holds_2 e2 ?_
  refine b_iload_n C dX7_holds_5 rfl 1 rfl ?_
  refine b_if_ne (tgt := 13) C dX7_holds_6 (by decide) (fun c6 => ?_) (fun c6 => ?_)
  · have hf := iF c6 hf
    refine b_iconst (v := 0) C dX7_holds_13 (by decide) ?_
    exact b_iretz C (by decide) dX7_holds_14 hf
  · have hf := iT c6 hf
    refine b_iconst (v := 1) C dX7_holds_9 (by decide) ?_
    refine b_goto (tgt := 14) C dX7_holds_10 (by decide) ?_
    exact b_iretz C (by decide) dX7_holds_14 hf
end
theorem metX7_holds (l : Launch) (G : gT) (i0 : Nat) (v1 : Int32) (x : xS) (r : (Int32 × xS)) (hk0 : KD G i0 7) (hf : fX7_holds i0 v1 x = some r) : cI l yX7_holds cX7_holds 2 (.boolean) rX7_holds [.ref (G.2.2 i0), .int v1] G x r :=
  b_body (by decide) (Nat.le_of_ble_eq_true rfl) rfl (fun p e s m args below meth c C => wX7_holds_b0 C hk0 hf)
-- X7_append
abbrev rX7_append : Room := { frames := 1, cells := 0, slots := 0, locals := 22 }
def fX7_append_b30 (i0 : Nat) (v1 : Int32) (s1 : Int32) (x : xS) : Option (Int32 × xS) :=
  Option.bind (fX7_holds i0 s1 x) (fun r30 =>
  (if r30.1 = 0 then
  some (0, r30.2)
  else
  (if (r30.2.1 i0 8) < 0 ∨ ln (i0 + 5) ≤ (r30.2.1 i0 8).toNatClampNeg then none else
  lt1 (up1 r30.2 (i0 + 5) (r30.2.1 i0 8).toNatClampNeg v1) (fun x47 =>
  lt1 (up1 x47 i0 8 ((x47.1 i0 8) + 1)) (fun x55 =>
  some ((x55.1 i0 8), x55))))))
def fX7_append_b0 (i0 : Nat) (v1 : Int32) (x : xS) : Option (Int32 × xS) :=
  Option.bind (fX7_in v1 33 126 x) (fun r6 =>
  (if r6 = 0 then
  fX7_append_b30 i0 v1 1 x
  else
  (if (x.1 i0 8) = 60 then
  fX7_append_b30 i0 v1 2 x
  else
  fX7_append_b30 i0 v1 0 x)))
def fX7_append (i0 : Nat) (v1 : Int32) (x : xS) : Option (Int32 × xS) := fX7_append_b0 i0 v1 x
section
variable {p : Program} {l : Launch} {e : Env} {R : Room} {s : State} {m : MethodId} {args : Array Value} {below : List Frame} {meth : Method} {c : Code} {G : gT}
set_option maxHeartbeats 4000000 in
set_option maxRecDepth 100000 in
theorem wX7_append_b30 (C : CT p s m args meth c cX7_append 2 RX7 (some (.int)) G (pA G s.heap.size)) {i0 : Nat} {v1 : Int32} {s1 : Int32} {x : xS} {r : (Int32 × xS)} (hk0 : KD G i0 7) (hf : fX7_append_b30 i0 v1 s1 x = some r) : WB p l e rX7_append s m args below meth c 2 G (pA G s.heap.size) (qI below G r args s 0 0) 0 0 30 [(0, .ref (G.2.2 i0)), (1, .int v1)] [.int s1, .ref (G.2.2 i0)] x := by
  unfold fX7_append_b30 at hf
  obtain ⟨r30, c30, hf⟩ := oB hf
  refine b_callVi (K := 7) (As := [.int s1]) (res := r30) C (metX7_holds l G _ _ _ _ hk0 c30) hk0 (by decide) rfl gkX7_78 ekX7_78 rfl ⟨rfl, rfl⟩ ⟨Nat.le_of_ble_eq_true rfl, Nat.le_of_ble_eq_true rfl⟩ (by simp [Value.category]) ⟨Nat.zero_le _, Nat.zero_le _⟩ rfl dX7_append_30 ?_
  refine b_if_ne (tgt := 38) C dX7_append_33 (by decide) (fun c33 => ?_) (fun c33 => ?_)
  · have hf := iF c33 hf
    refine b_aload_n C dX7_append_38 rfl 0 rfl ?_
    refine gfX7_22 C hk0 dX7_append_39 ?_
    refine b_aload_n C dX7_append_42 rfl 0 rfl ?_
    refine gfX7_97 C hk0 dX7_append_43 ?_
    refine b_iload_n C dX7_append_46 rfl 1 rfl ?_
    obtain ⟨g47, hf⟩ := iN hf
    obtain ⟨x47, e47, hf⟩ := lN1 hf
    refine b_iast C ((kd7 C.cl hk0).2.2.2.2) g47 dX7_append_47 ?_
    rw [e47]
    refine b_aload_n C dX7_append_48 rfl 0 rfl ?_
    refine b_dup C dX7_append_49 rfl ?_
    refine gfX7_97 C hk0 dX7_append_50 ?_
    refine b_iconst (v := 1) C dX7_append_53 (by decide) ?_
    refine b_iadd C dX7_append_54 ?_
    obtain ⟨x55, e55, hf⟩ := lN1 hf
    refine pfX7_97 C hk0 dX7_append_55 e55 ?_
    refine b_aload_n C dX7_append_58 rfl 0 rfl ?_
    refine gfX7_97 C hk0 dX7_append_59 ?_
    exact b_ireti C dX7_append_62 hf
  · have hf := iT c33 hf
    refine b_iconst (v := 0) C dX7_append_36 (by decide) ?_
    exact b_ireti C dX7_append_37 hf
set_option maxHeartbeats 4000000 in
set_option maxRecDepth 100000 in
theorem wX7_append_b0 (C : CT p s m args meth c cX7_append 2 RX7 (some (.int)) G (pA G s.heap.size)) {i0 : Nat} {v1 : Int32} {x : xS} {r : (Int32 × xS)} (hk0 : KD G i0 7) (hf : fX7_append_b0 i0 v1 x = some r) : WB p l e rX7_append s m args below meth c 2 G (pA G s.heap.size) (qI below G r args s 0 0) 0 0 0 [(0, .ref (G.2.2 i0)), (1, .int v1)] [] x := by
  unfold fX7_append_b0 at hf
  refine b_aload_n C dX7_append_0 rfl 0 rfl ?_
  refine b_iload_n C dX7_append_1 rfl 1 rfl ?_
  refine b_bipush (v := 33) C dX7_append_2 (by decide) ?_
  refine b_bipush (v := 126) C dX7_append_4 (by decide) ?_
  obtain ⟨r6, c6, hf⟩ := oB hf
  refine b_callSi (As := [.int v1, .int 33, .int 126]) (res := (r6, x)) C (metX7_in l G _ _ _ _ _  c6) gkX7_33 ekX7_33 rfl ⟨rfl, rfl⟩ ⟨Nat.le_of_ble_eq_true rfl, Nat.le_of_ble_eq_true rfl⟩ (by simp [Value.category]) ⟨Nat.zero_le _, Nat.zero_le _⟩ rfl dX7_append_6 ?_
  refine b_if_ne (tgt := 16) C dX7_append_9 (by decide) (fun c9 => ?_) (fun c9 => ?_)
  · have hf := iF c9 hf
    refine b_aload_n C dX7_append_16 rfl 0 rfl ?_
    refine gfX7_97 C hk0 dX7_append_17 ?_
    refine b_bipush (v := 60) C dX7_append_20 (by decide) ?_
    refine b_icmp_ne (tgt := 29) C dX7_append_22 (by decide) (fun c22 => ?_) (fun c22 => ?_)
    · have hf := iF c22 hf
      refine b_iconst (v := 0) C dX7_append_29 (by decide) ?_
      exact wX7_append_b30 C  hk0 hf
    · have hf := iT c22 hf
      refine b_iconst (v := 2) C dX7_append_25 (by decide) ?_
      refine b_goto (tgt := 30) C dX7_append_26 (by decide) ?_
      exact wX7_append_b30 C  hk0 hf
  · have hf := iT c9 hf
    refine b_iconst (v := 1) C dX7_append_12 (by decide) ?_
    refine b_goto (tgt := 30) C dX7_append_13 (by decide) ?_
    exact wX7_append_b30 C  hk0 hf
end
theorem metX7_append (l : Launch) (G : gT) (i0 : Nat) (v1 : Int32) (x : xS) (r : (Int32 × xS)) (hk0 : KD G i0 7) (hf : fX7_append i0 v1 x = some r) : cI l yX7_append cX7_append 2 (.int) rX7_append [.ref (G.2.2 i0), .int v1] G x r :=
  b_body (by decide) (Nat.le_of_ble_eq_true rfl) rfl (fun p e s m args below meth c C => wX7_append_b0 C hk0 hf)
-- X7_isLodger
abbrev rX7_isLodger : Room := { frames := 1, cells := 0, slots := 0, locals := 22 }
def fX7_isLodger_b0 (v0 : Int32) (x : xS)  : Option Int32 :=
  Option.bind (fX7_in v0 0 9 x) (fun r4 =>
  (if r4 &&& 1 = r4 then some r4 else none))
def fX7_isLodger (v0 : Int32) (x : xS) : Option Int32 := fX7_isLodger_b0 v0 x
section
variable {p : Program} {l : Launch} {e : Env} {R : Room} {s : State} {m : MethodId} {args : Array Value} {below : List Frame} {meth : Method} {c : Code} {G : gT}
set_option maxHeartbeats 4000000 in
set_option maxRecDepth 100000 in
theorem wX7_isLodger_b0 (C : CT p s m args meth c cX7_isLodger 1 RX7 (some (.boolean)) G (pA G s.heap.size)) {v0 : Int32} {x : xS}  {r : Int32}  (hf : fX7_isLodger_b0 v0 x  = some r) : WB p l e rX7_isLodger s m args below meth c 1 G (pA G s.heap.size) (qI below G (r, x) args s 0 0) 0 0 0 [(0, .int v0)] [] x := by
  unfold fX7_isLodger_b0 at hf
  refine b_iload_n C dX7_isLodger_0 rfl 0 rfl ?_
  refine b_iconst (v := 0) C dX7_isLodger_1 (by decide) ?_
  refine b_bipush (v := 9) C dX7_isLodger_2 (by decide) ?_
  obtain ⟨r4, c4, hf⟩ := oB hf
  refine b_callSi (As := [.int v0, .int 0, .int 9]) (res := (r4, x)) C (metX7_in l G _ _ _ _ _  c4) gkX7_33 ekX7_33 rfl ⟨rfl, rfl⟩ ⟨Nat.le_of_ble_eq_true rfl, Nat.le_of_ble_eq_true rfl⟩ (by simp [Value.category]) ⟨Nat.zero_le _, Nat.zero_le _⟩ rfl dX7_isLodger_4 ?_
  obtain ⟨g7, hf⟩ := iP hf
  exact b_iretz C g7 dX7_isLodger_7 (congrArg (Option.map (fun q => (q, x))) hf)
end
theorem metX7_isLodger (l : Launch) (G : gT) (v0 : Int32) (x : xS) (r : Int32)  (hf : fX7_isLodger v0 x = some r) : cI l yX7_isLodger cX7_isLodger 1 (.boolean) rX7_isLodger [.int v0] G x (r, x) :=
  b_body (by decide) (Nat.le_of_ble_eq_true rfl) rfl (fun p e s m args below meth c C => wX7_isLodger_b0 C  hf)
-- X7_isTime
abbrev rX7_isTime : Room := { frames := 1, cells := 0, slots := 0, locals := 22 }
def fX7_isTime_b32 (x : xS)  : Option Int32 :=
  some 0
def fX7_isTime_b0 (v0 : Int32) (v1 : Int32) (x : xS)  : Option Int32 :=
  Option.bind (fX7_in v0 0 11 x) (fun r4 =>
  (if r4 = 0 then
  fX7_isTime_b32 x 
  else
  Option.bind (fX7_in v1 1 9 x) (fun r14 =>
  (if r14 = 0 then
  fX7_isTime_b32 x 
  else
  (if (12 : Int32) < (v0 + v1) then
  fX7_isTime_b32 x 
  else
  some 1)))))
def fX7_isTime (v0 : Int32) (v1 : Int32) (x : xS) : Option Int32 := fX7_isTime_b0 v0 v1 x
section
variable {p : Program} {l : Launch} {e : Env} {R : Room} {s : State} {m : MethodId} {args : Array Value} {below : List Frame} {meth : Method} {c : Code} {G : gT}
set_option maxHeartbeats 4000000 in
set_option maxRecDepth 100000 in
theorem wX7_isTime_b32 (C : CT p s m args meth c cX7_isTime 2 RX7 (some (.boolean)) G (pA G s.heap.size)) {x : xS}  {r : Int32}  (hf : fX7_isTime_b32 x  = some r) : WB p l e rX7_isTime s m args below meth c 2 G (pA G s.heap.size) (qI below G (r, x) args s 0 0) 0 0 32 [] [] x := by
  unfold fX7_isTime_b32 at hf
  refine b_iconst (v := 0) C dX7_isTime_32 (by decide) ?_
  exact b_iretz C (by decide) dX7_isTime_33 (congrArg (Option.map (fun q => (q, x))) hf)
set_option maxHeartbeats 4000000 in
set_option maxRecDepth 100000 in
theorem wX7_isTime_b0 (C : CT p s m args meth c cX7_isTime 2 RX7 (some (.boolean)) G (pA G s.heap.size)) {v0 : Int32} {v1 : Int32} {x : xS}  {r : Int32}  (hf : fX7_isTime_b0 v0 v1 x  = some r) : WB p l e rX7_isTime s m args below meth c 2 G (pA G s.heap.size) (qI below G (r, x) args s 0 0) 0 0 0 [(0, .int v0), (1, .int v1)] [] x := by
  unfold fX7_isTime_b0 at hf
  refine b_iload_n C dX7_isTime_0 rfl 0 rfl ?_
  refine b_iconst (v := 0) C dX7_isTime_1 (by decide) ?_
  refine b_bipush (v := 11) C dX7_isTime_2 (by decide) ?_
  obtain ⟨r4, c4, hf⟩ := oB hf
  refine b_callSi (As := [.int v0, .int 0, .int 11]) (res := (r4, x)) C (metX7_in l G _ _ _ _ _  c4) gkX7_33 ekX7_33 rfl ⟨rfl, rfl⟩ ⟨Nat.le_of_ble_eq_true rfl, Nat.le_of_ble_eq_true rfl⟩ (by simp [Value.category]) ⟨Nat.zero_le _, Nat.zero_le _⟩ rfl dX7_isTime_4 ?_
  refine b_if_eq (tgt := 32) C dX7_isTime_7 (by decide) (fun c7 => ?_) (fun c7 => ?_)
  · have hf := iT c7 hf
    refine b_pm [] (lv' := []) rfl ?_
    exact wX7_isTime_b32 C   hf
  · have hf := iF c7 hf
    refine b_iload_n C dX7_isTime_10 rfl 1 rfl ?_
    refine b_iconst (v := 1) C dX7_isTime_11 (by decide) ?_
    refine b_bipush (v := 9) C dX7_isTime_12 (by decide) ?_
    obtain ⟨r14, c14, hf⟩ := oB hf
    refine b_callSi (As := [.int v1, .int 1, .int 9]) (res := (r14, x)) C (metX7_in l G _ _ _ _ _  c14) gkX7_33 ekX7_33 rfl ⟨rfl, rfl⟩ ⟨Nat.le_of_ble_eq_true rfl, Nat.le_of_ble_eq_true rfl⟩ (by simp [Value.category]) ⟨Nat.zero_le _, Nat.zero_le _⟩ rfl dX7_isTime_14 ?_
    refine b_if_eq (tgt := 32) C dX7_isTime_17 (by decide) (fun c17 => ?_) (fun c17 => ?_)
    · have hf := iT c17 hf
      refine b_pm [] (lv' := []) rfl ?_
      exact wX7_isTime_b32 C   hf
    · have hf := iF c17 hf
      refine b_iload_n C dX7_isTime_20 rfl 0 rfl ?_
      refine b_iload_n C dX7_isTime_21 rfl 1 rfl ?_
      refine b_iadd C dX7_isTime_22 ?_
      refine b_bipush (v := 12) C dX7_isTime_23 (by decide) ?_
      refine b_icmp_gt (tgt := 32) C dX7_isTime_25 (by decide) (fun c25 => ?_) (fun c25 => ?_)
      · have hf := iT c25 hf
        refine b_pm [] (lv' := []) rfl ?_
        exact wX7_isTime_b32 C   hf
      · have hf := iF c25 hf
        refine b_iconst (v := 1) C dX7_isTime_28 (by decide) ?_
        refine b_goto (tgt := 33) C dX7_isTime_29 (by decide) ?_
        exact b_iretz C (by decide) dX7_isTime_33 (congrArg (Option.map (fun q => (q, x))) hf)
end
theorem metX7_isTime (l : Launch) (G : gT) (v0 : Int32) (v1 : Int32) (x : xS) (r : Int32)  (hf : fX7_isTime v0 v1 x = some r) : cI l yX7_isTime cX7_isTime 2 (.boolean) rX7_isTime [.int v0, .int v1] G x (r, x) :=
  b_body (by decide) (Nat.le_of_ble_eq_true rfl) rfl (fun p e s m args below meth c C => wX7_isTime_b0 C  hf)
-- X7_save
abbrev rX7_save : Room := { frames := 0, cells := 0, slots := 0, locals := 0 }
def fX7_save_b51 (i0 : Nat) : Nat → Int32 → xS → Option xS
  | 0, _, _ => none
  | n + 1, v1, x => (if (120 : Int32) ≤ v1 then
  lt1 (up1 x i0 4 ((x.1 i0 4) + 1)) (fun x90 =>
  some x90)
  else
  (if v1 < 0 ∨ ln (i0 + 1) ≤ v1.toNatClampNeg then none else
  (if ((120 * (x.1 i0 4)) + v1) < 0 ∨ ln (i0 + 3) ≤ ((120 * (x.1 i0 4)) + v1).toNatClampNeg then none else
  lt1 (up1 x (i0 + 3) ((120 * (x.1 i0 4)) + v1).toNatClampNeg (x.1 (i0 + 1) v1.toNatClampNeg)) (fun x76 =>
  fX7_save_b51 i0 n (v1 + 1) x76))))
def fX7_save_b49 (i0 : Nat) (x : xS) : Option xS :=
  fX7_save_b51 i0 FU 0 x
def fX7_save_b11 (i0 : Nat) : Nat → Int32 → xS → Option xS
  | 0, _, _ => none
  | n + 1, v1, x => (if (600 : Int32) ≤ v1 then
  lt1 (up1 x i0 4 ((x.1 i0 4) - 1)) (fun x46 =>
  fX7_save_b49 i0 x46)
  else
  (if (v1 + 120) < 0 ∨ ln (i0 + 3) ≤ (v1 + 120).toNatClampNeg then none else
  (if v1 < 0 ∨ ln (i0 + 3) ≤ v1.toNatClampNeg then none else
  lt1 (up1 x (i0 + 3) v1.toNatClampNeg (x.1 (i0 + 3) (v1 + 120).toNatClampNeg)) (fun x32 =>
  fX7_save_b11 i0 n (v1 + 1) x32))))
def fX7_save_b0 (i0 : Nat) (x : xS) : Option xS :=
  (if (x.1 i0 4) = 6 then
  fX7_save_b11 i0 FU 0 x
  else
  fX7_save_b49 i0 x)
def fX7_save (i0 : Nat) (x : xS) : Option xS := fX7_save_b0 i0 x
section
variable {p : Program} {l : Launch} {e : Env} {R : Room} {s : State} {m : MethodId} {args : Array Value} {below : List Frame} {meth : Method} {c : Code} {G : gT}
set_option maxHeartbeats 4000000 in
set_option maxRecDepth 100000 in
theorem wX7_save_b51 (C : CT p s m args meth c cX7_save 2 RX7 none G (pA G s.heap.size)) {i0 : Nat} {r : xS} (hk0 : KD G i0 7) : ∀ (n : Nat) (v1 : Int32) (x : xS), fX7_save_b51 i0 n v1 x = some r → WB p l e rX7_save s m args below meth c 2 G (pA G s.heap.size) (qV below G r args s 0 0) 0 0 51 [(0, .ref (G.2.2 i0)), (1, .int v1)] [] x := by
  intro n
  induction n with
  | zero =>
    intro v1 x hf
    cases hf
  | succ n ih =>
    intro v1 x hf
    rw [fX7_save_b51] at hf
    refine b_iload_n C dX7_save_51 rfl 1 rfl ?_
    refine b_bipush (v := 120) C dX7_save_52 (by decide) ?_
    refine b_icmp_ge (tgt := 83) C dX7_save_54 (by decide) (fun c54 => ?_) (fun c54 => ?_)
    · have hf := iT c54 hf
      refine b_aload_n C dX7_save_83 rfl 0 rfl ?_
      refine b_dup C dX7_save_84 rfl ?_
      refine gfX7_37 C hk0 dX7_save_85 ?_
      refine b_iconst (v := 1) C dX7_save_88 (by decide) ?_
      refine b_iadd C dX7_save_89 ?_
      obtain ⟨x90, e90, hf⟩ := lN1 hf
      refine pfX7_37 C hk0 dX7_save_90 e90 ?_
      exact b_vret C dX7_save_93 hf
    · have hf := iF c54 hf
      refine b_aload_n C dX7_save_57 rfl 0 rfl ?_
      refine gfX7_16 C hk0 dX7_save_58 ?_
      refine b_bipush (v := 120) C dX7_save_61 (by decide) ?_
      refine b_aload_n C dX7_save_63 rfl 0 rfl ?_
      refine gfX7_37 C hk0 dX7_save_64 ?_
      refine b_imul C dX7_save_67 ?_
      refine b_iload_n C dX7_save_68 rfl 1 rfl ?_
      refine b_iadd C dX7_save_69 ?_
      refine b_aload_n C dX7_save_70 rfl 0 rfl ?_
      refine gfX7_7 C hk0 dX7_save_71 ?_
      refine b_iload_n C dX7_save_74 rfl 1 rfl ?_
      obtain ⟨g75, hf⟩ := iN hf
      refine b_iald C ((kd7 C.cl hk0).1) g75 dX7_save_75 ?_
      obtain ⟨g76, hf⟩ := iN hf
      obtain ⟨x76, e76, hf⟩ := lN1 hf
      refine b_iast C ((kd7 C.cl hk0).2.2.1) g76 dX7_save_76 ?_
      rw [e76]
      refine b_iinc (q := 1) (v' := (v1 + 1)) (lv' := [(1, .int (v1 + 1)), (0, .ref (G.2.2 i0))]) C dX7_save_77 rfl rfl (by decide) rfl ?_
      refine b_goto (tgt := 51) C dX7_save_80 (by decide) ?_
      refine b_pm [1, 0] (lv' := [(0, .ref (G.2.2 i0)), (1, .int (v1 + 1))]) rfl ?_
      exact ih _ _ hf
set_option maxHeartbeats 4000000 in
set_option maxRecDepth 100000 in
theorem wX7_save_b49 (C : CT p s m args meth c cX7_save 2 RX7 none G (pA G s.heap.size)) {i0 : Nat} {x : xS} {r : xS} (hk0 : KD G i0 7) (hf : fX7_save_b49 i0 x = some r) : WB p l e rX7_save s m args below meth c 2 G (pA G s.heap.size) (qV below G r args s 0 0) 0 0 49 [(0, .ref (G.2.2 i0))] [] x := by
  unfold fX7_save_b49 at hf
  refine b_iconst (v := 0) C dX7_save_49 (by decide) ?_
  refine b_istore_n (lv' := [(1, .int 0), (0, .ref (G.2.2 i0))]) C dX7_save_50 rfl (by decide) rfl ?_
  refine b_pm [1, 0] (lv' := [(0, .ref (G.2.2 i0)), (1, .int 0)]) rfl ?_
  exact wX7_save_b51 C  hk0 FU _ _ hf
set_option maxHeartbeats 4000000 in
set_option maxRecDepth 100000 in
theorem wX7_save_b11 (C : CT p s m args meth c cX7_save 2 RX7 none G (pA G s.heap.size)) {i0 : Nat} {r : xS} (hk0 : KD G i0 7) : ∀ (n : Nat) (v1 : Int32) (x : xS), fX7_save_b11 i0 n v1 x = some r → WB p l e rX7_save s m args below meth c 2 G (pA G s.heap.size) (qV below G r args s 0 0) 0 0 11 [(0, .ref (G.2.2 i0)), (1, .int v1)] [] x := by
  intro n
  induction n with
  | zero =>
    intro v1 x hf
    cases hf
  | succ n ih =>
    intro v1 x hf
    rw [fX7_save_b11] at hf
    refine b_iload_n C dX7_save_11 rfl 1 rfl ?_
    refine b_sipush (v := 600) C dX7_save_12 (by decide) ?_
    refine b_icmp_ge (tgt := 39) C dX7_save_15 (by decide) (fun c15 => ?_) (fun c15 => ?_)
    · have hf := iT c15 hf
      refine b_aload_n C dX7_save_39 rfl 0 rfl ?_
      refine b_dup C dX7_save_40 rfl ?_
      refine gfX7_37 C hk0 dX7_save_41 ?_
      refine b_iconst (v := 1) C dX7_save_44 (by decide) ?_
      refine b_isub C dX7_save_45 ?_
      obtain ⟨x46, e46, hf⟩ := lN1 hf
      refine pfX7_37 C hk0 dX7_save_46 e46 ?_
      refine b_pm [0] (lv' := [(0, .ref (G.2.2 i0))]) rfl ?_
      exact wX7_save_b49 C  hk0 hf
    · have hf := iF c15 hf
      refine b_aload_n C dX7_save_18 rfl 0 rfl ?_
      refine gfX7_16 C hk0 dX7_save_19 ?_
      refine b_iload_n C dX7_save_22 rfl 1 rfl ?_
      refine b_aload_n C dX7_save_23 rfl 0 rfl ?_
      refine gfX7_16 C hk0 dX7_save_24 ?_
      refine b_iload_n C dX7_save_27 rfl 1 rfl ?_
      refine b_bipush (v := 120) C dX7_save_28 (by decide) ?_
      refine b_iadd C dX7_save_30 ?_
      obtain ⟨g31, hf⟩ := iN hf
      refine b_iald C ((kd7 C.cl hk0).2.2.1) g31 dX7_save_31 ?_
      obtain ⟨g32, hf⟩ := iN hf
      obtain ⟨x32, e32, hf⟩ := lN1 hf
      refine b_iast C ((kd7 C.cl hk0).2.2.1) g32 dX7_save_32 ?_
      rw [e32]
      refine b_iinc (q := 1) (v' := (v1 + 1)) (lv' := [(1, .int (v1 + 1)), (0, .ref (G.2.2 i0))]) C dX7_save_33 rfl rfl (by decide) rfl ?_
      refine b_goto (tgt := 11) C dX7_save_36 (by decide) ?_
      refine b_pm [1, 0] (lv' := [(0, .ref (G.2.2 i0)), (1, .int (v1 + 1))]) rfl ?_
      exact ih _ _ hf
set_option maxHeartbeats 4000000 in
set_option maxRecDepth 100000 in
theorem wX7_save_b0 (C : CT p s m args meth c cX7_save 2 RX7 none G (pA G s.heap.size)) {i0 : Nat} {x : xS} {r : xS} (hk0 : KD G i0 7) (hf : fX7_save_b0 i0 x = some r) : WB p l e rX7_save s m args below meth c 2 G (pA G s.heap.size) (qV below G r args s 0 0) 0 0 0 [(0, .ref (G.2.2 i0))] [] x := by
  unfold fX7_save_b0 at hf
  refine b_aload_n C dX7_save_0 rfl 0 rfl ?_
  refine gfX7_37 C hk0 dX7_save_1 ?_
  refine b_bipush (v := 6) C dX7_save_4 (by decide) ?_
  refine b_icmp_ne (tgt := 49) C dX7_save_6 (by decide) (fun c6 => ?_) (fun c6 => ?_)
  · have hf := iF c6 hf
    exact wX7_save_b49 C  hk0 hf
  · have hf := iT c6 hf
    refine b_iconst (v := 0) C dX7_save_9 (by decide) ?_
    refine b_istore_n (lv' := [(1, .int 0), (0, .ref (G.2.2 i0))]) C dX7_save_10 rfl (by decide) rfl ?_
    refine b_pm [1, 0] (lv' := [(0, .ref (G.2.2 i0)), (1, .int 0)]) rfl ?_
    exact wX7_save_b11 C  hk0 FU _ _ hf
end
theorem metX7_save (l : Launch) (G : gT) (i0 : Nat) (x : xS) (r : xS) (hk0 : KD G i0 7) (hf : fX7_save i0 x = some r) : cV l yX7_save cX7_save 2 rX7_save [.ref (G.2.2 i0)] G x r :=
  b_body (by decide) (Nat.le_of_ble_eq_true rfl) rfl (fun p e s m args below meth c C => wX7_save_b0 C hk0 hf)
-- X7_ofBed
abbrev rX7_ofBed : Room := { frames := 0, cells := 0, slots := 0, locals := 0 }
def fX7_ofBed_b0 (v0 : Int32) (v1 : Int32) (x : xS)  : Option Int32 :=
  some ((60 + (12 * v0)) + v1)
def fX7_ofBed (v0 : Int32) (v1 : Int32) (x : xS) : Option Int32 := fX7_ofBed_b0 v0 v1 x
section
variable {p : Program} {l : Launch} {e : Env} {R : Room} {s : State} {m : MethodId} {args : Array Value} {below : List Frame} {meth : Method} {c : Code} {G : gT}
set_option maxHeartbeats 4000000 in
set_option maxRecDepth 100000 in
theorem wX7_ofBed_b0 (C : CT p s m args meth c cX7_ofBed 2 RX7 (some (.int)) G (pA G s.heap.size)) {v0 : Int32} {v1 : Int32} {x : xS}  {r : Int32}  (hf : fX7_ofBed_b0 v0 v1 x  = some r) : WB p l e rX7_ofBed s m args below meth c 2 G (pA G s.heap.size) (qI below G (r, x) args s 0 0) 0 0 0 [(0, .int v0), (1, .int v1)] [] x := by
  unfold fX7_ofBed_b0 at hf
  refine b_bipush (v := 60) C dX7_ofBed_0 (by decide) ?_
  refine b_bipush (v := 12) C dX7_ofBed_2 (by decide) ?_
  refine b_iload_n C dX7_ofBed_4 rfl 0 rfl ?_
  refine b_imul C dX7_ofBed_5 ?_
  refine b_iadd C dX7_ofBed_6 ?_
  refine b_iload_n C dX7_ofBed_7 rfl 1 rfl ?_
  refine b_iadd C dX7_ofBed_8 ?_
  exact b_ireti C dX7_ofBed_9 (congrArg (Option.map (fun q => (q, x))) hf)
end
theorem metX7_ofBed (l : Launch) (G : gT) (v0 : Int32) (v1 : Int32) (x : xS) (r : Int32)  (hf : fX7_ofBed v0 v1 x = some r) : cI l yX7_ofBed cX7_ofBed 2 (.int) rX7_ofBed [.int v0, .int v1] G x (r, x) :=
  b_body (by decide) (Nat.le_of_ble_eq_true rfl) rfl (fun p e s m args below meth c C => wX7_ofBed_b0 C  hf)
-- X7_bedOf
abbrev rX7_bedOf : Room := { frames := 1, cells := 0, slots := 0, locals := 21 }
def fX7_bedOf_b32 (k5 : Int32 → Int32 → Option Int32) (i0 : Nat) (v1 : Int32) (v2 : Int32) (x : xS) (v4 : Int32) (s0 : Int32) : Option Int32 :=
  k5 s0 (v4 + 1)
def fX7_bedOf_b5 (i0 : Nat) (v1 : Int32) (v2 : Int32) (x : xS) : Nat → Int32 → Int32 → Option Int32
  | 0, _, _ => none
  | n + 1, v3, v4 => (if (4 : Int32) ≤ v4 then
  some v3
  else
  Option.bind (fX7_ofBed v4 v2 x) (fun r18 =>
  (if r18 < 0 ∨ ln (i0 + 1) ≤ r18.toNatClampNeg then none else
  (if (x.1 (i0 + 1) r18.toNatClampNeg) = v1 then
  fX7_bedOf_b32 (fX7_bedOf_b5 i0 v1 v2 x n) i0 v1 v2 x v4 v4
  else
  fX7_bedOf_b32 (fX7_bedOf_b5 i0 v1 v2 x n) i0 v1 v2 x v4 v3))))
def fX7_bedOf_b0 (i0 : Nat) (v1 : Int32) (v2 : Int32) (x : xS)  : Option Int32 :=
  fX7_bedOf_b5 i0 v1 v2 x FU (-1) 0
def fX7_bedOf (i0 : Nat) (v1 : Int32) (v2 : Int32) (x : xS) : Option Int32 := fX7_bedOf_b0 i0 v1 v2 x
section
variable {p : Program} {l : Launch} {e : Env} {R : Room} {s : State} {m : MethodId} {args : Array Value} {below : List Frame} {meth : Method} {c : Code} {G : gT}
set_option maxHeartbeats 4000000 in
set_option maxRecDepth 100000 in
theorem wX7_bedOf_b32 (C : CT p s m args meth c cX7_bedOf 5 RX7 (some (.int)) G (pA G s.heap.size)) {k5 : Int32 → Int32 → Option Int32} {i0 : Nat} {v1 : Int32} {v2 : Int32} {x : xS} {v4 : Int32} {s0 : Int32} {r : Int32} (h5 : ∀ (v3 : Int32) (v4 : Int32), k5 v3 v4 = some r → WB p l e rX7_bedOf s m args below meth c 5 G (pA G s.heap.size) (qI below G (r, x) args s 0 0) 0 0 5 [(0, .ref (G.2.2 i0)), (1, .int v1), (2, .int v2), (3, .int v3), (4, .int v4)] [] x) (hk0 : KD G i0 7) (hf : fX7_bedOf_b32 k5 i0 v1 v2 x v4 s0 = some r) : WB p l e rX7_bedOf s m args below meth c 5 G (pA G s.heap.size) (qI below G (r, x) args s 0 0) 0 0 32 [(0, .ref (G.2.2 i0)), (1, .int v1), (2, .int v2), (4, .int v4)] [.int s0] x := by
  unfold fX7_bedOf_b32 at hf
  refine b_istore_n (lv' := [(3, .int s0), (0, .ref (G.2.2 i0)), (1, .int v1), (2, .int v2), (4, .int v4)]) C dX7_bedOf_32 rfl (by decide) rfl ?_
  refine b_iinc (q := 4) (v' := (v4 + 1)) (lv' := [(4, .int (v4 + 1)), (3, .int s0), (0, .ref (G.2.2 i0)), (1, .int v1), (2, .int v2)]) C dX7_bedOf_33 rfl rfl (by decide) rfl ?_
  refine b_goto (tgt := 5) C dX7_bedOf_36 (by decide) ?_
  refine b_pm [2, 3, 4, 1, 0] (lv' := [(0, .ref (G.2.2 i0)), (1, .int v1), (2, .int v2), (3, .int s0), (4, .int (v4 + 1))]) rfl ?_
  exact h5 _ _ hf
set_option maxHeartbeats 4000000 in
set_option maxRecDepth 100000 in
theorem wX7_bedOf_b5 (C : CT p s m args meth c cX7_bedOf 5 RX7 (some (.int)) G (pA G s.heap.size)) {i0 : Nat} {v1 : Int32} {v2 : Int32} {x : xS} {r : Int32} (hk0 : KD G i0 7) : ∀ (n : Nat) (v3 : Int32) (v4 : Int32), fX7_bedOf_b5 i0 v1 v2 x n v3 v4 = some r → WB p l e rX7_bedOf s m args below meth c 5 G (pA G s.heap.size) (qI below G (r, x) args s 0 0) 0 0 5 [(0, .ref (G.2.2 i0)), (1, .int v1), (2, .int v2), (3, .int v3), (4, .int v4)] [] x := by
  intro n
  induction n with
  | zero =>
    intro v3 v4 hf
    cases hf
  | succ n ih =>
    intro v3 v4 hf
    rw [fX7_bedOf_b5] at hf
    refine b_iload C dX7_bedOf_5 4 rfl ?_
    refine b_iconst (v := 4) C dX7_bedOf_7 (by decide) ?_
    refine b_icmp_ge (tgt := 39) C dX7_bedOf_8 (by decide) (fun c8 => ?_) (fun c8 => ?_)
    · have hf := iT c8 hf
      refine b_iload_n C dX7_bedOf_39 rfl 3 rfl ?_
      exact b_ireti C dX7_bedOf_40 (congrArg (Option.map (fun q => (q, x))) hf)
    · have hf := iF c8 hf
      refine b_aload_n C dX7_bedOf_11 rfl 0 rfl ?_
      refine gfX7_7 C hk0 dX7_bedOf_12 ?_
      refine b_iload C dX7_bedOf_15 4 rfl ?_
      refine b_iload_n C dX7_bedOf_17 rfl 2 rfl ?_
      obtain ⟨r18, c18, hf⟩ := oB hf
      refine b_callSi (As := [.int v4, .int v2]) (res := (r18, x)) C (metX7_ofBed l G _ _ _ _  c18) gkX7_40 ekX7_40 rfl ⟨rfl, rfl⟩ ⟨Nat.le_of_ble_eq_true rfl, Nat.le_of_ble_eq_true rfl⟩ (by simp [Value.category]) ⟨Nat.zero_le _, Nat.zero_le _⟩ rfl dX7_bedOf_18 ?_
      obtain ⟨g21, hf⟩ := iN hf
      refine b_iald C ((kd7 C.cl hk0).1) g21 dX7_bedOf_21 ?_
      refine b_iload_n C dX7_bedOf_22 rfl 1 rfl ?_
      refine b_icmp_ne (tgt := 31) C dX7_bedOf_23 (by decide) (fun c23 => ?_) (fun c23 => ?_)
      · have hf := iF c23 hf
        refine b_iload_n C dX7_bedOf_31 rfl 3 rfl ?_
        refine b_pm [0, 1, 2, 4] (lv' := [(0, .ref (G.2.2 i0)), (1, .int v1), (2, .int v2), (4, .int v4)]) rfl ?_
        exact wX7_bedOf_b32 C ih hk0 hf
      · have hf := iT c23 hf
        refine b_iload C dX7_bedOf_26 4 rfl ?_
        refine b_goto (tgt := 32) C dX7_bedOf_28 (by decide) ?_
        refine b_pm [0, 1, 2, 4] (lv' := [(0, .ref (G.2.2 i0)), (1, .int v1), (2, .int v2), (4, .int v4)]) rfl ?_
        exact wX7_bedOf_b32 C ih hk0 hf
set_option maxHeartbeats 4000000 in
set_option maxRecDepth 100000 in
theorem wX7_bedOf_b0 (C : CT p s m args meth c cX7_bedOf 5 RX7 (some (.int)) G (pA G s.heap.size)) {i0 : Nat} {v1 : Int32} {v2 : Int32} {x : xS}  {r : Int32} (hk0 : KD G i0 7) (hf : fX7_bedOf_b0 i0 v1 v2 x  = some r) : WB p l e rX7_bedOf s m args below meth c 5 G (pA G s.heap.size) (qI below G (r, x) args s 0 0) 0 0 0 [(0, .ref (G.2.2 i0)), (1, .int v1), (2, .int v2)] [] x := by
  unfold fX7_bedOf_b0 at hf
  refine b_iconst (v := (-1)) C dX7_bedOf_0 (by decide) ?_
  refine b_istore_n (lv' := [(3, .int (-1)), (0, .ref (G.2.2 i0)), (1, .int v1), (2, .int v2)]) C dX7_bedOf_1 rfl (by decide) rfl ?_
  refine b_iconst (v := 0) C dX7_bedOf_2 (by decide) ?_
  refine b_istore (lv' := [(4, .int 0), (3, .int (-1)), (0, .ref (G.2.2 i0)), (1, .int v1), (2, .int v2)]) C dX7_bedOf_3 (by decide) rfl ?_
  refine b_pm [2, 3, 4, 1, 0] (lv' := [(0, .ref (G.2.2 i0)), (1, .int v1), (2, .int v2), (3, .int (-1)), (4, .int 0)]) rfl ?_
  exact wX7_bedOf_b5 C  hk0 FU _ _ hf
end
theorem metX7_bedOf (l : Launch) (G : gT) (i0 : Nat) (v1 : Int32) (v2 : Int32) (x : xS) (r : Int32) (hk0 : KD G i0 7) (hf : fX7_bedOf i0 v1 v2 x = some r) : cI l yX7_bedOf cX7_bedOf 5 (.int) rX7_bedOf [.ref (G.2.2 i0), .int v1, .int v2] G x (r, x) :=
  b_body (by decide) (Nat.le_of_ble_eq_true rfl) rfl (fun p e s m args below meth c C => wX7_bedOf_b0 C hk0 hf)
-- X7_hasBed
abbrev rX7_hasBed : Room := { frames := 2, cells := 0, slots := 0, locals := 45 }
def fX7_hasBed_b35 (k6 : Int32 → Int32 → Option Int32) (i0 : Nat) (v1 : Int32) (v2 : Int32) (v3 : Int32) (x : xS) (v5 : Int32) (s0 : Int32) : Option Int32 :=
  k6 s0 (v5 + 1)
def fX7_hasBed_b30 (k6 : Int32 → Int32 → Option Int32) (i0 : Nat) (v1 : Int32) (v2 : Int32) (v3 : Int32) (x : xS) (v5 : Int32) : Option Int32 :=
  fX7_hasBed_b35 k6 i0 v1 v2 v3 x v5 1
def fX7_hasBed_b6 (i0 : Nat) (v1 : Int32) (v2 : Int32) (v3 : Int32) (x : xS) : Nat → Int32 → Int32 → Option Int32
  | 0, _, _ => none
  | n + 1, v4, v5 => (if (v2 + v3) ≤ v5 then
  (if v4 &&& 1 = v4 then some v4 else none)
  else
  (if v4 = 0 then
  Option.bind (fX7_bedOf i0 v1 v5 x) (fun r23 =>
  (if r23 = (-1) then
  fX7_hasBed_b35 (fX7_hasBed_b6 i0 v1 v2 v3 x n) i0 v1 v2 v3 x v5 0
  else
  fX7_hasBed_b30 (fX7_hasBed_b6 i0 v1 v2 v3 x n) i0 v1 v2 v3 x v5))
  else
  fX7_hasBed_b30 (fX7_hasBed_b6 i0 v1 v2 v3 x n) i0 v1 v2 v3 x v5))
def fX7_hasBed_b0 (i0 : Nat) (v1 : Int32) (v2 : Int32) (v3 : Int32) (x : xS)  : Option Int32 :=
  fX7_hasBed_b6 i0 v1 v2 v3 x FU 0 v2
def fX7_hasBed (i0 : Nat) (v1 : Int32) (v2 : Int32) (v3 : Int32) (x : xS) : Option Int32 := fX7_hasBed_b0 i0 v1 v2 v3 x
section
variable {p : Program} {l : Launch} {e : Env} {R : Room} {s : State} {m : MethodId} {args : Array Value} {below : List Frame} {meth : Method} {c : Code} {G : gT}
set_option maxHeartbeats 4000000 in
set_option maxRecDepth 100000 in
theorem wX7_hasBed_b35 (C : CT p s m args meth c cX7_hasBed 6 RX7 (some (.boolean)) G (pA G s.heap.size)) {k6 : Int32 → Int32 → Option Int32} {i0 : Nat} {v1 : Int32} {v2 : Int32} {v3 : Int32} {x : xS} {v5 : Int32} {s0 : Int32} {r : Int32} (h6 : ∀ (v4 : Int32) (v5 : Int32), k6 v4 v5 = some r → WB p l e rX7_hasBed s m args below meth c 6 G (pA G s.heap.size) (qI below G (r, x) args s 0 0) 0 0 6 [(0, .ref (G.2.2 i0)), (1, .int v1), (2, .int v2), (3, .int v3), (4, .int v4), (5, .int v5)] [] x) (hk0 : KD G i0 7) (hf : fX7_hasBed_b35 k6 i0 v1 v2 v3 x v5 s0 = some r) : WB p l e rX7_hasBed s m args below meth c 6 G (pA G s.heap.size) (qI below G (r, x) args s 0 0) 0 0 35 [(0, .ref (G.2.2 i0)), (1, .int v1), (2, .int v2), (3, .int v3), (5, .int v5)] [.int s0] x := by
  unfold fX7_hasBed_b35 at hf
  refine b_istore (lv' := [(4, .int s0), (0, .ref (G.2.2 i0)), (1, .int v1), (2, .int v2), (3, .int v3), (5, .int v5)]) C dX7_hasBed_35 (by decide) rfl ?_
  refine b_iinc (q := 5) (v' := (v5 + 1)) (lv' := [(5, .int (v5 + 1)), (4, .int s0), (0, .ref (G.2.2 i0)), (1, .int v1), (2, .int v2), (3, .int v3)]) C dX7_hasBed_37 rfl rfl (by decide) rfl ?_
  refine b_goto (tgt := 6) C dX7_hasBed_40 (by decide) ?_
  refine b_pm [2, 3, 4, 5, 1, 0] (lv' := [(0, .ref (G.2.2 i0)), (1, .int v1), (2, .int v2), (3, .int v3), (4, .int s0), (5, .int (v5 + 1))]) rfl ?_
  exact h6 _ _ hf
set_option maxHeartbeats 4000000 in
set_option maxRecDepth 100000 in
theorem wX7_hasBed_b30 (C : CT p s m args meth c cX7_hasBed 6 RX7 (some (.boolean)) G (pA G s.heap.size)) {k6 : Int32 → Int32 → Option Int32} {i0 : Nat} {v1 : Int32} {v2 : Int32} {v3 : Int32} {x : xS} {v5 : Int32} {r : Int32} (h6 : ∀ (v4 : Int32) (v5 : Int32), k6 v4 v5 = some r → WB p l e rX7_hasBed s m args below meth c 6 G (pA G s.heap.size) (qI below G (r, x) args s 0 0) 0 0 6 [(0, .ref (G.2.2 i0)), (1, .int v1), (2, .int v2), (3, .int v3), (4, .int v4), (5, .int v5)] [] x) (hk0 : KD G i0 7) (hf : fX7_hasBed_b30 k6 i0 v1 v2 v3 x v5 = some r) : WB p l e rX7_hasBed s m args below meth c 6 G (pA G s.heap.size) (qI below G (r, x) args s 0 0) 0 0 30 [(0, .ref (G.2.2 i0)), (1, .int v1), (2, .int v2), (3, .int v3), (5, .int v5)] [] x := by
  unfold fX7_hasBed_b30 at hf
  refine b_iconst (v := 1) C dX7_hasBed_30 (by decide) ?_
  refine b_goto (tgt := 35) C dX7_hasBed_31 (by decide) ?_
  exact wX7_hasBed_b35 C h6 hk0 hf
set_option maxHeartbeats 4000000 in
set_option maxRecDepth 100000 in
theorem wX7_hasBed_b6 (C : CT p s m args meth c cX7_hasBed 6 RX7 (some (.boolean)) G (pA G s.heap.size)) {i0 : Nat} {v1 : Int32} {v2 : Int32} {v3 : Int32} {x : xS} {r : Int32} (hk0 : KD G i0 7) : ∀ (n : Nat) (v4 : Int32) (v5 : Int32), fX7_hasBed_b6 i0 v1 v2 v3 x n v4 v5 = some r → WB p l e rX7_hasBed s m args below meth c 6 G (pA G s.heap.size) (qI below G (r, x) args s 0 0) 0 0 6 [(0, .ref (G.2.2 i0)), (1, .int v1), (2, .int v2), (3, .int v3), (4, .int v4), (5, .int v5)] [] x := by
  intro n
  induction n with
  | zero =>
    intro v4 v5 hf
    cases hf
  | succ n ih =>
    intro v4 v5 hf
    rw [fX7_hasBed_b6] at hf
    refine b_iload C dX7_hasBed_6 5 rfl ?_
    refine b_iload_n C dX7_hasBed_8 rfl 2 rfl ?_
    refine b_iload_n C dX7_hasBed_9 rfl 3 rfl ?_
    refine b_iadd C dX7_hasBed_10 ?_
    refine b_icmp_ge (tgt := 43) C dX7_hasBed_11 (by decide) (fun c11 => ?_) (fun c11 => ?_)
    · have hf := iT c11 hf
      refine b_iload C dX7_hasBed_43 4 rfl ?_
      obtain ⟨g45, hf⟩ := iP hf
      exact b_iretz C g45 dX7_hasBed_45 (congrArg (Option.map (fun q => (q, x))) hf)
    · have hf := iF c11 hf
      refine b_iload C dX7_hasBed_14 4 rfl ?_
      refine b_if_ne (tgt := 30) C dX7_hasBed_16 (by decide) (fun c16 => ?_) (fun c16 => ?_)
      · have hf := iF c16 hf
        refine b_pm [0, 1, 2, 3, 5] (lv' := [(0, .ref (G.2.2 i0)), (1, .int v1), (2, .int v2), (3, .int v3), (5, .int v5)]) rfl ?_
        exact wX7_hasBed_b30 C ih hk0 hf
      · have hf := iT c16 hf
        refine b_aload_n C dX7_hasBed_19 rfl 0 rfl ?_
        refine b_iload_n C dX7_hasBed_20 rfl 1 rfl ?_
        refine b_iload C dX7_hasBed_21 5 rfl ?_
        obtain ⟨r23, c23, hf⟩ := oB hf
        refine b_callVi (K := 7) (As := [.int v1, .int v5]) (res := (r23, x)) C (metX7_bedOf l G _ _ _ _ _ hk0 c23) hk0 (by decide) rfl gkX7_47 ekX7_47 rfl ⟨rfl, rfl⟩ ⟨Nat.le_of_ble_eq_true rfl, Nat.le_of_ble_eq_true rfl⟩ (by simp [Value.category]) ⟨Nat.zero_le _, Nat.zero_le _⟩ rfl dX7_hasBed_23 ?_
        refine b_iconst (v := (-1)) C dX7_hasBed_26 (by decide) ?_
        refine b_icmp_eq (tgt := 34) C dX7_hasBed_27 (by decide) (fun c27 => ?_) (fun c27 => ?_)
        · have hf := iT c27 hf
          refine b_iconst (v := 0) C dX7_hasBed_34 (by decide) ?_
          refine b_pm [0, 1, 2, 3, 5] (lv' := [(0, .ref (G.2.2 i0)), (1, .int v1), (2, .int v2), (3, .int v3), (5, .int v5)]) rfl ?_
          exact wX7_hasBed_b35 C ih hk0 hf
        · have hf := iF c27 hf
          refine b_pm [0, 1, 2, 3, 5] (lv' := [(0, .ref (G.2.2 i0)), (1, .int v1), (2, .int v2), (3, .int v3), (5, .int v5)]) rfl ?_
          exact wX7_hasBed_b30 C ih hk0 hf
set_option maxHeartbeats 4000000 in
set_option maxRecDepth 100000 in
theorem wX7_hasBed_b0 (C : CT p s m args meth c cX7_hasBed 6 RX7 (some (.boolean)) G (pA G s.heap.size)) {i0 : Nat} {v1 : Int32} {v2 : Int32} {v3 : Int32} {x : xS}  {r : Int32} (hk0 : KD G i0 7) (hf : fX7_hasBed_b0 i0 v1 v2 v3 x  = some r) : WB p l e rX7_hasBed s m args below meth c 6 G (pA G s.heap.size) (qI below G (r, x) args s 0 0) 0 0 0 [(0, .ref (G.2.2 i0)), (1, .int v1), (2, .int v2), (3, .int v3)] [] x := by
  unfold fX7_hasBed_b0 at hf
  refine b_iconst (v := 0) C dX7_hasBed_0 (by decide) ?_
  refine b_istore (lv' := [(4, .int 0), (0, .ref (G.2.2 i0)), (1, .int v1), (2, .int v2), (3, .int v3)]) C dX7_hasBed_1 (by decide) rfl ?_
  refine b_iload_n C dX7_hasBed_3 rfl 3 rfl ?_
  refine b_istore (lv' := [(5, .int v2), (4, .int 0), (0, .ref (G.2.2 i0)), (1, .int v1), (2, .int v2), (3, .int v3)]) C dX7_hasBed_4 (by decide) rfl ?_
  refine b_pm [2, 3, 4, 5, 1, 0] (lv' := [(0, .ref (G.2.2 i0)), (1, .int v1), (2, .int v2), (3, .int v3), (4, .int 0), (5, .int v2)]) rfl ?_
  exact wX7_hasBed_b6 C  hk0 FU _ _ hf
end
theorem metX7_hasBed (l : Launch) (G : gT) (i0 : Nat) (v1 : Int32) (v2 : Int32) (v3 : Int32) (x : xS) (r : Int32) (hk0 : KD G i0 7) (hf : fX7_hasBed i0 v1 v2 v3 x = some r) : cI l yX7_hasBed cX7_hasBed 6 (.boolean) rX7_hasBed [.ref (G.2.2 i0), .int v1, .int v2, .int v3] G x (r, x) :=
  b_body (by decide) (Nat.le_of_ble_eq_true rfl) rfl (fun p e s m args below meth c C => wX7_hasBed_b0 C hk0 hf)
-- X7_of
abbrev rX7_of : Room := { frames := 0, cells := 0, slots := 0, locals := 0 }
def fX7_of_b0 (v0 : Int32) (v1 : Int32) (x : xS)  : Option Int32 :=
  some ((0 + (6 * v0)) + v1)
def fX7_of (v0 : Int32) (v1 : Int32) (x : xS) : Option Int32 := fX7_of_b0 v0 v1 x
section
variable {p : Program} {l : Launch} {e : Env} {R : Room} {s : State} {m : MethodId} {args : Array Value} {below : List Frame} {meth : Method} {c : Code} {G : gT}
set_option maxHeartbeats 4000000 in
set_option maxRecDepth 100000 in
theorem wX7_of_b0 (C : CT p s m args meth c cX7_of 2 RX7 (some (.int)) G (pA G s.heap.size)) {v0 : Int32} {v1 : Int32} {x : xS}  {r : Int32}  (hf : fX7_of_b0 v0 v1 x  = some r) : WB p l e rX7_of s m args below meth c 2 G (pA G s.heap.size) (qI below G (r, x) args s 0 0) 0 0 0 [(0, .int v0), (1, .int v1)] [] x := by
  unfold fX7_of_b0 at hf
  refine b_iconst (v := 0) C dX7_of_0 (by decide) ?_
  refine b_bipush (v := 6) C dX7_of_1 (by decide) ?_
  refine b_iload_n C dX7_of_3 rfl 0 rfl ?_
  refine b_imul C dX7_of_4 ?_
  refine b_iadd C dX7_of_5 ?_
  refine b_iload_n C dX7_of_6 rfl 1 rfl ?_
  refine b_iadd C dX7_of_7 ?_
  exact b_ireti C dX7_of_8 (congrArg (Option.map (fun q => (q, x))) hf)
end
theorem metX7_of (l : Launch) (G : gT) (v0 : Int32) (v1 : Int32) (x : xS) (r : Int32)  (hf : fX7_of v0 v1 x = some r) : cI l yX7_of cX7_of 2 (.int) rX7_of [.int v0, .int v1] G x (r, x) :=
  b_body (by decide) (Nat.le_of_ble_eq_true rfl) rfl (fun p e s m args below meth c C => wX7_of_b0 C  hf)
-- X7_lentIn
abbrev rX7_lentIn : Room := { frames := 1, cells := 0, slots := 0, locals := 21 }
def fX7_lentIn_b36 (k6 : Int32 → Int32 → Option Int32) (i0 : Nat) (v1 : Int32) (v2 : Int32) (v3 : Int32) (x : xS) (v5 : Int32) (s0 : Int32) (s1 : Int32) : Option Int32 :=
  lt1 (s0 + s1) (fun y37 => 
  k6 y37 (v5 + 1))
def fX7_lentIn_b6 (i0 : Nat) (v1 : Int32) (v2 : Int32) (v3 : Int32) (x : xS) : Nat → Int32 → Int32 → Option Int32
  | 0, _, _ => none
  | n + 1, v4, v5 => (if (v2 + v3) ≤ v5 then
  some v4
  else
  Option.bind (fX7_ofBed v1 v5 x) (fun r23 =>
  (if r23 < 0 ∨ ln (i0 + 1) ≤ r23.toNatClampNeg then none else
  (if (x.1 (i0 + 1) r23.toNatClampNeg) = (-1) then
  fX7_lentIn_b36 (fX7_lentIn_b6 i0 v1 v2 v3 x n) i0 v1 v2 v3 x v5 v4 0
  else
  fX7_lentIn_b36 (fX7_lentIn_b6 i0 v1 v2 v3 x n) i0 v1 v2 v3 x v5 v4 1))))
def fX7_lentIn_b0 (i0 : Nat) (v1 : Int32) (v2 : Int32) (v3 : Int32) (x : xS)  : Option Int32 :=
  fX7_lentIn_b6 i0 v1 v2 v3 x FU 0 v2
def fX7_lentIn (i0 : Nat) (v1 : Int32) (v2 : Int32) (v3 : Int32) (x : xS) : Option Int32 := fX7_lentIn_b0 i0 v1 v2 v3 x
section
variable {p : Program} {l : Launch} {e : Env} {R : Room} {s : State} {m : MethodId} {args : Array Value} {below : List Frame} {meth : Method} {c : Code} {G : gT}
set_option maxHeartbeats 4000000 in
set_option maxRecDepth 100000 in
theorem wX7_lentIn_b36 (C : CT p s m args meth c cX7_lentIn 6 RX7 (some (.int)) G (pA G s.heap.size)) {k6 : Int32 → Int32 → Option Int32} {i0 : Nat} {v1 : Int32} {v2 : Int32} {v3 : Int32} {x : xS} {v5 : Int32} {s0 : Int32} {s1 : Int32} {r : Int32} (h6 : ∀ (v4 : Int32) (v5 : Int32), k6 v4 v5 = some r → WB p l e rX7_lentIn s m args below meth c 6 G (pA G s.heap.size) (qI below G (r, x) args s 0 0) 0 0 6 [(0, .ref (G.2.2 i0)), (1, .int v1), (2, .int v2), (3, .int v3), (4, .int v4), (5, .int v5)] [] x) (hk0 : KD G i0 7) (hf : fX7_lentIn_b36 k6 i0 v1 v2 v3 x v5 s0 s1 = some r) : WB p l e rX7_lentIn s m args below meth c 6 G (pA G s.heap.size) (qI below G (r, x) args s 0 0) 0 0 36 [(0, .ref (G.2.2 i0)), (1, .int v1), (2, .int v2), (3, .int v3), (5, .int v5)] [.int s1, .int s0] x := by
  unfold fX7_lentIn_b36 at hf
  refine b_iadd C dX7_lentIn_36 ?_
  obtain ⟨y37, e37, hf⟩ := lN1 hf
  rw [e37]
  refine b_istore (lv' := [(4, .int y37), (0, .ref (G.2.2 i0)), (1, .int v1), (2, .int v2), (3, .int v3), (5, .int v5)]) C dX7_lentIn_37 (by decide) rfl ?_
  refine b_iinc (q := 5) (v' := (v5 + 1)) (lv' := [(5, .int (v5 + 1)), (4, .int y37), (0, .ref (G.2.2 i0)), (1, .int v1), (2, .int v2), (3, .int v3)]) C dX7_lentIn_39 rfl rfl (by decide) rfl ?_
  refine b_goto (tgt := 6) C dX7_lentIn_42 (by decide) ?_
  refine b_pm [2, 3, 4, 5, 1, 0] (lv' := [(0, .ref (G.2.2 i0)), (1, .int v1), (2, .int v2), (3, .int v3), (4, .int y37), (5, .int (v5 + 1))]) rfl ?_
  exact h6 _ _ hf
set_option maxHeartbeats 4000000 in
set_option maxRecDepth 100000 in
theorem wX7_lentIn_b6 (C : CT p s m args meth c cX7_lentIn 6 RX7 (some (.int)) G (pA G s.heap.size)) {i0 : Nat} {v1 : Int32} {v2 : Int32} {v3 : Int32} {x : xS} {r : Int32} (hk0 : KD G i0 7) : ∀ (n : Nat) (v4 : Int32) (v5 : Int32), fX7_lentIn_b6 i0 v1 v2 v3 x n v4 v5 = some r → WB p l e rX7_lentIn s m args below meth c 6 G (pA G s.heap.size) (qI below G (r, x) args s 0 0) 0 0 6 [(0, .ref (G.2.2 i0)), (1, .int v1), (2, .int v2), (3, .int v3), (4, .int v4), (5, .int v5)] [] x := by
  intro n
  induction n with
  | zero =>
    intro v4 v5 hf
    cases hf
  | succ n ih =>
    intro v4 v5 hf
    rw [fX7_lentIn_b6] at hf
    refine b_iload C dX7_lentIn_6 5 rfl ?_
    refine b_iload_n C dX7_lentIn_8 rfl 2 rfl ?_
    refine b_iload_n C dX7_lentIn_9 rfl 3 rfl ?_
    refine b_iadd C dX7_lentIn_10 ?_
    refine b_icmp_ge (tgt := 45) C dX7_lentIn_11 (by decide) (fun c11 => ?_) (fun c11 => ?_)
    · have hf := iT c11 hf
      refine b_iload C dX7_lentIn_45 4 rfl ?_
      exact b_ireti C dX7_lentIn_47 (congrArg (Option.map (fun q => (q, x))) hf)
    · have hf := iF c11 hf
      refine b_iload C dX7_lentIn_14 4 rfl ?_
      refine b_aload_n C dX7_lentIn_16 rfl 0 rfl ?_
      refine gfX7_7 C hk0 dX7_lentIn_17 ?_
      refine b_iload_n C dX7_lentIn_20 rfl 1 rfl ?_
      refine b_iload C dX7_lentIn_21 5 rfl ?_
      obtain ⟨r23, c23, hf⟩ := oB hf
      refine b_callSi (As := [.int v1, .int v5]) (res := (r23, x)) C (metX7_ofBed l G _ _ _ _  c23) gkX7_40 ekX7_40 rfl ⟨rfl, rfl⟩ ⟨Nat.le_of_ble_eq_true rfl, Nat.le_of_ble_eq_true rfl⟩ (by simp [Value.category]) ⟨Nat.zero_le _, Nat.zero_le _⟩ rfl dX7_lentIn_23 ?_
      obtain ⟨g26, hf⟩ := iN hf
      refine b_iald C ((kd7 C.cl hk0).1) g26 dX7_lentIn_26 ?_
      refine b_iconst (v := (-1)) C dX7_lentIn_27 (by decide) ?_
      refine b_icmp_ne (tgt := 35) C dX7_lentIn_28 (by decide) (fun c28 => ?_) (fun c28 => ?_)
      · have hf := iF c28 hf
        refine b_iconst (v := 1) C dX7_lentIn_35 (by decide) ?_
        refine b_pm [0, 1, 2, 3, 5] (lv' := [(0, .ref (G.2.2 i0)), (1, .int v1), (2, .int v2), (3, .int v3), (5, .int v5)]) rfl ?_
        exact wX7_lentIn_b36 C ih hk0 hf
      · have hf := iT c28 hf
        refine b_iconst (v := 0) C dX7_lentIn_31 (by decide) ?_
        refine b_goto (tgt := 36) C dX7_lentIn_32 (by decide) ?_
        refine b_pm [0, 1, 2, 3, 5] (lv' := [(0, .ref (G.2.2 i0)), (1, .int v1), (2, .int v2), (3, .int v3), (5, .int v5)]) rfl ?_
        exact wX7_lentIn_b36 C ih hk0 hf
set_option maxHeartbeats 4000000 in
set_option maxRecDepth 100000 in
theorem wX7_lentIn_b0 (C : CT p s m args meth c cX7_lentIn 6 RX7 (some (.int)) G (pA G s.heap.size)) {i0 : Nat} {v1 : Int32} {v2 : Int32} {v3 : Int32} {x : xS}  {r : Int32} (hk0 : KD G i0 7) (hf : fX7_lentIn_b0 i0 v1 v2 v3 x  = some r) : WB p l e rX7_lentIn s m args below meth c 6 G (pA G s.heap.size) (qI below G (r, x) args s 0 0) 0 0 0 [(0, .ref (G.2.2 i0)), (1, .int v1), (2, .int v2), (3, .int v3)] [] x := by
  unfold fX7_lentIn_b0 at hf
  refine b_iconst (v := 0) C dX7_lentIn_0 (by decide) ?_
  refine b_istore (lv' := [(4, .int 0), (0, .ref (G.2.2 i0)), (1, .int v1), (2, .int v2), (3, .int v3)]) C dX7_lentIn_1 (by decide) rfl ?_
  refine b_iload_n C dX7_lentIn_3 rfl 3 rfl ?_
  refine b_istore (lv' := [(5, .int v2), (4, .int 0), (0, .ref (G.2.2 i0)), (1, .int v1), (2, .int v2), (3, .int v3)]) C dX7_lentIn_4 (by decide) rfl ?_
  refine b_pm [2, 3, 4, 5, 1, 0] (lv' := [(0, .ref (G.2.2 i0)), (1, .int v1), (2, .int v2), (3, .int v3), (4, .int 0), (5, .int v2)]) rfl ?_
  exact wX7_lentIn_b6 C  hk0 FU _ _ hf
end
theorem metX7_lentIn (l : Launch) (G : gT) (i0 : Nat) (v1 : Int32) (v2 : Int32) (v3 : Int32) (x : xS) (r : Int32) (hk0 : KD G i0 7) (hf : fX7_lentIn i0 v1 v2 v3 x = some r) : cI l yX7_lentIn cX7_lentIn 6 (.int) rX7_lentIn [.ref (G.2.2 i0), .int v1, .int v2, .int v3] G x (r, x) :=
  b_body (by decide) (Nat.le_of_ble_eq_true rfl) rfl (fun p e s m args below meth c C => wX7_lentIn_b0 C hk0 hf)
-- X7_emptiest
abbrev rX7_emptiest : Room := { frames := 2, cells := 0, slots := 0, locals := 46 }
def fX7_emptiest_b35 (k5 : Int32 → Int32 → Option Int32) (i0 : Nat) (v1 : Int32) (v2 : Int32) (x : xS) (v4 : Int32) (s0 : Int32) : Option Int32 :=
  k5 s0 (v4 + 1)
def fX7_emptiest_b5 (i0 : Nat) (v1 : Int32) (v2 : Int32) (x : xS) : Nat → Int32 → Int32 → Option Int32
  | 0, _, _ => none
  | n + 1, v3, v4 => (if (4 : Int32) ≤ v4 then
  some v3
  else
  Option.bind (fX7_lentIn i0 v4 v1 v2 x) (fun r16 =>
  Option.bind (fX7_lentIn i0 v3 v1 v2 x) (fun r23 =>
  (if r23 ≤ r16 then
  fX7_emptiest_b35 (fX7_emptiest_b5 i0 v1 v2 x n) i0 v1 v2 x v4 v3
  else
  fX7_emptiest_b35 (fX7_emptiest_b5 i0 v1 v2 x n) i0 v1 v2 x v4 v4))))
def fX7_emptiest_b0 (i0 : Nat) (v1 : Int32) (v2 : Int32) (x : xS)  : Option Int32 :=
  fX7_emptiest_b5 i0 v1 v2 x FU 0 1
def fX7_emptiest (i0 : Nat) (v1 : Int32) (v2 : Int32) (x : xS) : Option Int32 := fX7_emptiest_b0 i0 v1 v2 x
section
variable {p : Program} {l : Launch} {e : Env} {R : Room} {s : State} {m : MethodId} {args : Array Value} {below : List Frame} {meth : Method} {c : Code} {G : gT}
set_option maxHeartbeats 4000000 in
set_option maxRecDepth 100000 in
theorem wX7_emptiest_b35 (C : CT p s m args meth c cX7_emptiest 5 RX7 (some (.int)) G (pA G s.heap.size)) {k5 : Int32 → Int32 → Option Int32} {i0 : Nat} {v1 : Int32} {v2 : Int32} {x : xS} {v4 : Int32} {s0 : Int32} {r : Int32} (h5 : ∀ (v3 : Int32) (v4 : Int32), k5 v3 v4 = some r → WB p l e rX7_emptiest s m args below meth c 5 G (pA G s.heap.size) (qI below G (r, x) args s 0 0) 0 0 5 [(0, .ref (G.2.2 i0)), (1, .int v1), (2, .int v2), (3, .int v3), (4, .int v4)] [] x) (hk0 : KD G i0 7) (hf : fX7_emptiest_b35 k5 i0 v1 v2 x v4 s0 = some r) : WB p l e rX7_emptiest s m args below meth c 5 G (pA G s.heap.size) (qI below G (r, x) args s 0 0) 0 0 35 [(0, .ref (G.2.2 i0)), (1, .int v1), (2, .int v2), (4, .int v4)] [.int s0] x := by
  unfold fX7_emptiest_b35 at hf
  refine b_istore_n (lv' := [(3, .int s0), (0, .ref (G.2.2 i0)), (1, .int v1), (2, .int v2), (4, .int v4)]) C dX7_emptiest_35 rfl (by decide) rfl ?_
  refine b_iinc (q := 4) (v' := (v4 + 1)) (lv' := [(4, .int (v4 + 1)), (3, .int s0), (0, .ref (G.2.2 i0)), (1, .int v1), (2, .int v2)]) C dX7_emptiest_36 rfl rfl (by decide) rfl ?_
  refine b_goto (tgt := 5) C dX7_emptiest_39 (by decide) ?_
  refine b_pm [2, 3, 4, 1, 0] (lv' := [(0, .ref (G.2.2 i0)), (1, .int v1), (2, .int v2), (3, .int s0), (4, .int (v4 + 1))]) rfl ?_
  exact h5 _ _ hf
set_option maxHeartbeats 4000000 in
set_option maxRecDepth 100000 in
theorem wX7_emptiest_b5 (C : CT p s m args meth c cX7_emptiest 5 RX7 (some (.int)) G (pA G s.heap.size)) {i0 : Nat} {v1 : Int32} {v2 : Int32} {x : xS} {r : Int32} (hk0 : KD G i0 7) : ∀ (n : Nat) (v3 : Int32) (v4 : Int32), fX7_emptiest_b5 i0 v1 v2 x n v3 v4 = some r → WB p l e rX7_emptiest s m args below meth c 5 G (pA G s.heap.size) (qI below G (r, x) args s 0 0) 0 0 5 [(0, .ref (G.2.2 i0)), (1, .int v1), (2, .int v2), (3, .int v3), (4, .int v4)] [] x := by
  intro n
  induction n with
  | zero =>
    intro v3 v4 hf
    cases hf
  | succ n ih =>
    intro v3 v4 hf
    rw [fX7_emptiest_b5] at hf
    refine b_iload C dX7_emptiest_5 4 rfl ?_
    refine b_iconst (v := 4) C dX7_emptiest_7 (by decide) ?_
    refine b_icmp_ge (tgt := 42) C dX7_emptiest_8 (by decide) (fun c8 => ?_) (fun c8 => ?_)
    · have hf := iT c8 hf
      refine b_iload_n C dX7_emptiest_42 rfl 3 rfl ?_
      exact b_ireti C dX7_emptiest_43 (congrArg (Option.map (fun q => (q, x))) hf)
    · have hf := iF c8 hf
      refine b_aload_n C dX7_emptiest_11 rfl 0 rfl ?_
      refine b_iload C dX7_emptiest_12 4 rfl ?_
      refine b_iload_n C dX7_emptiest_14 rfl 1 rfl ?_
      refine b_iload_n C dX7_emptiest_15 rfl 2 rfl ?_
      obtain ⟨r16, c16, hf⟩ := oB hf
      refine b_callVi (K := 7) (As := [.int v4, .int v1, .int v2]) (res := (r16, x)) C (metX7_lentIn l G _ _ _ _ _ _ hk0 c16) hk0 (by decide) rfl gkX7_43 ekX7_43 rfl ⟨rfl, rfl⟩ ⟨Nat.le_of_ble_eq_true rfl, Nat.le_of_ble_eq_true rfl⟩ (by simp [Value.category]) ⟨Nat.zero_le _, Nat.zero_le _⟩ rfl dX7_emptiest_16 ?_
      refine b_aload_n C dX7_emptiest_19 rfl 0 rfl ?_
      refine b_iload_n C dX7_emptiest_20 rfl 3 rfl ?_
      refine b_iload_n C dX7_emptiest_21 rfl 1 rfl ?_
      refine b_iload_n C dX7_emptiest_22 rfl 2 rfl ?_
      obtain ⟨r23, c23, hf⟩ := oB hf
      refine b_callVi (K := 7) (As := [.int v3, .int v1, .int v2]) (res := (r23, x)) C (metX7_lentIn l G _ _ _ _ _ _ hk0 c23) hk0 (by decide) rfl gkX7_43 ekX7_43 rfl ⟨rfl, rfl⟩ ⟨Nat.le_of_ble_eq_true rfl, Nat.le_of_ble_eq_true rfl⟩ (by simp [Value.category]) ⟨Nat.zero_le _, Nat.zero_le _⟩ rfl dX7_emptiest_23 ?_
      refine b_icmp_ge (tgt := 34) C dX7_emptiest_26 (by decide) (fun c26 => ?_) (fun c26 => ?_)
      · have hf := iT c26 hf
        refine b_iload_n C dX7_emptiest_34 rfl 3 rfl ?_
        refine b_pm [0, 1, 2, 4] (lv' := [(0, .ref (G.2.2 i0)), (1, .int v1), (2, .int v2), (4, .int v4)]) rfl ?_
        exact wX7_emptiest_b35 C ih hk0 hf
      · have hf := iF c26 hf
        refine b_iload C dX7_emptiest_29 4 rfl ?_
        refine b_goto (tgt := 35) C dX7_emptiest_31 (by decide) ?_
        refine b_pm [0, 1, 2, 4] (lv' := [(0, .ref (G.2.2 i0)), (1, .int v1), (2, .int v2), (4, .int v4)]) rfl ?_
        exact wX7_emptiest_b35 C ih hk0 hf
set_option maxHeartbeats 4000000 in
set_option maxRecDepth 100000 in
theorem wX7_emptiest_b0 (C : CT p s m args meth c cX7_emptiest 5 RX7 (some (.int)) G (pA G s.heap.size)) {i0 : Nat} {v1 : Int32} {v2 : Int32} {x : xS}  {r : Int32} (hk0 : KD G i0 7) (hf : fX7_emptiest_b0 i0 v1 v2 x  = some r) : WB p l e rX7_emptiest s m args below meth c 5 G (pA G s.heap.size) (qI below G (r, x) args s 0 0) 0 0 0 [(0, .ref (G.2.2 i0)), (1, .int v1), (2, .int v2)] [] x := by
  unfold fX7_emptiest_b0 at hf
  refine b_iconst (v := 0) C dX7_emptiest_0 (by decide) ?_
  refine b_istore_n (lv' := [(3, .int 0), (0, .ref (G.2.2 i0)), (1, .int v1), (2, .int v2)]) C dX7_emptiest_1 rfl (by decide) rfl ?_
  refine b_iconst (v := 1) C dX7_emptiest_2 (by decide) ?_
  refine b_istore (lv' := [(4, .int 1), (3, .int 0), (0, .ref (G.2.2 i0)), (1, .int v1), (2, .int v2)]) C dX7_emptiest_3 (by decide) rfl ?_
  refine b_pm [2, 3, 4, 1, 0] (lv' := [(0, .ref (G.2.2 i0)), (1, .int v1), (2, .int v2), (3, .int 0), (4, .int 1)]) rfl ?_
  exact wX7_emptiest_b5 C  hk0 FU _ _ hf
end
theorem metX7_emptiest (l : Launch) (G : gT) (i0 : Nat) (v1 : Int32) (v2 : Int32) (x : xS) (r : Int32) (hk0 : KD G i0 7) (hf : fX7_emptiest i0 v1 v2 x = some r) : cI l yX7_emptiest cX7_emptiest 5 (.int) rX7_emptiest [.ref (G.2.2 i0), .int v1, .int v2] G x (r, x) :=
  b_body (by decide) (Nat.le_of_ble_eq_true rfl) rfl (fun p e s m args below meth c C => wX7_emptiest_b0 C hk0 hf)
-- X7_hindrance
abbrev rX7_hindrance : Room := { frames := 3, cells := 0, slots := 0, locals := 70 }
def fX7_hindrance_b21 (i0 : Nat) (v2 : Int32) (x : xS)  : Option Int32 :=
  (if (108 : Int32) < 0 ∨ ln (i0 + 1) ≤ (108 : Int32).toNatClampNeg then none else
  (if (x.1 (i0 + 1) (108 : Int32).toNatClampNeg) ≤ v2 then
  some 2
  else
  some 1))
def fX7_hindrance_b90 (i0 : Nat) (v2 : Int32) (v3 : Int32) (x : xS)  : Option Int32 :=
  Option.bind (fX7_emptiest i0 v2 v3 x) (fun r94 =>
  Option.bind (fX7_lentIn i0 r94 v2 v3 x) (fun r99 =>
  (if r99 ≤ 0 then
  some 0
  else
  some 4)))
def fX7_hindrance_b0 (i0 : Nat) (v1 : Int32) (v2 : Int32) (v3 : Int32) (x : xS)  : Option Int32 :=
  (if (108 : Int32) < 0 ∨ ln (i0 + 1) ≤ (108 : Int32).toNatClampNeg then none else
  (if v2 < (x.1 (i0 + 1) (108 : Int32).toNatClampNeg) then
  fX7_hindrance_b21 i0 v2 x 
  else
  Option.bind (fX7_hasBed i0 v1 v2 v3 x) (fun r15 =>
  (if r15 = 0 then
  Option.bind (fX7_of v1 1 x) (fun r44 =>
  (if r44 < 0 ∨ ln (i0 + 1) ≤ r44.toNatClampNeg then none else
  (if (x.1 (i0 + 1) r44.toNatClampNeg) = 7 then
  some 0
  else
  Option.bind (fX7_of v1 0 x) (fun r61 =>
  (if r61 < 0 ∨ ln (i0 + 1) ≤ r61.toNatClampNeg then none else
  (if (119 : Int32) < 0 ∨ ln (i0 + 1) ≤ (119 : Int32).toNatClampNeg then none else
  (if (x.1 (i0 + 1) (119 : Int32).toNatClampNeg) ≤ (x.1 (i0 + 1) r61.toNatClampNeg) then
  fX7_hindrance_b90 i0 v2 v3 x 
  else
  Option.bind (fX7_of v1 2 x) (fun r81 =>
  (if r81 < 0 ∨ ln (i0 + 1) ≤ r81.toNatClampNeg then none else
  (if (x.1 (i0 + 1) r81.toNatClampNeg) = 0 then
  some 3
  else
  fX7_hindrance_b90 i0 v2 v3 x ))))))))))
  else
  fX7_hindrance_b21 i0 v2 x ))))
def fX7_hindrance (i0 : Nat) (v1 : Int32) (v2 : Int32) (v3 : Int32) (x : xS) : Option Int32 := fX7_hindrance_b0 i0 v1 v2 v3 x
section
variable {p : Program} {l : Launch} {e : Env} {R : Room} {s : State} {m : MethodId} {args : Array Value} {below : List Frame} {meth : Method} {c : Code} {G : gT}
set_option maxHeartbeats 4000000 in
set_option maxRecDepth 100000 in
theorem wX7_hindrance_b21 (C : CT p s m args meth c cX7_hindrance 4 RX7 (some (.int)) G (pA G s.heap.size)) {i0 : Nat} {v2 : Int32} {x : xS}  {r : Int32} (hk0 : KD G i0 7) (hf : fX7_hindrance_b21 i0 v2 x  = some r) : WB p l e rX7_hindrance s m args below meth c 4 G (pA G s.heap.size) (qI below G (r, x) args s 0 0) 0 0 21 [(0, .ref (G.2.2 i0)), (2, .int v2)] [] x := by
  unfold fX7_hindrance_b21 at hf
  refine b_iload_n C dX7_hindrance_21 rfl 1 rfl ?_
  refine b_aload_n C dX7_hindrance_22 rfl 0 rfl ?_
  refine gfX7_7 C hk0 dX7_hindrance_23 ?_
  refine b_bipush (v := 108) C dX7_hindrance_26 (by decide) ?_
  obtain ⟨g28, hf⟩ := iN hf
  refine b_iald C ((kd7 C.cl hk0).1) g28 dX7_hindrance_28 ?_
  refine b_icmp_ge (tgt := 36) C dX7_hindrance_29 (by decide) (fun c29 => ?_) (fun c29 => ?_)
  · have hf := iT c29 hf
    refine b_iconst (v := 2) C dX7_hindrance_36 (by decide) ?_
    exact b_ireti C dX7_hindrance_37 (congrArg (Option.map (fun q => (q, x))) hf)
  · have hf := iF c29 hf
    refine b_iconst (v := 1) C dX7_hindrance_32 (by decide) ?_
    refine b_goto (tgt := 37) C dX7_hindrance_33 (by decide) ?_
    exact b_ireti C dX7_hindrance_37 (congrArg (Option.map (fun q => (q, x))) hf)
set_option maxHeartbeats 4000000 in
set_option maxRecDepth 100000 in
theorem wX7_hindrance_b90 (C : CT p s m args meth c cX7_hindrance 4 RX7 (some (.int)) G (pA G s.heap.size)) {i0 : Nat} {v2 : Int32} {v3 : Int32} {x : xS}  {r : Int32} (hk0 : KD G i0 7) (hf : fX7_hindrance_b90 i0 v2 v3 x  = some r) : WB p l e rX7_hindrance s m args below meth c 4 G (pA G s.heap.size) (qI below G (r, x) args s 0 0) 0 0 90 [(0, .ref (G.2.2 i0)), (2, .int v2), (3, .int v3)] [] x := by
  unfold fX7_hindrance_b90 at hf
  refine b_aload_n C dX7_hindrance_90 rfl 0 rfl ?_
  refine b_aload_n C dX7_hindrance_91 rfl 0 rfl ?_
  refine b_iload_n C dX7_hindrance_92 rfl 1 rfl ?_
  refine b_iload_n C dX7_hindrance_93 rfl 2 rfl ?_
  obtain ⟨r94, c94, hf⟩ := oB hf
  refine b_callVi (K := 7) (As := [.int v2, .int v3]) (res := (r94, x)) C (metX7_emptiest l G _ _ _ _ _ hk0 c94) hk0 (by decide) rfl gkX7_53 ekX7_53 rfl ⟨rfl, rfl⟩ ⟨Nat.le_of_ble_eq_true rfl, Nat.le_of_ble_eq_true rfl⟩ (by simp [Value.category]) ⟨Nat.zero_le _, Nat.zero_le _⟩ rfl dX7_hindrance_94 ?_
  refine b_iload_n C dX7_hindrance_97 rfl 1 rfl ?_
  refine b_iload_n C dX7_hindrance_98 rfl 2 rfl ?_
  obtain ⟨r99, c99, hf⟩ := oB hf
  refine b_callVi (K := 7) (As := [.int r94, .int v2, .int v3]) (res := (r99, x)) C (metX7_lentIn l G _ _ _ _ _ _ hk0 c99) hk0 (by decide) rfl gkX7_43 ekX7_43 rfl ⟨rfl, rfl⟩ ⟨Nat.le_of_ble_eq_true rfl, Nat.le_of_ble_eq_true rfl⟩ (by simp [Value.category]) ⟨Nat.zero_le _, Nat.zero_le _⟩ rfl dX7_hindrance_99 ?_
  refine b_if_le (tgt := 109) C dX7_hindrance_102 (by decide) (fun c102 => ?_) (fun c102 => ?_)
  · have hf := iT c102 hf
    refine b_iconst (v := 0) C dX7_hindrance_109 (by decide) ?_
    exact b_ireti C dX7_hindrance_110 (congrArg (Option.map (fun q => (q, x))) hf)
  · have hf := iF c102 hf
    refine b_iconst (v := 4) C dX7_hindrance_105 (by decide) ?_
    refine b_goto (tgt := 110) C dX7_hindrance_106 (by decide) ?_
    exact b_ireti C dX7_hindrance_110 (congrArg (Option.map (fun q => (q, x))) hf)
set_option maxHeartbeats 4000000 in
set_option maxRecDepth 100000 in
theorem wX7_hindrance_b0 (C : CT p s m args meth c cX7_hindrance 4 RX7 (some (.int)) G (pA G s.heap.size)) {i0 : Nat} {v1 : Int32} {v2 : Int32} {v3 : Int32} {x : xS}  {r : Int32} (hk0 : KD G i0 7) (hf : fX7_hindrance_b0 i0 v1 v2 v3 x  = some r) : WB p l e rX7_hindrance s m args below meth c 4 G (pA G s.heap.size) (qI below G (r, x) args s 0 0) 0 0 0 [(0, .ref (G.2.2 i0)), (1, .int v1), (2, .int v2), (3, .int v3)] [] x := by
  unfold fX7_hindrance_b0 at hf
  refine b_iload_n C dX7_hindrance_0 rfl 2 rfl ?_
  refine b_aload_n C dX7_hindrance_1 rfl 0 rfl ?_
  refine gfX7_7 C hk0 dX7_hindrance_2 ?_
  refine b_bipush (v := 108) C dX7_hindrance_5 (by decide) ?_
  obtain ⟨g7, hf⟩ := iN hf
  refine b_iald C ((kd7 C.cl hk0).1) g7 dX7_hindrance_7 ?_
  refine b_icmp_lt (tgt := 21) C dX7_hindrance_8 (by decide) (fun c8 => ?_) (fun c8 => ?_)
  · have hf := iT c8 hf
    refine b_pm [0, 2] (lv' := [(0, .ref (G.2.2 i0)), (2, .int v2)]) rfl ?_
    exact wX7_hindrance_b21 C  hk0 hf
  · have hf := iF c8 hf
    refine b_aload_n C dX7_hindrance_11 rfl 0 rfl ?_
    refine b_iload_n C dX7_hindrance_12 rfl 1 rfl ?_
    refine b_iload_n C dX7_hindrance_13 rfl 2 rfl ?_
    refine b_iload_n C dX7_hindrance_14 rfl 3 rfl ?_
    obtain ⟨r15, c15, hf⟩ := oB hf
    refine b_callVi (K := 7) (As := [.int v1, .int v2, .int v3]) (res := (r15, x)) C (metX7_hasBed l G _ _ _ _ _ _ hk0 c15) hk0 (by decide) rfl gkX7_50 ekX7_50 rfl ⟨rfl, rfl⟩ ⟨Nat.le_of_ble_eq_true rfl, Nat.le_of_ble_eq_true rfl⟩ (by simp [Value.category]) ⟨Nat.zero_le _, Nat.zero_le _⟩ rfl dX7_hindrance_15 ?_
    refine b_if_eq (tgt := 38) C dX7_hindrance_18 (by decide) (fun c18 => ?_) (fun c18 => ?_)
    · have hf := iT c18 hf
      refine b_aload_n C dX7_hindrance_38 rfl 0 rfl ?_
      refine gfX7_7 C hk0 dX7_hindrance_39 ?_
      refine b_iload_n C dX7_hindrance_42 rfl 1 rfl ?_
      refine b_iconst (v := 1) C dX7_hindrance_43 (by decide) ?_
      obtain ⟨r44, c44, hf⟩ := oB hf
      refine b_callSi (As := [.int v1, .int 1]) (res := (r44, x)) C (metX7_of l G _ _ _ _  c44) gkX7_25 ekX7_25 rfl ⟨rfl, rfl⟩ ⟨Nat.le_of_ble_eq_true rfl, Nat.le_of_ble_eq_true rfl⟩ (by simp [Value.category]) ⟨Nat.zero_le _, Nat.zero_le _⟩ rfl dX7_hindrance_44 ?_
      obtain ⟨g47, hf⟩ := iN hf
      refine b_iald C ((kd7 C.cl hk0).1) g47 dX7_hindrance_47 ?_
      refine b_bipush (v := 7) C dX7_hindrance_48 (by decide) ?_
      refine b_icmp_ne (tgt := 55) C dX7_hindrance_50 (by decide) (fun c50 => ?_) (fun c50 => ?_)
      · have hf := iF c50 hf
        refine b_aload_n C dX7_hindrance_55 rfl 0 rfl ?_
        refine gfX7_7 C hk0 dX7_hindrance_56 ?_
        refine b_iload_n C dX7_hindrance_59 rfl 1 rfl ?_
        refine b_iconst (v := 0) C dX7_hindrance_60 (by decide) ?_
        obtain ⟨r61, c61, hf⟩ := oB hf
        refine b_callSi (As := [.int v1, .int 0]) (res := (r61, x)) C (metX7_of l G _ _ _ _  c61) gkX7_25 ekX7_25 rfl ⟨rfl, rfl⟩ ⟨Nat.le_of_ble_eq_true rfl, Nat.le_of_ble_eq_true rfl⟩ (by simp [Value.category]) ⟨Nat.zero_le _, Nat.zero_le _⟩ rfl dX7_hindrance_61 ?_
        obtain ⟨g64, hf⟩ := iN hf
        refine b_iald C ((kd7 C.cl hk0).1) g64 dX7_hindrance_64 ?_
        refine b_aload_n C dX7_hindrance_65 rfl 0 rfl ?_
        refine gfX7_7 C hk0 dX7_hindrance_66 ?_
        refine b_bipush (v := 119) C dX7_hindrance_69 (by decide) ?_
        obtain ⟨g71, hf⟩ := iN hf
        refine b_iald C ((kd7 C.cl hk0).1) g71 dX7_hindrance_71 ?_
        refine b_icmp_ge (tgt := 90) C dX7_hindrance_72 (by decide) (fun c72 => ?_) (fun c72 => ?_)
        · have hf := iT c72 hf
          refine b_pm [0, 2, 3] (lv' := [(0, .ref (G.2.2 i0)), (2, .int v2), (3, .int v3)]) rfl ?_
          exact wX7_hindrance_b90 C  hk0 hf
        · have hf := iF c72 hf
          refine b_aload_n C dX7_hindrance_75 rfl 0 rfl ?_
          refine gfX7_7 C hk0 dX7_hindrance_76 ?_
          refine b_iload_n C dX7_hindrance_79 rfl 1 rfl ?_
          refine b_iconst (v := 2) C dX7_hindrance_80 (by decide) ?_
          obtain ⟨r81, c81, hf⟩ := oB hf
          refine b_callSi (As := [.int v1, .int 2]) (res := (r81, x)) C (metX7_of l G _ _ _ _  c81) gkX7_25 ekX7_25 rfl ⟨rfl, rfl⟩ ⟨Nat.le_of_ble_eq_true rfl, Nat.le_of_ble_eq_true rfl⟩ (by simp [Value.category]) ⟨Nat.zero_le _, Nat.zero_le _⟩ rfl dX7_hindrance_81 ?_
          obtain ⟨g84, hf⟩ := iN hf
          refine b_iald C ((kd7 C.cl hk0).1) g84 dX7_hindrance_84 ?_
          refine b_if_ne (tgt := 90) C dX7_hindrance_85 (by decide) (fun c85 => ?_) (fun c85 => ?_)
          · have hf := iF c85 hf
            refine b_pm [0, 2, 3] (lv' := [(0, .ref (G.2.2 i0)), (2, .int v2), (3, .int v3)]) rfl ?_
            exact wX7_hindrance_b90 C  hk0 hf
          · have hf := iT c85 hf
            refine b_iconst (v := 3) C dX7_hindrance_88 (by decide) ?_
            exact b_ireti C dX7_hindrance_89 (congrArg (Option.map (fun q => (q, x))) hf)
      · have hf := iT c50 hf
        refine b_iconst (v := 0) C dX7_hindrance_53 (by decide) ?_
        exact b_ireti C dX7_hindrance_54 (congrArg (Option.map (fun q => (q, x))) hf)
    · have hf := iF c18 hf
      refine b_pm [0, 2] (lv' := [(0, .ref (G.2.2 i0)), (2, .int v2)]) rfl ?_
      exact wX7_hindrance_b21 C  hk0 hf
end
theorem metX7_hindrance (l : Launch) (G : gT) (i0 : Nat) (v1 : Int32) (v2 : Int32) (v3 : Int32) (x : xS) (r : Int32) (hk0 : KD G i0 7) (hf : fX7_hindrance i0 v1 v2 v3 x = some r) : cI l yX7_hindrance cX7_hindrance 4 (.int) rX7_hindrance [.ref (G.2.2 i0), .int v1, .int v2, .int v3] G x (r, x) :=
  b_body (by decide) (Nat.le_of_ble_eq_true rfl) rfl (fun p e s m args below meth c C => wX7_hindrance_b0 C hk0 hf)
-- X7_frees
abbrev rX7_frees : Room := { frames := 1, cells := 0, slots := 0, locals := 22 }
def fX7_frees_b17 (i0 : Nat) (v1 : Int32) (v3 : Int32) : Nat → Int32 → Int32 → xS → Option xS
  | 0, _, _, _ => none
  | n + 1, v4, v5, x => (if (108 : Int32) < 0 ∨ ln (i0 + 1) ≤ (108 : Int32).toNatClampNeg then none else
  Option.bind (fX7_in v5 (x.1 (i0 + 1) (108 : Int32).toNatClampNeg) 11 x) (fun r28 =>
  (if r28 = 0 then
  some x
  else
  Option.bind (fX7_ofBed v1 v5 x) (fun r41 =>
  (if r41 < 0 ∨ ln (i0 + 1) ≤ r41.toNatClampNeg then none else
  (if (x.1 (i0 + 1) r41.toNatClampNeg) = v4 then
  Option.bind (fX7_ofBed v1 v5 x) (fun r57 =>
  (if r57 < 0 ∨ ln (i0 + 1) ≤ r57.toNatClampNeg then none else
  lt1 (up1 x (i0 + 1) r57.toNatClampNeg (-1)) (fun x61 =>
  (if (116 : Int32) < 0 ∨ ln (i0 + 1) ≤ (116 : Int32).toNatClampNeg then none else
  (if (116 : Int32) < 0 ∨ ln (i0 + 1) ≤ (116 : Int32).toNatClampNeg then none else
  lt1 (up1 x61 (i0 + 1) (116 : Int32).toNatClampNeg ((x61.1 (i0 + 1) (116 : Int32).toNatClampNeg) + 1)) (fun x72 =>
  lt1 (v5 + v3) (fun y77 => 
  fX7_frees_b17 i0 v1 v3 n v4 y77 x72)))))))
  else
  some x))))))
def fX7_frees_b0 (i0 : Nat) (v1 : Int32) (v2 : Int32) (v3 : Int32) (x : xS) : Option xS :=
  Option.bind (fX7_ofBed v1 v2 x) (fun r6 =>
  (if r6 < 0 ∨ ln (i0 + 1) ≤ r6.toNatClampNeg then none else
  lt1 (x.1 (i0 + 1) r6.toNatClampNeg) (fun y10 => 
  lt1 (v2 + v3) (fun y15 => 
  fX7_frees_b17 i0 v1 v3 FU y10 y15 x))))
def fX7_frees (i0 : Nat) (v1 : Int32) (v2 : Int32) (v3 : Int32) (x : xS) : Option xS := fX7_frees_b0 i0 v1 v2 v3 x
section
variable {p : Program} {l : Launch} {e : Env} {R : Room} {s : State} {m : MethodId} {args : Array Value} {below : List Frame} {meth : Method} {c : Code} {G : gT}
set_option maxHeartbeats 4000000 in
set_option maxRecDepth 100000 in
theorem wX7_frees_b17 (C : CT p s m args meth c cX7_frees 6 RX7 none G (pA G s.heap.size)) {i0 : Nat} {v1 : Int32} {v3 : Int32} {r : xS} (hk0 : KD G i0 7) : ∀ (n : Nat) (v4 : Int32) (v5 : Int32) (x : xS), fX7_frees_b17 i0 v1 v3 n v4 v5 x = some r → WB p l e rX7_frees s m args below meth c 6 G (pA G s.heap.size) (qV below G r args s 0 0) 0 0 17 [(0, .ref (G.2.2 i0)), (1, .int v1), (3, .int v3), (4, .int v4), (5, .int v5)] [] x := by
  intro n
  induction n with
  | zero =>
    intro v4 v5 x hf
    cases hf
  | succ n ih =>
    intro v4 v5 x hf
    rw [fX7_frees_b17] at hf
    refine b_iload C dX7_frees_17 4 rfl ?_
    refine b_aload_n C dX7_frees_19 rfl 0 rfl ?_
    refine gfX7_7 C hk0 dX7_frees_20 ?_
    refine b_bipush (v := 108) C dX7_frees_23 (by decide) ?_
    obtain ⟨g25, hf⟩ := iN hf
    refine b_iald C ((kd7 C.cl hk0).1) g25 dX7_frees_25 ?_
    refine b_bipush (v := 11) C dX7_frees_26 (by decide) ?_
    obtain ⟨r28, c28, hf⟩ := oB hf
    refine b_callSi (As := [.int v5, .int (x.1 (i0 + 1) (108 : Int32).toNatClampNeg), .int 11]) (res := (r28, x)) C (metX7_in l G _ _ _ _ _  c28) gkX7_33 ekX7_33 rfl ⟨rfl, rfl⟩ ⟨Nat.le_of_ble_eq_true rfl, Nat.le_of_ble_eq_true rfl⟩ (by simp [Value.category]) ⟨Nat.zero_le _, Nat.zero_le _⟩ rfl dX7_frees_28 ?_
    refine b_if_eq (tgt := 82) C dX7_frees_31 (by decide) (fun c31 => ?_) (fun c31 => ?_)
    · have hf := iT c31 hf
      exact b_vret C dX7_frees_82 hf
    · have hf := iF c31 hf
      refine b_aload_n C dX7_frees_34 rfl 0 rfl ?_
      refine gfX7_7 C hk0 dX7_frees_35 ?_
      refine b_iload_n C dX7_frees_38 rfl 1 rfl ?_
      refine b_iload C dX7_frees_39 4 rfl ?_
      obtain ⟨r41, c41, hf⟩ := oB hf
      refine b_callSi (As := [.int v1, .int v5]) (res := (r41, x)) C (metX7_ofBed l G _ _ _ _  c41) gkX7_40 ekX7_40 rfl ⟨rfl, rfl⟩ ⟨Nat.le_of_ble_eq_true rfl, Nat.le_of_ble_eq_true rfl⟩ (by simp [Value.category]) ⟨Nat.zero_le _, Nat.zero_le _⟩ rfl dX7_frees_41 ?_
      obtain ⟨g44, hf⟩ := iN hf
      refine b_iald C ((kd7 C.cl hk0).1) g44 dX7_frees_44 ?_
      refine b_iload C dX7_frees_45 3 rfl ?_
      refine b_icmp_ne (tgt := 82) C dX7_frees_47 (by decide) (fun c47 => ?_) (fun c47 => ?_)
      · have hf := iF c47 hf
        exact b_vret C dX7_frees_82 hf
      · have hf := iT c47 hf
        refine b_aload_n C dX7_frees_50 rfl 0 rfl ?_
        refine gfX7_7 C hk0 dX7_frees_51 ?_
        refine b_iload_n C dX7_frees_54 rfl 1 rfl ?_
        refine b_iload C dX7_frees_55 4 rfl ?_
        obtain ⟨r57, c57, hf⟩ := oB hf
        refine b_callSi (As := [.int v1, .int v5]) (res := (r57, x)) C (metX7_ofBed l G _ _ _ _  c57) gkX7_40 ekX7_40 rfl ⟨rfl, rfl⟩ ⟨Nat.le_of_ble_eq_true rfl, Nat.le_of_ble_eq_true rfl⟩ (by simp [Value.category]) ⟨Nat.zero_le _, Nat.zero_le _⟩ rfl dX7_frees_57 ?_
        refine b_iconst (v := (-1)) C dX7_frees_60 (by decide) ?_
        obtain ⟨g61, hf⟩ := iN hf
        obtain ⟨x61, e61, hf⟩ := lN1 hf
        refine b_iast C ((kd7 C.cl hk0).1) g61 dX7_frees_61 ?_
        rw [e61]
        refine b_aload_n C dX7_frees_62 rfl 0 rfl ?_
        refine gfX7_7 C hk0 dX7_frees_63 ?_
        refine b_bipush (v := 116) C dX7_frees_66 (by decide) ?_
        refine b_dup2 C dX7_frees_68 rfl rfl ?_
        obtain ⟨g69, hf⟩ := iN hf
        refine b_iald C ((kd7 C.cl hk0).1) g69 dX7_frees_69 ?_
        refine b_iconst (v := 1) C dX7_frees_70 (by decide) ?_
        refine b_iadd C dX7_frees_71 ?_
        obtain ⟨g72, hf⟩ := iN hf
        obtain ⟨x72, e72, hf⟩ := lN1 hf
        refine b_iast C ((kd7 C.cl hk0).1) g72 dX7_frees_72 ?_
        rw [e72]
        refine b_iload C dX7_frees_73 4 rfl ?_
        refine b_iload_n C dX7_frees_75 rfl 2 rfl ?_
        refine b_iadd C dX7_frees_76 ?_
        obtain ⟨y77, e77, hf⟩ := lN1 hf
        rw [e77]
        refine b_istore (lv' := [(5, .int y77), (0, .ref (G.2.2 i0)), (1, .int v1), (3, .int v3), (4, .int v4)]) C dX7_frees_77 (by decide) rfl ?_
        refine b_goto (tgt := 17) C dX7_frees_79 (by decide) ?_
        refine b_pm [1, 2, 3, 4, 0] (lv' := [(0, .ref (G.2.2 i0)), (1, .int v1), (3, .int v3), (4, .int v4), (5, .int y77)]) rfl ?_
        exact ih _ _ _ hf
set_option maxHeartbeats 4000000 in
set_option maxRecDepth 100000 in
theorem wX7_frees_b0 (C : CT p s m args meth c cX7_frees 6 RX7 none G (pA G s.heap.size)) {i0 : Nat} {v1 : Int32} {v2 : Int32} {v3 : Int32} {x : xS} {r : xS} (hk0 : KD G i0 7) (hf : fX7_frees_b0 i0 v1 v2 v3 x = some r) : WB p l e rX7_frees s m args below meth c 6 G (pA G s.heap.size) (qV below G r args s 0 0) 0 0 0 [(0, .ref (G.2.2 i0)), (1, .int v1), (2, .int v2), (3, .int v3)] [] x := by
  unfold fX7_frees_b0 at hf
  refine b_aload_n C dX7_frees_0 rfl 0 rfl ?_
  refine gfX7_7 C hk0 dX7_frees_1 ?_
  refine b_iload_n C dX7_frees_4 rfl 1 rfl ?_
  refine b_iload_n C dX7_frees_5 rfl 2 rfl ?_
  obtain ⟨r6, c6, hf⟩ := oB hf
  refine b_callSi (As := [.int v1, .int v2]) (res := (r6, x)) C (metX7_ofBed l G _ _ _ _  c6) gkX7_40 ekX7_40 rfl ⟨rfl, rfl⟩ ⟨Nat.le_of_ble_eq_true rfl, Nat.le_of_ble_eq_true rfl⟩ (by simp [Value.category]) ⟨Nat.zero_le _, Nat.zero_le _⟩ rfl dX7_frees_6 ?_
  obtain ⟨g9, hf⟩ := iN hf
  refine b_iald C ((kd7 C.cl hk0).1) g9 dX7_frees_9 ?_
  obtain ⟨y10, e10, hf⟩ := lN1 hf
  rw [e10]
  refine b_istore (lv' := [(4, .int y10), (0, .ref (G.2.2 i0)), (1, .int v1), (2, .int v2), (3, .int v3)]) C dX7_frees_10 (by decide) rfl ?_
  refine b_iload_n C dX7_frees_12 rfl 3 rfl ?_
  refine b_iload_n C dX7_frees_13 rfl 4 rfl ?_
  refine b_iadd C dX7_frees_14 ?_
  obtain ⟨y15, e15, hf⟩ := lN1 hf
  rw [e15]
  refine b_istore (lv' := [(5, .int y15), (4, .int y10), (0, .ref (G.2.2 i0)), (1, .int v1), (2, .int v2), (3, .int v3)]) C dX7_frees_15 (by decide) rfl ?_
  refine b_pm [2, 3, 5, 1, 0] (lv' := [(0, .ref (G.2.2 i0)), (1, .int v1), (3, .int v3), (4, .int y10), (5, .int y15)]) rfl ?_
  exact wX7_frees_b17 C  hk0 FU _ _ _ hf
end
theorem metX7_frees (l : Launch) (G : gT) (i0 : Nat) (v1 : Int32) (v2 : Int32) (v3 : Int32) (x : xS) (r : xS) (hk0 : KD G i0 7) (hf : fX7_frees i0 v1 v2 v3 x = some r) : cV l yX7_frees cX7_frees 6 rX7_frees [.ref (G.2.2 i0), .int v1, .int v2, .int v3] G x r :=
  b_body (by decide) (Nat.le_of_ble_eq_true rfl) rfl (fun p e s m args below meth c C => wX7_frees_b0 C hk0 hf)
-- X7_putsOut
abbrev rX7_putsOut : Room := { frames := 2, cells := 0, slots := 0, locals := 47 }
def fX7_putsOut_b126 (i0 : Nat) (s1 : Int32) (s2 : Int32) (s3 : Int32) (x : xS) : Option xS :=
  (if s1 < 0 ∨ ln (i0 + 1) ≤ s1.toNatClampNeg then none else
  lt1 (up1 x (i0 + 1) s1.toNatClampNeg (s2 + s3)) (fun x127 =>
  some x127))
def fX7_putsOut_b0 (i0 : Nat) (v1 : Int32) (v2 : Int32) (x : xS) : Option xS :=
  Option.bind (fX7_ofBed v1 v2 x) (fun r6 =>
  (if r6 < 0 ∨ ln (i0 + 1) ≤ r6.toNatClampNeg then none else
  lt1 (x.1 (i0 + 1) r6.toNatClampNeg) (fun y10 => 
  Option.bind (fX7_frees i0 v1 v2 (-1) x) (fun r15 =>
  Option.bind (fX7_frees i0 v1 v2 1 r15) (fun r22 =>
  Option.bind (fX7_ofBed v1 v2 r22) (fun r31 =>
  (if r31 < 0 ∨ ln (i0 + 1) ≤ r31.toNatClampNeg then none else
  lt1 (up1 r22 (i0 + 1) r31.toNatClampNeg (-1)) (fun x35 =>
  (if (116 : Int32) < 0 ∨ ln (i0 + 1) ≤ (116 : Int32).toNatClampNeg then none else
  (if (116 : Int32) < 0 ∨ ln (i0 + 1) ≤ (116 : Int32).toNatClampNeg then none else
  lt1 (up1 x35 (i0 + 1) (116 : Int32).toNatClampNeg ((x35.1 (i0 + 1) (116 : Int32).toNatClampNeg) + 1)) (fun x46 =>
  (if (((x46.1 i0 9) >>> (y10 &&& 31)) &&& 1) = 0 then
  lt1 (up1 x46 i0 9 ((x46.1 i0 9) ||| ((1 : Int32) <<< (y10 &&& 31)))) (fun x67 =>
  (if (115 : Int32) < 0 ∨ ln (i0 + 1) ≤ (115 : Int32).toNatClampNeg then none else
  (if (115 : Int32) < 0 ∨ ln (i0 + 1) ≤ (115 : Int32).toNatClampNeg then none else
  lt1 (up1 x67 (i0 + 1) (115 : Int32).toNatClampNeg ((x67.1 (i0 + 1) (115 : Int32).toNatClampNeg) + 1)) (fun x80 =>
  Option.bind (fX7_of y10 4 x80) (fun r87 =>
  (if r87 < 0 ∨ ln (i0 + 1) ≤ r87.toNatClampNeg then none else
  (if r87 < 0 ∨ ln (i0 + 1) ≤ r87.toNatClampNeg then none else
  lt1 (up1 x80 (i0 + 1) r87.toNatClampNeg ((x80.1 (i0 + 1) r87.toNatClampNeg) + 1)) (fun x94 =>
  Option.bind (fX7_of y10 1 x94) (fun r101 =>
  (if r101 < 0 ∨ ln (i0 + 1) ≤ r101.toNatClampNeg then none else
  Option.bind (fX7_of y10 1 x94) (fun r112 =>
  (if r112 < 0 ∨ ln (i0 + 1) ≤ r112.toNatClampNeg then none else
  (if (7 : Int32) ≤ (x94.1 (i0 + 1) r112.toNatClampNeg) then
  fX7_putsOut_b126 i0 r101 (x94.1 (i0 + 1) r101.toNatClampNeg) 0 x94
  else
  fX7_putsOut_b126 i0 r101 (x94.1 (i0 + 1) r101.toNatClampNeg) 1 x94)))))))))))))
  else
  some x46))))))))))))
def fX7_putsOut (i0 : Nat) (v1 : Int32) (v2 : Int32) (x : xS) : Option xS := fX7_putsOut_b0 i0 v1 v2 x
section
variable {p : Program} {l : Launch} {e : Env} {R : Room} {s : State} {m : MethodId} {args : Array Value} {below : List Frame} {meth : Method} {c : Code} {G : gT}
set_option maxHeartbeats 4000000 in
set_option maxRecDepth 100000 in
theorem wX7_putsOut_b126 (C : CT p s m args meth c cX7_putsOut 4 RX7 none G (pA G s.heap.size)) {i0 : Nat} {s1 : Int32} {s2 : Int32} {s3 : Int32} {x : xS} {r : xS} (hk0 : KD G i0 7) (hf : fX7_putsOut_b126 i0 s1 s2 s3 x = some r) : WB p l e rX7_putsOut s m args below meth c 4 G (pA G s.heap.size) (qV below G r args s 0 0) 0 0 126 [(0, .ref (G.2.2 i0))] [.int s3, .int s2, .int s1, .ref (G.2.2 (i0 + 1))] x := by
  unfold fX7_putsOut_b126 at hf
  refine b_iadd C dX7_putsOut_126 ?_
  obtain ⟨g127, hf⟩ := iN hf
  obtain ⟨x127, e127, hf⟩ := lN1 hf
  refine b_iast C ((kd7 C.cl hk0).1) g127 dX7_putsOut_127 ?_
  rw [e127]
  exact b_vret C dX7_putsOut_128 hf
set_option maxHeartbeats 4000000 in
set_option maxRecDepth 100000 in
theorem wX7_putsOut_b0 (C : CT p s m args meth c cX7_putsOut 4 RX7 none G (pA G s.heap.size)) {i0 : Nat} {v1 : Int32} {v2 : Int32} {x : xS} {r : xS} (hk0 : KD G i0 7) (hf : fX7_putsOut_b0 i0 v1 v2 x = some r) : WB p l e rX7_putsOut s m args below meth c 4 G (pA G s.heap.size) (qV below G r args s 0 0) 0 0 0 [(0, .ref (G.2.2 i0)), (1, .int v1), (2, .int v2)] [] x := by
  unfold fX7_putsOut_b0 at hf
  refine b_aload_n C dX7_putsOut_0 rfl 0 rfl ?_
  refine gfX7_7 C hk0 dX7_putsOut_1 ?_
  refine b_iload_n C dX7_putsOut_4 rfl 1 rfl ?_
  refine b_iload_n C dX7_putsOut_5 rfl 2 rfl ?_
  obtain ⟨r6, c6, hf⟩ := oB hf
  refine b_callSi (As := [.int v1, .int v2]) (res := (r6, x)) C (metX7_ofBed l G _ _ _ _  c6) gkX7_40 ekX7_40 rfl ⟨rfl, rfl⟩ ⟨Nat.le_of_ble_eq_true rfl, Nat.le_of_ble_eq_true rfl⟩ (by simp [Value.category]) ⟨Nat.zero_le _, Nat.zero_le _⟩ rfl dX7_putsOut_6 ?_
  obtain ⟨g9, hf⟩ := iN hf
  refine b_iald C ((kd7 C.cl hk0).1) g9 dX7_putsOut_9 ?_
  obtain ⟨y10, e10, hf⟩ := lN1 hf
  rw [e10]
  refine b_istore_n (lv' := [(3, .int y10), (0, .ref (G.2.2 i0)), (1, .int v1), (2, .int v2)]) C dX7_putsOut_10 rfl (by decide) rfl ?_
  refine b_aload_n C dX7_putsOut_11 rfl 1 rfl ?_
  refine b_iload_n C dX7_putsOut_12 rfl 2 rfl ?_
  refine b_iload_n C dX7_putsOut_13 rfl 3 rfl ?_
  refine b_iconst (v := (-1)) C dX7_putsOut_14 (by decide) ?_
  obtain ⟨r15, c15, hf⟩ := oB hf
  refine b_callVv (K := 7) (As := [.int v1, .int v2, .int (-1)]) (res := r15) C (metX7_frees l G _ _ _ _ _ _ hk0 c15) hk0 (by decide) rfl gkX7_56 ekX7_56 rfl ⟨rfl, rfl⟩ ⟨Nat.le_of_ble_eq_true rfl, Nat.le_of_ble_eq_true rfl⟩ (by simp [Value.category]) ⟨Nat.zero_le _, Nat.zero_le _⟩ rfl dX7_putsOut_15 ?_
  refine b_aload_n C dX7_putsOut_18 rfl 1 rfl ?_
  refine b_iload_n C dX7_putsOut_19 rfl 2 rfl ?_
  refine b_iload_n C dX7_putsOut_20 rfl 3 rfl ?_
  refine b_iconst (v := 1) C dX7_putsOut_21 (by decide) ?_
  obtain ⟨r22, c22, hf⟩ := oB hf
  refine b_callVv (K := 7) (As := [.int v1, .int v2, .int 1]) (res := r22) C (metX7_frees l G _ _ _ _ _ _ hk0 c22) hk0 (by decide) rfl gkX7_56 ekX7_56 rfl ⟨rfl, rfl⟩ ⟨Nat.le_of_ble_eq_true rfl, Nat.le_of_ble_eq_true rfl⟩ (by simp [Value.category]) ⟨Nat.zero_le _, Nat.zero_le _⟩ rfl dX7_putsOut_22 ?_
  refine b_aload_n C dX7_putsOut_25 rfl 1 rfl ?_
  refine gfX7_7 C hk0 dX7_putsOut_26 ?_
  refine b_iload_n C dX7_putsOut_29 rfl 2 rfl ?_
  refine b_iload_n C dX7_putsOut_30 rfl 3 rfl ?_
  obtain ⟨r31, c31, hf⟩ := oB hf
  refine b_callSi (As := [.int v1, .int v2]) (res := (r31, r22)) C (metX7_ofBed l G _ _ _ _  c31) gkX7_40 ekX7_40 rfl ⟨rfl, rfl⟩ ⟨Nat.le_of_ble_eq_true rfl, Nat.le_of_ble_eq_true rfl⟩ (by simp [Value.category]) ⟨Nat.zero_le _, Nat.zero_le _⟩ rfl dX7_putsOut_31 ?_
  refine b_iconst (v := (-1)) C dX7_putsOut_34 (by decide) ?_
  obtain ⟨g35, hf⟩ := iN hf
  obtain ⟨x35, e35, hf⟩ := lN1 hf
  refine b_iast C ((kd7 C.cl hk0).1) g35 dX7_putsOut_35 ?_
  rw [e35]
  refine b_aload_n C dX7_putsOut_36 rfl 1 rfl ?_
  refine gfX7_7 C hk0 dX7_putsOut_37 ?_
  refine b_bipush (v := 116) C dX7_putsOut_40 (by decide) ?_
  refine b_dup2 C dX7_putsOut_42 rfl rfl ?_
  obtain ⟨g43, hf⟩ := iN hf
  refine b_iald C ((kd7 C.cl hk0).1) g43 dX7_putsOut_43 ?_
  refine b_iconst (v := 1) C dX7_putsOut_44 (by decide) ?_
  refine b_iadd C dX7_putsOut_45 ?_
  obtain ⟨g46, hf⟩ := iN hf
  obtain ⟨x46, e46, hf⟩ := lN1 hf
  refine b_iast C ((kd7 C.cl hk0).1) g46 dX7_putsOut_46 ?_
  rw [e46]
  refine b_aload_n C dX7_putsOut_47 rfl 1 rfl ?_
  refine gfX7_60 C hk0 dX7_putsOut_48 ?_
  refine b_iload_n C dX7_putsOut_51 rfl 0 rfl ?_
  refine b_ishr C dX7_putsOut_52 ?_
  refine b_iconst (v := 1) C dX7_putsOut_53 (by decide) ?_
  refine b_iand C dX7_putsOut_54 ?_
  refine b_if_ne (tgt := 128) C dX7_putsOut_55 (by decide) (fun c55 => ?_) (fun c55 => ?_)
  · have hf := iF c55 hf
    exact b_vret C dX7_putsOut_128 hf
  · have hf := iT c55 hf
    refine b_aload_n C dX7_putsOut_58 rfl 1 rfl ?_
    refine b_dup C dX7_putsOut_59 rfl ?_
    refine gfX7_60 C hk0 dX7_putsOut_60 ?_
    refine b_iconst (v := 1) C dX7_putsOut_63 (by decide) ?_
    refine b_iload_n C dX7_putsOut_64 rfl 0 rfl ?_
    refine b_ishl C dX7_putsOut_65 ?_
    refine b_ior C dX7_putsOut_66 ?_
    obtain ⟨x67, e67, hf⟩ := lN1 hf
    refine pfX7_60 C hk0 dX7_putsOut_67 e67 ?_
    refine b_aload_n C dX7_putsOut_70 rfl 1 rfl ?_
    refine gfX7_7 C hk0 dX7_putsOut_71 ?_
    refine b_bipush (v := 115) C dX7_putsOut_74 (by decide) ?_
    refine b_dup2 C dX7_putsOut_76 rfl rfl ?_
    obtain ⟨g77, hf⟩ := iN hf
    refine b_iald C ((kd7 C.cl hk0).1) g77 dX7_putsOut_77 ?_
    refine b_iconst (v := 1) C dX7_putsOut_78 (by decide) ?_
    refine b_iadd C dX7_putsOut_79 ?_
    obtain ⟨g80, hf⟩ := iN hf
    obtain ⟨x80, e80, hf⟩ := lN1 hf
    refine b_iast C ((kd7 C.cl hk0).1) g80 dX7_putsOut_80 ?_
    rw [e80]
    refine b_aload_n C dX7_putsOut_81 rfl 1 rfl ?_
    refine gfX7_7 C hk0 dX7_putsOut_82 ?_
    refine b_iload_n C dX7_putsOut_85 rfl 0 rfl ?_
    refine b_iconst (v := 4) C dX7_putsOut_86 (by decide) ?_
    obtain ⟨r87, c87, hf⟩ := oB hf
    refine b_callSi (As := [.int y10, .int 4]) (res := (r87, x80)) C (metX7_of l G _ _ _ _  c87) gkX7_25 ekX7_25 rfl ⟨rfl, rfl⟩ ⟨Nat.le_of_ble_eq_true rfl, Nat.le_of_ble_eq_true rfl⟩ (by simp [Value.category]) ⟨Nat.zero_le _, Nat.zero_le _⟩ rfl dX7_putsOut_87 ?_
    refine b_dup2 C dX7_putsOut_90 rfl rfl ?_
    obtain ⟨g91, hf⟩ := iN hf
    refine b_iald C ((kd7 C.cl hk0).1) g91 dX7_putsOut_91 ?_
    refine b_iconst (v := 1) C dX7_putsOut_92 (by decide) ?_
    refine b_iadd C dX7_putsOut_93 ?_
    obtain ⟨g94, hf⟩ := iN hf
    obtain ⟨x94, e94, hf⟩ := lN1 hf
    refine b_iast C ((kd7 C.cl hk0).1) g94 dX7_putsOut_94 ?_
    rw [e94]
    refine b_aload_n C dX7_putsOut_95 rfl 1 rfl ?_
    refine gfX7_7 C hk0 dX7_putsOut_96 ?_
    refine b_iload_n C dX7_putsOut_99 rfl 0 rfl ?_
    refine b_iconst (v := 1) C dX7_putsOut_100 (by decide) ?_
    obtain ⟨r101, c101, hf⟩ := oB hf
    refine b_callSi (As := [.int y10, .int 1]) (res := (r101, x94)) C (metX7_of l G _ _ _ _  c101) gkX7_25 ekX7_25 rfl ⟨rfl, rfl⟩ ⟨Nat.le_of_ble_eq_true rfl, Nat.le_of_ble_eq_true rfl⟩ (by simp [Value.category]) ⟨Nat.zero_le _, Nat.zero_le _⟩ rfl dX7_putsOut_101 ?_
    refine b_dup2 C dX7_putsOut_104 rfl rfl ?_
    obtain ⟨g105, hf⟩ := iN hf
    refine b_iald C ((kd7 C.cl hk0).1) g105 dX7_putsOut_105 ?_
    refine b_aload_n C dX7_putsOut_106 rfl 1 rfl ?_
    refine gfX7_7 C hk0 dX7_putsOut_107 ?_
    refine b_iload_n C dX7_putsOut_110 rfl 0 rfl ?_
    refine b_iconst (v := 1) C dX7_putsOut_111 (by decide) ?_
    obtain ⟨r112, c112, hf⟩ := oB hf
    refine b_callSi (As := [.int y10, .int 1]) (res := (r112, x94)) C (metX7_of l G _ _ _ _  c112) gkX7_25 ekX7_25 rfl ⟨rfl, rfl⟩ ⟨Nat.le_of_ble_eq_true rfl, Nat.le_of_ble_eq_true rfl⟩ (by simp [Value.category]) ⟨Nat.zero_le _, Nat.zero_le _⟩ rfl dX7_putsOut_112 ?_
    obtain ⟨g115, hf⟩ := iN hf
    refine b_iald C ((kd7 C.cl hk0).1) g115 dX7_putsOut_115 ?_
    refine b_bipush (v := 7) C dX7_putsOut_116 (by decide) ?_
    refine b_icmp_ge (tgt := 125) C dX7_putsOut_118 (by decide) (fun c118 => ?_) (fun c118 => ?_)
    · have hf := iT c118 hf
      refine b_iconst (v := 0) C dX7_putsOut_125 (by decide) ?_
      refine b_pm [1] (lv' := [(0, .ref (G.2.2 i0))]) rfl ?_
      exact wX7_putsOut_b126 C  hk0 hf
    · have hf := iF c118 hf
      refine b_iconst (v := 1) C dX7_putsOut_121 (by decide) ?_
      refine b_goto (tgt := 126) C dX7_putsOut_122 (by decide) ?_
      refine b_pm [1] (lv' := [(0, .ref (G.2.2 i0))]) rfl ?_
      exact wX7_putsOut_b126 C  hk0 hf
end
theorem metX7_putsOut (l : Launch) (G : gT) (i0 : Nat) (v1 : Int32) (v2 : Int32) (x : xS) (r : xS) (hk0 : KD G i0 7) (hf : fX7_putsOut i0 v1 v2 x = some r) : cV l yX7_putsOut cX7_putsOut 4 rX7_putsOut [.ref (G.2.2 i0), .int v1, .int v2] G x r :=
  b_body (by decide) (Nat.le_of_ble_eq_true rfl) rfl (fun p e s m args below meth c C => wX7_putsOut_b0 C hk0 hf)
-- X7_asks
abbrev rX7_asks : Room := { frames := 4, cells := 0, slots := 0, locals := 93 }
def fX7_asks_b285 (i0 : Nat) (v7 : Int32) (s1 : Int32) (s2 : Int32) (s3 : Int32) (x : xS) : Option (Int32 × xS) :=
  (if s1 < 0 ∨ ln (i0 + 1) ≤ s1.toNatClampNeg then none else
  lt1 (up1 x (i0 + 1) s1.toNatClampNeg (s2 + s3)) (fun x286 =>
  (if (110 : Int32) < 0 ∨ ln (i0 + 1) ≤ (110 : Int32).toNatClampNeg then none else
  (if (110 : Int32) < 0 ∨ ln (i0 + 1) ≤ (110 : Int32).toNatClampNeg then none else
  lt1 (up1 x286 (i0 + 1) (110 : Int32).toNatClampNeg ((x286.1 (i0 + 1) (110 : Int32).toNatClampNeg) + 1)) (fun x297 =>
  some ((10 + v7), x297))))))
def fX7_asks_b265 (i0 : Nat) (v6 : Int32) (v7 : Int32) (s1 : Int32) (s2 : Int32) (s3 : Int32) (x : xS) : Option (Int32 × xS) :=
  (if s1 < 0 ∨ ln (i0 + 1) ≤ s1.toNatClampNeg then none else
  lt1 (up1 x (i0 + 1) s1.toNatClampNeg (s2 - s3)) (fun x266 =>
  (if (117 : Int32) < 0 ∨ ln (i0 + 1) ≤ (117 : Int32).toNatClampNeg then none else
  (if v6 = 0 then
  fX7_asks_b285 i0 v7 117 (x266.1 (i0 + 1) (117 : Int32).toNatClampNeg) 0 x266
  else
  fX7_asks_b285 i0 v7 117 (x266.1 (i0 + 1) (117 : Int32).toNatClampNeg) 1 x266))))
def fX7_asks_b242 (i0 : Nat) (v1 : Int32) (v6 : Int32) (v7 : Int32) (s1 : Int32) (s2 : Int32) (s3 : Int32) (x : xS) : Option (Int32 × xS) :=
  (if s1 < 0 ∨ ln (i0 + 1) ≤ s1.toNatClampNeg then none else
  lt1 (up1 x (i0 + 1) s1.toNatClampNeg (s2 + s3)) (fun x243 =>
  Option.bind (fX7_of v1 2 x243) (fun r250 =>
  (if r250 < 0 ∨ ln (i0 + 1) ≤ r250.toNatClampNeg then none else
  (if v6 = 0 then
  fX7_asks_b265 i0 v6 v7 r250 (x243.1 (i0 + 1) r250.toNatClampNeg) 0 x243
  else
  fX7_asks_b265 i0 v6 v7 r250 (x243.1 (i0 + 1) r250.toNatClampNeg) 1 x243)))))
def fX7_asks_b183 (i0 : Nat) (v1 : Int32) (v2 : Int32) (v3 : Int32) : Nat → Int32 → Int32 → Int32 → Int32 → xS → Option (Int32 × xS)
  | 0, _, _, _, _, _ => none
  | n + 1, v5, v6, v7, v8, x => (if (v2 + v3) ≤ v8 then
  Option.bind (fX7_of v1 1 x) (fun r216 =>
  (if r216 < 0 ∨ ln (i0 + 1) ≤ r216.toNatClampNeg then none else
  lt1 (up1 x (i0 + 1) r216.toNatClampNeg 0) (fun x220 =>
  Option.bind (fX7_of v1 5 x220) (fun r227 =>
  (if r227 < 0 ∨ ln (i0 + 1) ≤ r227.toNatClampNeg then none else
  (if v5 = 0 then
  fX7_asks_b242 i0 v1 v6 v7 r227 (x220.1 (i0 + 1) r227.toNatClampNeg) 0 x220
  else
  fX7_asks_b242 i0 v1 v6 v7 r227 (x220.1 (i0 + 1) r227.toNatClampNeg) 1 x220))))))
  else
  Option.bind (fX7_ofBed v7 v8 x) (fun r199 =>
  (if r199 < 0 ∨ ln (i0 + 1) ≤ r199.toNatClampNeg then none else
  lt1 (up1 x (i0 + 1) r199.toNatClampNeg v1) (fun x203 =>
  fX7_asks_b183 i0 v1 v2 v3 n v5 v6 v7 (v8 + 1) x203))))
def fX7_asks_b174 (k142 : Int32 → Int32 → Int32 → Int32 → xS → Option (Int32 × xS)) (i0 : Nat) (v1 : Int32) (v2 : Int32) (v3 : Int32) (v5 : Int32) (v6 : Int32) (v7 : Int32) (v8 : Int32) (x : xS) : Option (Int32 × xS) :=
  k142 v5 v6 v7 (v8 + 1) x
def fX7_asks_b142 (i0 : Nat) (v1 : Int32) (v2 : Int32) (v3 : Int32) : Nat → Int32 → Int32 → Int32 → Int32 → xS → Option (Int32 × xS)
  | 0, _, _, _, _, _ => none
  | n + 1, v5, v6, v7, v8, x => (if (v2 + v3) ≤ v8 then
  fX7_asks_b183 i0 v1 v2 v3 FU v5 v6 v7 v2 x
  else
  Option.bind (fX7_ofBed v7 v8 x) (fun r158 =>
  (if r158 < 0 ∨ ln (i0 + 1) ≤ r158.toNatClampNeg then none else
  (if (x.1 (i0 + 1) r158.toNatClampNeg) = (-1) then
  fX7_asks_b174 (fX7_asks_b142 i0 v1 v2 v3 n) i0 v1 v2 v3 v5 v6 v7 v8 x
  else
  Option.bind (fX7_putsOut i0 v7 v8 x) (fun r171 =>
  fX7_asks_b174 (fX7_asks_b142 i0 v1 v2 v3 n) i0 v1 v2 v3 v5 v6 v7 v8 r171)))))
def fX7_asks_b129 (i0 : Nat) (v1 : Int32) (v2 : Int32) (v3 : Int32) (v5 : Int32) (s0 : Int32) (x : xS) : Option (Int32 × xS) :=
  Option.bind (fX7_emptiest i0 v2 v3 x) (fun r134 =>
  fX7_asks_b142 i0 v1 v2 v3 FU v5 s0 r134 v2 x)
def fX7_asks_b128 (i0 : Nat) (v1 : Int32) (v2 : Int32) (v3 : Int32) (v5 : Int32) (x : xS) : Option (Int32 × xS) :=
  fX7_asks_b129 i0 v1 v2 v3 v5 0 x
def fX7_asks_b97 (i0 : Nat) (v1 : Int32) (v2 : Int32) (v3 : Int32) (s0 : Int32) (x : xS) : Option (Int32 × xS) :=
  (if s0 = 0 then
  Option.bind (fX7_of v1 0 x) (fun r110 =>
  (if r110 < 0 ∨ ln (i0 + 1) ≤ r110.toNatClampNeg then none else
  (if (119 : Int32) < 0 ∨ ln (i0 + 1) ≤ (119 : Int32).toNatClampNeg then none else
  (if (x.1 (i0 + 1) (119 : Int32).toNatClampNeg) ≤ (x.1 (i0 + 1) r110.toNatClampNeg) then
  fX7_asks_b128 i0 v1 v2 v3 s0 x
  else
  fX7_asks_b129 i0 v1 v2 v3 s0 1 x))))
  else
  fX7_asks_b128 i0 v1 v2 v3 s0 x)
def fX7_asks_b72 (i0 : Nat) (v4 : Int32) (s1 : Int32) (s2 : Int32) (s3 : Int32) (x : xS) : Option (Int32 × xS) :=
  (if s1 < 0 ∨ ln (i0 + 1) ≤ s1.toNatClampNeg then none else
  lt1 (up1 x (i0 + 1) s1.toNatClampNeg (s2 + s3)) (fun x73 =>
  some (v4, x73)))
def fX7_asks_b71 (i0 : Nat) (v4 : Int32) (s1 : Int32) (s2 : Int32) (x : xS) : Option (Int32 × xS) :=
  fX7_asks_b72 i0 v4 s1 s2 0 x
def fX7_asks_b0 (i0 : Nat) (v1 : Int32) (v2 : Int32) (v3 : Int32) (x : xS) : Option (Int32 × xS) :=
  Option.bind (fX7_hindrance i0 v1 v2 v3 x) (fun r4 =>
  lt1 (up1 x i0 9 0) (fun x11 =>
  (if r4 ≤ 0 then
  Option.bind (fX7_of v1 1 x11) (fun r83 =>
  (if r83 < 0 ∨ ln (i0 + 1) ≤ r83.toNatClampNeg then none else
  (if (x11.1 (i0 + 1) r83.toNatClampNeg) = 7 then
  fX7_asks_b97 i0 v1 v2 v3 1 x11
  else
  fX7_asks_b97 i0 v1 v2 v3 0 x11)))
  else
  (if ((111 + r4) - 1) < 0 ∨ ln (i0 + 1) ≤ ((111 + r4) - 1).toNatClampNeg then none else
  (if ((111 + r4) - 1) < 0 ∨ ln (i0 + 1) ≤ ((111 + r4) - 1).toNatClampNeg then none else
  lt1 (up1 x11 (i0 + 1) ((111 + r4) - 1).toNatClampNeg ((x11.1 (i0 + 1) ((111 + r4) - 1).toNatClampNeg) + 1)) (fun x34 =>
  Option.bind (fX7_of v1 1 x34) (fun r41 =>
  (if r41 < 0 ∨ ln (i0 + 1) ≤ r41.toNatClampNeg then none else
  (if r4 ≤ 2 then
  fX7_asks_b71 i0 r4 r41 (x34.1 (i0 + 1) r41.toNatClampNeg) x34
  else
  Option.bind (fX7_of v1 1 x34) (fun r58 =>
  (if r58 < 0 ∨ ln (i0 + 1) ≤ r58.toNatClampNeg then none else
  (if (7 : Int32) ≤ (x34.1 (i0 + 1) r58.toNatClampNeg) then
  fX7_asks_b71 i0 r4 r41 (x34.1 (i0 + 1) r41.toNatClampNeg) x34
  else
  fX7_asks_b72 i0 r4 r41 (x34.1 (i0 + 1) r41.toNatClampNeg) 1 x34))))))))))))
def fX7_asks (i0 : Nat) (v1 : Int32) (v2 : Int32) (v3 : Int32) (x : xS) : Option (Int32 × xS) := fX7_asks_b0 i0 v1 v2 v3 x
section
variable {p : Program} {l : Launch} {e : Env} {R : Room} {s : State} {m : MethodId} {args : Array Value} {below : List Frame} {meth : Method} {c : Code} {G : gT}
set_option maxHeartbeats 4000000 in
set_option maxRecDepth 100000 in
theorem wX7_asks_b285 (C : CT p s m args meth c cX7_asks 9 RX7 (some (.int)) G (pA G s.heap.size)) {i0 : Nat} {v7 : Int32} {s1 : Int32} {s2 : Int32} {s3 : Int32} {x : xS} {r : (Int32 × xS)} (hk0 : KD G i0 7) (hf : fX7_asks_b285 i0 v7 s1 s2 s3 x = some r) : WB p l e rX7_asks s m args below meth c 9 G (pA G s.heap.size) (qI below G r args s 0 0) 0 0 285 [(0, .ref (G.2.2 i0)), (7, .int v7)] [.int s3, .int s2, .int s1, .ref (G.2.2 (i0 + 1))] x := by
  unfold fX7_asks_b285 at hf
  refine b_iadd C dX7_asks_285 ?_
  obtain ⟨g286, hf⟩ := iN hf
  obtain ⟨x286, e286, hf⟩ := lN1 hf
  refine b_iast C ((kd7 C.cl hk0).1) g286 dX7_asks_286 ?_
  rw [e286]
  refine b_aload_n C dX7_asks_287 rfl 0 rfl ?_
  refine gfX7_7 C hk0 dX7_asks_288 ?_
  refine b_bipush (v := 110) C dX7_asks_291 (by decide) ?_
  refine b_dup2 C dX7_asks_293 rfl rfl ?_
  obtain ⟨g294, hf⟩ := iN hf
  refine b_iald C ((kd7 C.cl hk0).1) g294 dX7_asks_294 ?_
  refine b_iconst (v := 1) C dX7_asks_295 (by decide) ?_
  refine b_iadd C dX7_asks_296 ?_
  obtain ⟨g297, hf⟩ := iN hf
  obtain ⟨x297, e297, hf⟩ := lN1 hf
  refine b_iast C ((kd7 C.cl hk0).1) g297 dX7_asks_297 ?_
  rw [e297]
  refine b_bipush (v := 10) C dX7_asks_298 (by decide) ?_
  refine b_iload C dX7_asks_300 1 rfl ?_
  refine b_iadd C dX7_asks_302 ?_
  exact b_ireti C dX7_asks_303 hf
set_option maxHeartbeats 4000000 in
set_option maxRecDepth 100000 in
theorem wX7_asks_b265 (C : CT p s m args meth c cX7_asks 9 RX7 (some (.int)) G (pA G s.heap.size)) {i0 : Nat} {v6 : Int32} {v7 : Int32} {s1 : Int32} {s2 : Int32} {s3 : Int32} {x : xS} {r : (Int32 × xS)} (hk0 : KD G i0 7) (hf : fX7_asks_b265 i0 v6 v7 s1 s2 s3 x = some r) : WB p l e rX7_asks s m args below meth c 9 G (pA G s.heap.size) (qI below G r args s 0 0) 0 0 265 [(0, .ref (G.2.2 i0)), (6, .int v6), (7, .int v7)] [.int s3, .int s2, .int s1, .ref (G.2.2 (i0 + 1))] x := by
  unfold fX7_asks_b265 at hf
  refine b_isub C dX7_asks_265 ?_
  obtain ⟨g266, hf⟩ := iN hf
  obtain ⟨x266, e266, hf⟩ := lN1 hf
  refine b_iast C ((kd7 C.cl hk0).1) g266 dX7_asks_266 ?_
  rw [e266]
  refine b_aload_n C dX7_asks_267 rfl 0 rfl ?_
  refine gfX7_7 C hk0 dX7_asks_268 ?_
  refine b_bipush (v := 117) C dX7_asks_271 (by decide) ?_
  refine b_dup2 C dX7_asks_273 rfl rfl ?_
  obtain ⟨g274, hf⟩ := iN hf
  refine b_iald C ((kd7 C.cl hk0).1) g274 dX7_asks_274 ?_
  refine b_iload C dX7_asks_275 1 rfl ?_
  refine b_if_eq (tgt := 284) C dX7_asks_277 (by decide) (fun c277 => ?_) (fun c277 => ?_)
  · have hf := iT c277 hf
    refine b_iconst (v := 0) C dX7_asks_284 (by decide) ?_
    refine b_pm [0, 2] (lv' := [(0, .ref (G.2.2 i0)), (7, .int v7)]) rfl ?_
    exact wX7_asks_b285 C  hk0 hf
  · have hf := iF c277 hf
    refine b_iconst (v := 1) C dX7_asks_280 (by decide) ?_
    refine b_goto (tgt := 285) C dX7_asks_281 (by decide) ?_
    refine b_pm [0, 2] (lv' := [(0, .ref (G.2.2 i0)), (7, .int v7)]) rfl ?_
    exact wX7_asks_b285 C  hk0 hf
set_option maxHeartbeats 4000000 in
set_option maxRecDepth 100000 in
theorem wX7_asks_b242 (C : CT p s m args meth c cX7_asks 9 RX7 (some (.int)) G (pA G s.heap.size)) {i0 : Nat} {v1 : Int32} {v6 : Int32} {v7 : Int32} {s1 : Int32} {s2 : Int32} {s3 : Int32} {x : xS} {r : (Int32 × xS)} (hk0 : KD G i0 7) (hf : fX7_asks_b242 i0 v1 v6 v7 s1 s2 s3 x = some r) : WB p l e rX7_asks s m args below meth c 9 G (pA G s.heap.size) (qI below G r args s 0 0) 0 0 242 [(0, .ref (G.2.2 i0)), (1, .int v1), (6, .int v6), (7, .int v7)] [.int s3, .int s2, .int s1, .ref (G.2.2 (i0 + 1))] x := by
  unfold fX7_asks_b242 at hf
  refine b_iadd C dX7_asks_242 ?_
  obtain ⟨g243, hf⟩ := iN hf
  obtain ⟨x243, e243, hf⟩ := lN1 hf
  refine b_iast C ((kd7 C.cl hk0).1) g243 dX7_asks_243 ?_
  rw [e243]
  refine b_aload_n C dX7_asks_244 rfl 0 rfl ?_
  refine gfX7_7 C hk0 dX7_asks_245 ?_
  refine b_iload_n C dX7_asks_248 rfl 1 rfl ?_
  refine b_iconst (v := 2) C dX7_asks_249 (by decide) ?_
  obtain ⟨r250, c250, hf⟩ := oB hf
  refine b_callSi (As := [.int v1, .int 2]) (res := (r250, x243)) C (metX7_of l G _ _ _ _  c250) gkX7_25 ekX7_25 rfl ⟨rfl, rfl⟩ ⟨Nat.le_of_ble_eq_true rfl, Nat.le_of_ble_eq_true rfl⟩ (by simp [Value.category]) ⟨Nat.zero_le _, Nat.zero_le _⟩ rfl dX7_asks_250 ?_
  refine b_dup2 C dX7_asks_253 rfl rfl ?_
  obtain ⟨g254, hf⟩ := iN hf
  refine b_iald C ((kd7 C.cl hk0).1) g254 dX7_asks_254 ?_
  refine b_iload C dX7_asks_255 2 rfl ?_
  refine b_if_eq (tgt := 264) C dX7_asks_257 (by decide) (fun c257 => ?_) (fun c257 => ?_)
  · have hf := iT c257 hf
    refine b_iconst (v := 0) C dX7_asks_264 (by decide) ?_
    refine b_pm [0, 2, 3] (lv' := [(0, .ref (G.2.2 i0)), (6, .int v6), (7, .int v7)]) rfl ?_
    exact wX7_asks_b265 C  hk0 hf
  · have hf := iF c257 hf
    refine b_iconst (v := 1) C dX7_asks_260 (by decide) ?_
    refine b_goto (tgt := 265) C dX7_asks_261 (by decide) ?_
    refine b_pm [0, 2, 3] (lv' := [(0, .ref (G.2.2 i0)), (6, .int v6), (7, .int v7)]) rfl ?_
    exact wX7_asks_b265 C  hk0 hf
set_option maxHeartbeats 4000000 in
set_option maxRecDepth 100000 in
theorem wX7_asks_b183 (C : CT p s m args meth c cX7_asks 9 RX7 (some (.int)) G (pA G s.heap.size)) {i0 : Nat} {v1 : Int32} {v2 : Int32} {v3 : Int32} {r : (Int32 × xS)} (hk0 : KD G i0 7) : ∀ (n : Nat) (v5 : Int32) (v6 : Int32) (v7 : Int32) (v8 : Int32) (x : xS), fX7_asks_b183 i0 v1 v2 v3 n v5 v6 v7 v8 x = some r → WB p l e rX7_asks s m args below meth c 9 G (pA G s.heap.size) (qI below G r args s 0 0) 0 0 183 [(0, .ref (G.2.2 i0)), (1, .int v1), (2, .int v2), (3, .int v3), (5, .int v5), (6, .int v6), (7, .int v7), (8, .int v8)] [] x := by
  intro n
  induction n with
  | zero =>
    intro v5 v6 v7 v8 x hf
    cases hf
  | succ n ih =>
    intro v5 v6 v7 v8 x hf
    rw [fX7_asks_b183] at hf
    refine b_iload C dX7_asks_183 7 rfl ?_
    refine b_iload_n C dX7_asks_185 rfl 2 rfl ?_
    refine b_iload_n C dX7_asks_186 rfl 3 rfl ?_
    refine b_iadd C dX7_asks_187 ?_
    refine b_icmp_ge (tgt := 210) C dX7_asks_188 (by decide) (fun c188 => ?_) (fun c188 => ?_)
    · have hf := iT c188 hf
      refine b_aload_n C dX7_asks_210 rfl 0 rfl ?_
      refine gfX7_7 C hk0 dX7_asks_211 ?_
      refine b_iload_n C dX7_asks_214 rfl 1 rfl ?_
      refine b_iconst (v := 1) C dX7_asks_215 (by decide) ?_
      obtain ⟨r216, c216, hf⟩ := oB hf
      refine b_callSi (As := [.int v1, .int 1]) (res := (r216, x)) C (metX7_of l G _ _ _ _  c216) gkX7_25 ekX7_25 rfl ⟨rfl, rfl⟩ ⟨Nat.le_of_ble_eq_true rfl, Nat.le_of_ble_eq_true rfl⟩ (by simp [Value.category]) ⟨Nat.zero_le _, Nat.zero_le _⟩ rfl dX7_asks_216 ?_
      refine b_iconst (v := 0) C dX7_asks_219 (by decide) ?_
      obtain ⟨g220, hf⟩ := iN hf
      obtain ⟨x220, e220, hf⟩ := lN1 hf
      refine b_iast C ((kd7 C.cl hk0).1) g220 dX7_asks_220 ?_
      rw [e220]
      refine b_aload_n C dX7_asks_221 rfl 0 rfl ?_
      refine gfX7_7 C hk0 dX7_asks_222 ?_
      refine b_iload_n C dX7_asks_225 rfl 1 rfl ?_
      refine b_iconst (v := 5) C dX7_asks_226 (by decide) ?_
      obtain ⟨r227, c227, hf⟩ := oB hf
      refine b_callSi (As := [.int v1, .int 5]) (res := (r227, x220)) C (metX7_of l G _ _ _ _  c227) gkX7_25 ekX7_25 rfl ⟨rfl, rfl⟩ ⟨Nat.le_of_ble_eq_true rfl, Nat.le_of_ble_eq_true rfl⟩ (by simp [Value.category]) ⟨Nat.zero_le _, Nat.zero_le _⟩ rfl dX7_asks_227 ?_
      refine b_dup2 C dX7_asks_230 rfl rfl ?_
      obtain ⟨g231, hf⟩ := iN hf
      refine b_iald C ((kd7 C.cl hk0).1) g231 dX7_asks_231 ?_
      refine b_iload C dX7_asks_232 4 rfl ?_
      refine b_if_eq (tgt := 241) C dX7_asks_234 (by decide) (fun c234 => ?_) (fun c234 => ?_)
      · have hf := iT c234 hf
        refine b_iconst (v := 0) C dX7_asks_241 (by decide) ?_
        refine b_pm [0, 1, 5, 6] (lv' := [(0, .ref (G.2.2 i0)), (1, .int v1), (6, .int v6), (7, .int v7)]) rfl ?_
        exact wX7_asks_b242 C  hk0 hf
      · have hf := iF c234 hf
        refine b_iconst (v := 1) C dX7_asks_237 (by decide) ?_
        refine b_goto (tgt := 242) C dX7_asks_238 (by decide) ?_
        refine b_pm [0, 1, 5, 6] (lv' := [(0, .ref (G.2.2 i0)), (1, .int v1), (6, .int v6), (7, .int v7)]) rfl ?_
        exact wX7_asks_b242 C  hk0 hf
    · have hf := iF c188 hf
      refine b_aload_n C dX7_asks_191 rfl 0 rfl ?_
      refine gfX7_7 C hk0 dX7_asks_192 ?_
      refine b_iload C dX7_asks_195 6 rfl ?_
      refine b_iload C dX7_asks_197 7 rfl ?_
      obtain ⟨r199, c199, hf⟩ := oB hf
      refine b_callSi (As := [.int v7, .int v8]) (res := (r199, x)) C (metX7_ofBed l G _ _ _ _  c199) gkX7_40 ekX7_40 rfl ⟨rfl, rfl⟩ ⟨Nat.le_of_ble_eq_true rfl, Nat.le_of_ble_eq_true rfl⟩ (by simp [Value.category]) ⟨Nat.zero_le _, Nat.zero_le _⟩ rfl dX7_asks_199 ?_
      refine b_iload_n C dX7_asks_202 rfl 1 rfl ?_
      obtain ⟨g203, hf⟩ := iN hf
      obtain ⟨x203, e203, hf⟩ := lN1 hf
      refine b_iast C ((kd7 C.cl hk0).1) g203 dX7_asks_203 ?_
      rw [e203]
      refine b_iinc (q := 7) (v' := (v8 + 1)) (lv' := [(8, .int (v8 + 1)), (0, .ref (G.2.2 i0)), (1, .int v1), (2, .int v2), (3, .int v3), (5, .int v5), (6, .int v6), (7, .int v7)]) C dX7_asks_204 rfl rfl (by decide) rfl ?_
      refine b_goto (tgt := 183) C dX7_asks_207 (by decide) ?_
      refine b_pm [1, 2, 3, 4, 5, 6, 7, 0] (lv' := [(0, .ref (G.2.2 i0)), (1, .int v1), (2, .int v2), (3, .int v3), (5, .int v5), (6, .int v6), (7, .int v7), (8, .int (v8 + 1))]) rfl ?_
      exact ih _ _ _ _ _ hf
set_option maxHeartbeats 4000000 in
set_option maxRecDepth 100000 in
theorem wX7_asks_b174 (C : CT p s m args meth c cX7_asks 9 RX7 (some (.int)) G (pA G s.heap.size)) {k142 : Int32 → Int32 → Int32 → Int32 → xS → Option (Int32 × xS)} {i0 : Nat} {v1 : Int32} {v2 : Int32} {v3 : Int32} {v5 : Int32} {v6 : Int32} {v7 : Int32} {v8 : Int32} {x : xS} {r : (Int32 × xS)} (h142 : ∀ (v5 : Int32) (v6 : Int32) (v7 : Int32) (v8 : Int32) (x : xS), k142 v5 v6 v7 v8 x = some r → WB p l e rX7_asks s m args below meth c 9 G (pA G s.heap.size) (qI below G r args s 0 0) 0 0 142 [(0, .ref (G.2.2 i0)), (1, .int v1), (2, .int v2), (3, .int v3), (5, .int v5), (6, .int v6), (7, .int v7), (8, .int v8)] [] x) (hk0 : KD G i0 7) (hf : fX7_asks_b174 k142 i0 v1 v2 v3 v5 v6 v7 v8 x = some r) : WB p l e rX7_asks s m args below meth c 9 G (pA G s.heap.size) (qI below G r args s 0 0) 0 0 174 [(0, .ref (G.2.2 i0)), (1, .int v1), (2, .int v2), (3, .int v3), (5, .int v5), (6, .int v6), (7, .int v7), (8, .int v8)] [] x := by
  unfold fX7_asks_b174 at hf
  refine b_iinc (q := 7) (v' := (v8 + 1)) (lv' := [(8, .int (v8 + 1)), (0, .ref (G.2.2 i0)), (1, .int v1), (2, .int v2), (3, .int v3), (5, .int v5), (6, .int v6), (7, .int v7)]) C dX7_asks_174 rfl rfl (by decide) rfl ?_
  refine b_goto (tgt := 142) C dX7_asks_177 (by decide) ?_
  refine b_pm [1, 2, 3, 4, 5, 6, 7, 0] (lv' := [(0, .ref (G.2.2 i0)), (1, .int v1), (2, .int v2), (3, .int v3), (5, .int v5), (6, .int v6), (7, .int v7), (8, .int (v8 + 1))]) rfl ?_
  exact h142 _ _ _ _ _ hf
set_option maxHeartbeats 4000000 in
set_option maxRecDepth 100000 in
theorem wX7_asks_b142 (C : CT p s m args meth c cX7_asks 9 RX7 (some (.int)) G (pA G s.heap.size)) {i0 : Nat} {v1 : Int32} {v2 : Int32} {v3 : Int32} {r : (Int32 × xS)} (hk0 : KD G i0 7) : ∀ (n : Nat) (v5 : Int32) (v6 : Int32) (v7 : Int32) (v8 : Int32) (x : xS), fX7_asks_b142 i0 v1 v2 v3 n v5 v6 v7 v8 x = some r → WB p l e rX7_asks s m args below meth c 9 G (pA G s.heap.size) (qI below G r args s 0 0) 0 0 142 [(0, .ref (G.2.2 i0)), (1, .int v1), (2, .int v2), (3, .int v3), (5, .int v5), (6, .int v6), (7, .int v7), (8, .int v8)] [] x := by
  intro n
  induction n with
  | zero =>
    intro v5 v6 v7 v8 x hf
    cases hf
  | succ n ih =>
    intro v5 v6 v7 v8 x hf
    rw [fX7_asks_b142] at hf
    refine b_iload C dX7_asks_142 7 rfl ?_
    refine b_iload_n C dX7_asks_144 rfl 2 rfl ?_
    refine b_iload_n C dX7_asks_145 rfl 3 rfl ?_
    refine b_iadd C dX7_asks_146 ?_
    refine b_icmp_ge (tgt := 180) C dX7_asks_147 (by decide) (fun c147 => ?_) (fun c147 => ?_)
    · have hf := iT c147 hf
      refine b_iload_n C dX7_asks_180 rfl 2 rfl ?_
      refine b_istore (lv' := [(8, .int v2), (0, .ref (G.2.2 i0)), (1, .int v1), (2, .int v2), (3, .int v3), (5, .int v5), (6, .int v6), (7, .int v7)]) C dX7_asks_181 (by decide) rfl ?_
      refine b_pm [1, 2, 3, 4, 5, 6, 7, 0] (lv' := [(0, .ref (G.2.2 i0)), (1, .int v1), (2, .int v2), (3, .int v3), (5, .int v5), (6, .int v6), (7, .int v7), (8, .int v2)]) rfl ?_
      exact wX7_asks_b183 C  hk0 FU _ _ _ _ _ hf
    · have hf := iF c147 hf
      refine b_aload_n C dX7_asks_150 rfl 0 rfl ?_
      refine gfX7_7 C hk0 dX7_asks_151 ?_
      refine b_iload C dX7_asks_154 6 rfl ?_
      refine b_iload C dX7_asks_156 7 rfl ?_
      obtain ⟨r158, c158, hf⟩ := oB hf
      refine b_callSi (As := [.int v7, .int v8]) (res := (r158, x)) C (metX7_ofBed l G _ _ _ _  c158) gkX7_40 ekX7_40 rfl ⟨rfl, rfl⟩ ⟨Nat.le_of_ble_eq_true rfl, Nat.le_of_ble_eq_true rfl⟩ (by simp [Value.category]) ⟨Nat.zero_le _, Nat.zero_le _⟩ rfl dX7_asks_158 ?_
      obtain ⟨g161, hf⟩ := iN hf
      refine b_iald C ((kd7 C.cl hk0).1) g161 dX7_asks_161 ?_
      refine b_iconst (v := (-1)) C dX7_asks_162 (by decide) ?_
      refine b_icmp_eq (tgt := 174) C dX7_asks_163 (by decide) (fun c163 => ?_) (fun c163 => ?_)
      · have hf := iT c163 hf
        exact wX7_asks_b174 C ih hk0 hf
      · have hf := iF c163 hf
        refine b_aload_n C dX7_asks_166 rfl 0 rfl ?_
        refine b_iload C dX7_asks_167 6 rfl ?_
        refine b_iload C dX7_asks_169 7 rfl ?_
        obtain ⟨r171, c171, hf⟩ := oB hf
        refine b_callVv (K := 7) (As := [.int v7, .int v8]) (res := r171) C (metX7_putsOut l G _ _ _ _ _ hk0 c171) hk0 (by decide) rfl gkX7_66 ekX7_66 rfl ⟨rfl, rfl⟩ ⟨Nat.le_of_ble_eq_true rfl, Nat.le_of_ble_eq_true rfl⟩ (by simp [Value.category]) ⟨Nat.zero_le _, Nat.zero_le _⟩ rfl dX7_asks_171 ?_
        exact wX7_asks_b174 C ih hk0 hf
set_option maxHeartbeats 4000000 in
set_option maxRecDepth 100000 in
theorem wX7_asks_b129 (C : CT p s m args meth c cX7_asks 9 RX7 (some (.int)) G (pA G s.heap.size)) {i0 : Nat} {v1 : Int32} {v2 : Int32} {v3 : Int32} {v5 : Int32} {s0 : Int32} {x : xS} {r : (Int32 × xS)} (hk0 : KD G i0 7) (hf : fX7_asks_b129 i0 v1 v2 v3 v5 s0 x = some r) : WB p l e rX7_asks s m args below meth c 9 G (pA G s.heap.size) (qI below G r args s 0 0) 0 0 129 [(0, .ref (G.2.2 i0)), (1, .int v1), (2, .int v2), (3, .int v3), (5, .int v5)] [.int s0] x := by
  unfold fX7_asks_b129 at hf
  refine b_istore (lv' := [(6, .int s0), (0, .ref (G.2.2 i0)), (1, .int v1), (2, .int v2), (3, .int v3), (5, .int v5)]) C dX7_asks_129 (by decide) rfl ?_
  refine b_aload_n C dX7_asks_131 rfl 1 rfl ?_
  refine b_iload_n C dX7_asks_132 rfl 3 rfl ?_
  refine b_iload_n C dX7_asks_133 rfl 4 rfl ?_
  obtain ⟨r134, c134, hf⟩ := oB hf
  refine b_callVi (K := 7) (As := [.int v2, .int v3]) (res := (r134, x)) C (metX7_emptiest l G _ _ _ _ _ hk0 c134) hk0 (by decide) rfl gkX7_53 ekX7_53 rfl ⟨rfl, rfl⟩ ⟨Nat.le_of_ble_eq_true rfl, Nat.le_of_ble_eq_true rfl⟩ (by simp [Value.category]) ⟨Nat.zero_le _, Nat.zero_le _⟩ rfl dX7_asks_134 ?_
  refine b_istore (lv' := [(7, .int r134), (6, .int s0), (0, .ref (G.2.2 i0)), (1, .int v1), (2, .int v2), (3, .int v3), (5, .int v5)]) C dX7_asks_137 (by decide) rfl ?_
  refine b_iload_n C dX7_asks_139 rfl 4 rfl ?_
  refine b_istore (lv' := [(8, .int v2), (7, .int r134), (6, .int s0), (0, .ref (G.2.2 i0)), (1, .int v1), (2, .int v2), (3, .int v3), (5, .int v5)]) C dX7_asks_140 (by decide) rfl ?_
  refine b_pm [3, 4, 5, 6, 7, 2, 1, 0] (lv' := [(0, .ref (G.2.2 i0)), (1, .int v1), (2, .int v2), (3, .int v3), (5, .int v5), (6, .int s0), (7, .int r134), (8, .int v2)]) rfl ?_
  exact wX7_asks_b142 C  hk0 FU _ _ _ _ _ hf
set_option maxHeartbeats 4000000 in
set_option maxRecDepth 100000 in
theorem wX7_asks_b128 (C : CT p s m args meth c cX7_asks 9 RX7 (some (.int)) G (pA G s.heap.size)) {i0 : Nat} {v1 : Int32} {v2 : Int32} {v3 : Int32} {v5 : Int32} {x : xS} {r : (Int32 × xS)} (hk0 : KD G i0 7) (hf : fX7_asks_b128 i0 v1 v2 v3 v5 x = some r) : WB p l e rX7_asks s m args below meth c 9 G (pA G s.heap.size) (qI below G r args s 0 0) 0 0 128 [(0, .ref (G.2.2 i0)), (1, .int v1), (2, .int v2), (3, .int v3), (5, .int v5)] [] x := by
  unfold fX7_asks_b128 at hf
  refine b_iconst (v := 0) C dX7_asks_128 (by decide) ?_
  exact wX7_asks_b129 C  hk0 hf
set_option maxHeartbeats 4000000 in
set_option maxRecDepth 100000 in
theorem wX7_asks_b97 (C : CT p s m args meth c cX7_asks 9 RX7 (some (.int)) G (pA G s.heap.size)) {i0 : Nat} {v1 : Int32} {v2 : Int32} {v3 : Int32} {s0 : Int32} {x : xS} {r : (Int32 × xS)} (hk0 : KD G i0 7) (hf : fX7_asks_b97 i0 v1 v2 v3 s0 x = some r) : WB p l e rX7_asks s m args below meth c 9 G (pA G s.heap.size) (qI below G r args s 0 0) 0 0 97 [(0, .ref (G.2.2 i0)), (1, .int v1), (2, .int v2), (3, .int v3)] [.int s0] x := by
  unfold fX7_asks_b97 at hf
  refine b_istore (lv' := [(5, .int s0), (0, .ref (G.2.2 i0)), (1, .int v1), (2, .int v2), (3, .int v3)]) C dX7_asks_97 (by decide) rfl ?_
  refine b_iload C dX7_asks_99 0 rfl ?_
  refine b_if_ne (tgt := 128) C dX7_asks_101 (by decide) (fun c101 => ?_) (fun c101 => ?_)
  · have hf := iF c101 hf
    refine b_pm [1, 2, 3, 4, 0] (lv' := [(0, .ref (G.2.2 i0)), (1, .int v1), (2, .int v2), (3, .int v3), (5, .int s0)]) rfl ?_
    exact wX7_asks_b128 C  hk0 hf
  · have hf := iT c101 hf
    refine b_aload_n C dX7_asks_104 rfl 1 rfl ?_
    refine gfX7_7 C hk0 dX7_asks_105 ?_
    refine b_iload_n C dX7_asks_108 rfl 2 rfl ?_
    refine b_iconst (v := 0) C dX7_asks_109 (by decide) ?_
    obtain ⟨r110, c110, hf⟩ := oB hf
    refine b_callSi (As := [.int v1, .int 0]) (res := (r110, x)) C (metX7_of l G _ _ _ _  c110) gkX7_25 ekX7_25 rfl ⟨rfl, rfl⟩ ⟨Nat.le_of_ble_eq_true rfl, Nat.le_of_ble_eq_true rfl⟩ (by simp [Value.category]) ⟨Nat.zero_le _, Nat.zero_le _⟩ rfl dX7_asks_110 ?_
    obtain ⟨g113, hf⟩ := iN hf
    refine b_iald C ((kd7 C.cl hk0).1) g113 dX7_asks_113 ?_
    refine b_aload_n C dX7_asks_114 rfl 1 rfl ?_
    refine gfX7_7 C hk0 dX7_asks_115 ?_
    refine b_bipush (v := 119) C dX7_asks_118 (by decide) ?_
    obtain ⟨g120, hf⟩ := iN hf
    refine b_iald C ((kd7 C.cl hk0).1) g120 dX7_asks_120 ?_
    refine b_icmp_ge (tgt := 128) C dX7_asks_121 (by decide) (fun c121 => ?_) (fun c121 => ?_)
    · have hf := iT c121 hf
      refine b_pm [1, 2, 3, 4, 0] (lv' := [(0, .ref (G.2.2 i0)), (1, .int v1), (2, .int v2), (3, .int v3), (5, .int s0)]) rfl ?_
      exact wX7_asks_b128 C  hk0 hf
    · have hf := iF c121 hf
      refine b_iconst (v := 1) C dX7_asks_124 (by decide) ?_
      refine b_goto (tgt := 129) C dX7_asks_125 (by decide) ?_
      refine b_pm [1, 2, 3, 4, 0] (lv' := [(0, .ref (G.2.2 i0)), (1, .int v1), (2, .int v2), (3, .int v3), (5, .int s0)]) rfl ?_
      exact wX7_asks_b129 C  hk0 hf
set_option maxHeartbeats 4000000 in
set_option maxRecDepth 100000 in
theorem wX7_asks_b72 (C : CT p s m args meth c cX7_asks 9 RX7 (some (.int)) G (pA G s.heap.size)) {i0 : Nat} {v4 : Int32} {s1 : Int32} {s2 : Int32} {s3 : Int32} {x : xS} {r : (Int32 × xS)} (hk0 : KD G i0 7) (hf : fX7_asks_b72 i0 v4 s1 s2 s3 x = some r) : WB p l e rX7_asks s m args below meth c 9 G (pA G s.heap.size) (qI below G r args s 0 0) 0 0 72 [(0, .ref (G.2.2 i0)), (4, .int v4)] [.int s3, .int s2, .int s1, .ref (G.2.2 (i0 + 1))] x := by
  unfold fX7_asks_b72 at hf
  refine b_iadd C dX7_asks_72 ?_
  obtain ⟨g73, hf⟩ := iN hf
  obtain ⟨x73, e73, hf⟩ := lN1 hf
  refine b_iast C ((kd7 C.cl hk0).1) g73 dX7_asks_73 ?_
  rw [e73]
  refine b_iload C dX7_asks_74 1 rfl ?_
  exact b_ireti C dX7_asks_76 hf
set_option maxHeartbeats 4000000 in
set_option maxRecDepth 100000 in
theorem wX7_asks_b71 (C : CT p s m args meth c cX7_asks 9 RX7 (some (.int)) G (pA G s.heap.size)) {i0 : Nat} {v4 : Int32} {s1 : Int32} {s2 : Int32} {x : xS} {r : (Int32 × xS)} (hk0 : KD G i0 7) (hf : fX7_asks_b71 i0 v4 s1 s2 x = some r) : WB p l e rX7_asks s m args below meth c 9 G (pA G s.heap.size) (qI below G r args s 0 0) 0 0 71 [(0, .ref (G.2.2 i0)), (4, .int v4)] [.int s2, .int s1, .ref (G.2.2 (i0 + 1))] x := by
  unfold fX7_asks_b71 at hf
  refine b_iconst (v := 0) C dX7_asks_71 (by decide) ?_
  exact wX7_asks_b72 C  hk0 hf
set_option maxHeartbeats 4000000 in
set_option maxRecDepth 100000 in
theorem wX7_asks_b0 (C : CT p s m args meth c cX7_asks 9 RX7 (some (.int)) G (pA G s.heap.size)) {i0 : Nat} {v1 : Int32} {v2 : Int32} {v3 : Int32} {x : xS} {r : (Int32 × xS)} (hk0 : KD G i0 7) (hf : fX7_asks_b0 i0 v1 v2 v3 x = some r) : WB p l e rX7_asks s m args below meth c 9 G (pA G s.heap.size) (qI below G r args s 0 0) 0 0 0 [(0, .ref (G.2.2 i0)), (1, .int v1), (2, .int v2), (3, .int v3)] [] x := by
  unfold fX7_asks_b0 at hf
  refine b_aload_n C dX7_asks_0 rfl 0 rfl ?_
  refine b_iload_n C dX7_asks_1 rfl 1 rfl ?_
  refine b_iload_n C dX7_asks_2 rfl 2 rfl ?_
  refine b_iload_n C dX7_asks_3 rfl 3 rfl ?_
  obtain ⟨r4, c4, hf⟩ := oB hf
  refine b_callVi (K := 7) (As := [.int v1, .int v2, .int v3]) (res := (r4, x)) C (metX7_hindrance l G _ _ _ _ _ _ hk0 c4) hk0 (by decide) rfl gkX7_63 ekX7_63 rfl ⟨rfl, rfl⟩ ⟨Nat.le_of_ble_eq_true rfl, Nat.le_of_ble_eq_true rfl⟩ (by simp [Value.category]) ⟨Nat.zero_le _, Nat.zero_le _⟩ rfl dX7_asks_4 ?_
  refine b_istore (lv' := [(4, .int r4), (0, .ref (G.2.2 i0)), (1, .int v1), (2, .int v2), (3, .int v3)]) C dX7_asks_7 (by decide) rfl ?_
  refine b_aload_n C dX7_asks_9 rfl 1 rfl ?_
  refine b_iconst (v := 0) C dX7_asks_10 (by decide) ?_
  obtain ⟨x11, e11, hf⟩ := lN1 hf
  refine pfX7_60 C hk0 dX7_asks_11 e11 ?_
  refine b_iload C dX7_asks_14 0 rfl ?_
  refine b_if_le (tgt := 77) C dX7_asks_16 (by decide) (fun c16 => ?_) (fun c16 => ?_)
  · have hf := iT c16 hf
    refine b_aload_n C dX7_asks_77 rfl 1 rfl ?_
    refine gfX7_7 C hk0 dX7_asks_78 ?_
    refine b_iload_n C dX7_asks_81 rfl 2 rfl ?_
    refine b_iconst (v := 1) C dX7_asks_82 (by decide) ?_
    obtain ⟨r83, c83, hf⟩ := oB hf
    refine b_callSi (As := [.int v1, .int 1]) (res := (r83, x11)) C (metX7_of l G _ _ _ _  c83) gkX7_25 ekX7_25 rfl ⟨rfl, rfl⟩ ⟨Nat.le_of_ble_eq_true rfl, Nat.le_of_ble_eq_true rfl⟩ (by simp [Value.category]) ⟨Nat.zero_le _, Nat.zero_le _⟩ rfl dX7_asks_83 ?_
    obtain ⟨g86, hf⟩ := iN hf
    refine b_iald C ((kd7 C.cl hk0).1) g86 dX7_asks_86 ?_
    refine b_bipush (v := 7) C dX7_asks_87 (by decide) ?_
    refine b_icmp_ne (tgt := 96) C dX7_asks_89 (by decide) (fun c89 => ?_) (fun c89 => ?_)
    · have hf := iF c89 hf
      refine b_iconst (v := 0) C dX7_asks_96 (by decide) ?_
      refine b_pm [1, 2, 3, 4] (lv' := [(0, .ref (G.2.2 i0)), (1, .int v1), (2, .int v2), (3, .int v3)]) rfl ?_
      exact wX7_asks_b97 C  hk0 hf
    · have hf := iT c89 hf
      refine b_iconst (v := 1) C dX7_asks_92 (by decide) ?_
      refine b_goto (tgt := 97) C dX7_asks_93 (by decide) ?_
      refine b_pm [1, 2, 3, 4] (lv' := [(0, .ref (G.2.2 i0)), (1, .int v1), (2, .int v2), (3, .int v3)]) rfl ?_
      exact wX7_asks_b97 C  hk0 hf
  · have hf := iF c16 hf
    refine b_aload_n C dX7_asks_19 rfl 1 rfl ?_
    refine gfX7_7 C hk0 dX7_asks_20 ?_
    refine b_bipush (v := 111) C dX7_asks_23 (by decide) ?_
    refine b_iload C dX7_asks_25 0 rfl ?_
    refine b_iadd C dX7_asks_27 ?_
    refine b_iconst (v := 1) C dX7_asks_28 (by decide) ?_
    refine b_isub C dX7_asks_29 ?_
    refine b_dup2 C dX7_asks_30 rfl rfl ?_
    obtain ⟨g31, hf⟩ := iN hf
    refine b_iald C ((kd7 C.cl hk0).1) g31 dX7_asks_31 ?_
    refine b_iconst (v := 1) C dX7_asks_32 (by decide) ?_
    refine b_iadd C dX7_asks_33 ?_
    obtain ⟨g34, hf⟩ := iN hf
    obtain ⟨x34, e34, hf⟩ := lN1 hf
    refine b_iast C ((kd7 C.cl hk0).1) g34 dX7_asks_34 ?_
    rw [e34]
    refine b_aload_n C dX7_asks_35 rfl 1 rfl ?_
    refine gfX7_7 C hk0 dX7_asks_36 ?_
    refine b_iload_n C dX7_asks_39 rfl 2 rfl ?_
    refine b_iconst (v := 1) C dX7_asks_40 (by decide) ?_
    obtain ⟨r41, c41, hf⟩ := oB hf
    refine b_callSi (As := [.int v1, .int 1]) (res := (r41, x34)) C (metX7_of l G _ _ _ _  c41) gkX7_25 ekX7_25 rfl ⟨rfl, rfl⟩ ⟨Nat.le_of_ble_eq_true rfl, Nat.le_of_ble_eq_true rfl⟩ (by simp [Value.category]) ⟨Nat.zero_le _, Nat.zero_le _⟩ rfl dX7_asks_41 ?_
    refine b_dup2 C dX7_asks_44 rfl rfl ?_
    obtain ⟨g45, hf⟩ := iN hf
    refine b_iald C ((kd7 C.cl hk0).1) g45 dX7_asks_45 ?_
    refine b_iload C dX7_asks_46 0 rfl ?_
    refine b_iconst (v := 2) C dX7_asks_48 (by decide) ?_
    refine b_icmp_le (tgt := 71) C dX7_asks_49 (by decide) (fun c49 => ?_) (fun c49 => ?_)
    · have hf := iT c49 hf
      refine b_pm [1, 0] (lv' := [(0, .ref (G.2.2 i0)), (4, .int r4)]) rfl ?_
      exact wX7_asks_b71 C  hk0 hf
    · have hf := iF c49 hf
      refine b_aload_n C dX7_asks_52 rfl 1 rfl ?_
      refine gfX7_7 C hk0 dX7_asks_53 ?_
      refine b_iload_n C dX7_asks_56 rfl 2 rfl ?_
      refine b_iconst (v := 1) C dX7_asks_57 (by decide) ?_
      obtain ⟨r58, c58, hf⟩ := oB hf
      refine b_callSi (As := [.int v1, .int 1]) (res := (r58, x34)) C (metX7_of l G _ _ _ _  c58) gkX7_25 ekX7_25 rfl ⟨rfl, rfl⟩ ⟨Nat.le_of_ble_eq_true rfl, Nat.le_of_ble_eq_true rfl⟩ (by simp [Value.category]) ⟨Nat.zero_le _, Nat.zero_le _⟩ rfl dX7_asks_58 ?_
      obtain ⟨g61, hf⟩ := iN hf
      refine b_iald C ((kd7 C.cl hk0).1) g61 dX7_asks_61 ?_
      refine b_bipush (v := 7) C dX7_asks_62 (by decide) ?_
      refine b_icmp_ge (tgt := 71) C dX7_asks_64 (by decide) (fun c64 => ?_) (fun c64 => ?_)
      · have hf := iT c64 hf
        refine b_pm [1, 0] (lv' := [(0, .ref (G.2.2 i0)), (4, .int r4)]) rfl ?_
        exact wX7_asks_b71 C  hk0 hf
      · have hf := iF c64 hf
        refine b_iconst (v := 1) C dX7_asks_67 (by decide) ?_
        refine b_goto (tgt := 72) C dX7_asks_68 (by decide) ?_
        refine b_pm [1, 0] (lv' := [(0, .ref (G.2.2 i0)), (4, .int r4)]) rfl ?_
        exact wX7_asks_b72 C  hk0 hf
end
theorem metX7_asks (l : Launch) (G : gT) (i0 : Nat) (v1 : Int32) (v2 : Int32) (v3 : Int32) (x : xS) (r : (Int32 × xS)) (hk0 : KD G i0 7) (hf : fX7_asks i0 v1 v2 v3 x = some r) : cI l yX7_asks cX7_asks 9 (.int) rX7_asks [.ref (G.2.2 i0), .int v1, .int v2, .int v3] G x r :=
  b_body (by decide) (Nat.le_of_ble_eq_true rfl) rfl (fun p e s m args below meth c C => wX7_asks_b0 C hk0 hf)
-- X7_ask
abbrev rX7_ask : Room := { frames := 5, cells := 0, slots := 0, locals := 121 }
def fX7_ask_b25 (i0 : Nat) (v1 : Int32) (v2 : Int32) (v3 : Int32) (s1 : Int32) (x : xS) : Option (Int32 × xS) :=
  Option.bind (fX7_holds i0 s1 x) (fun r25 =>
  (if r25.1 = 0 then
  some (0, r25.2)
  else
  Option.bind (fX7_save i0 r25.2) (fun r34 =>
  Option.bind (fX7_asks i0 v1 v2 v3 r34) (fun r41 =>
  some (r41.1, r41.2)))))
def fX7_ask_b0 (i0 : Nat) (v1 : Int32) (v2 : Int32) (v3 : Int32) (x : xS) : Option (Int32 × xS) :=
  Option.bind (fX7_isLodger v1 x) (fun r2 =>
  (if r2 = 0 then
  fX7_ask_b25 i0 v1 v2 v3 1 x
  else
  Option.bind (fX7_isTime v2 v3 x) (fun r14 =>
  (if r14 = 0 then
  fX7_ask_b25 i0 v1 v2 v3 2 x
  else
  fX7_ask_b25 i0 v1 v2 v3 0 x))))
def fX7_ask (i0 : Nat) (v1 : Int32) (v2 : Int32) (v3 : Int32) (x : xS) : Option (Int32 × xS) := fX7_ask_b0 i0 v1 v2 v3 x
section
variable {p : Program} {l : Launch} {e : Env} {R : Room} {s : State} {m : MethodId} {args : Array Value} {below : List Frame} {meth : Method} {c : Code} {G : gT}
set_option maxHeartbeats 4000000 in
set_option maxRecDepth 100000 in
theorem wX7_ask_b25 (C : CT p s m args meth c cX7_ask 4 RX7 (some (.int)) G (pA G s.heap.size)) {i0 : Nat} {v1 : Int32} {v2 : Int32} {v3 : Int32} {s1 : Int32} {x : xS} {r : (Int32 × xS)} (hk0 : KD G i0 7) (hf : fX7_ask_b25 i0 v1 v2 v3 s1 x = some r) : WB p l e rX7_ask s m args below meth c 4 G (pA G s.heap.size) (qI below G r args s 0 0) 0 0 25 [(0, .ref (G.2.2 i0)), (1, .int v1), (2, .int v2), (3, .int v3)] [.int s1, .ref (G.2.2 i0)] x := by
  unfold fX7_ask_b25 at hf
  obtain ⟨r25, c25, hf⟩ := oB hf
  refine b_callVi (K := 7) (As := [.int s1]) (res := r25) C (metX7_holds l G _ _ _ _ hk0 c25) hk0 (by decide) rfl gkX7_78 ekX7_78 rfl ⟨rfl, rfl⟩ ⟨Nat.le_of_ble_eq_true rfl, Nat.le_of_ble_eq_true rfl⟩ (by simp [Value.category]) ⟨Nat.zero_le _, Nat.zero_le _⟩ rfl dX7_ask_25 ?_
  refine b_if_ne (tgt := 33) C dX7_ask_28 (by decide) (fun c28 => ?_) (fun c28 => ?_)
  · have hf := iF c28 hf
    refine b_aload_n C dX7_ask_33 rfl 0 rfl ?_
    obtain ⟨r34, c34, hf⟩ := oB hf
    refine b_callVv (K := 7) (As := []) (res := r34) C (metX7_save l G _ _ _ hk0 c34) hk0 (by decide) rfl gkX7_81 ekX7_81 rfl ⟨rfl, rfl⟩ ⟨Nat.le_of_ble_eq_true rfl, Nat.le_of_ble_eq_true rfl⟩ (by simp [Value.category]) ⟨Nat.zero_le _, Nat.zero_le _⟩ rfl dX7_ask_34 ?_
    refine b_aload_n C dX7_ask_37 rfl 0 rfl ?_
    refine b_iload_n C dX7_ask_38 rfl 1 rfl ?_
    refine b_iload_n C dX7_ask_39 rfl 2 rfl ?_
    refine b_iload_n C dX7_ask_40 rfl 3 rfl ?_
    obtain ⟨r41, c41, hf⟩ := oB hf
    refine b_callVi (K := 7) (As := [.int v1, .int v2, .int v3]) (res := r41) C (metX7_asks l G _ _ _ _ _ _ hk0 c41) hk0 (by decide) rfl gkX7_84 ekX7_84 rfl ⟨rfl, rfl⟩ ⟨Nat.le_of_ble_eq_true rfl, Nat.le_of_ble_eq_true rfl⟩ (by simp [Value.category]) ⟨Nat.zero_le _, Nat.zero_le _⟩ rfl dX7_ask_41 ?_
    exact b_ireti C dX7_ask_44 hf
  · have hf := iT c28 hf
    refine b_iconst (v := 0) C dX7_ask_31 (by decide) ?_
    exact b_ireti C dX7_ask_32 hf
set_option maxHeartbeats 4000000 in
set_option maxRecDepth 100000 in
theorem wX7_ask_b0 (C : CT p s m args meth c cX7_ask 4 RX7 (some (.int)) G (pA G s.heap.size)) {i0 : Nat} {v1 : Int32} {v2 : Int32} {v3 : Int32} {x : xS} {r : (Int32 × xS)} (hk0 : KD G i0 7) (hf : fX7_ask_b0 i0 v1 v2 v3 x = some r) : WB p l e rX7_ask s m args below meth c 4 G (pA G s.heap.size) (qI below G r args s 0 0) 0 0 0 [(0, .ref (G.2.2 i0)), (1, .int v1), (2, .int v2), (3, .int v3)] [] x := by
  unfold fX7_ask_b0 at hf
  refine b_aload_n C dX7_ask_0 rfl 0 rfl ?_
  refine b_iload_n C dX7_ask_1 rfl 1 rfl ?_
  obtain ⟨r2, c2, hf⟩ := oB hf
  refine b_callSi (As := [.int v1]) (res := (r2, x)) C (metX7_isLodger l G _ _ _  c2) gkX7_70 ekX7_70 rfl ⟨rfl, rfl⟩ ⟨Nat.le_of_ble_eq_true rfl, Nat.le_of_ble_eq_true rfl⟩ (by simp [Value.category]) ⟨Nat.zero_le _, Nat.zero_le _⟩ rfl dX7_ask_2 ?_
  refine b_if_ne (tgt := 12) C dX7_ask_5 (by decide) (fun c5 => ?_) (fun c5 => ?_)
  · have hf := iF c5 hf
    refine b_iload_n C dX7_ask_12 rfl 2 rfl ?_
    refine b_iload_n C dX7_ask_13 rfl 3 rfl ?_
    obtain ⟨r14, c14, hf⟩ := oB hf
    refine b_callSi (As := [.int v2, .int v3]) (res := (r14, x)) C (metX7_isTime l G _ _ _ _  c14) gkX7_74 ekX7_74 rfl ⟨rfl, rfl⟩ ⟨Nat.le_of_ble_eq_true rfl, Nat.le_of_ble_eq_true rfl⟩ (by simp [Value.category]) ⟨Nat.zero_le _, Nat.zero_le _⟩ rfl dX7_ask_14 ?_
    refine b_if_eq (tgt := 24) C dX7_ask_17 (by decide) (fun c17 => ?_) (fun c17 => ?_)
    · have hf := iT c17 hf
      refine b_iconst (v := 2) C dX7_ask_24 (by decide) ?_
      exact wX7_ask_b25 C  hk0 hf
    · have hf := iF c17 hf
      refine b_iconst (v := 0) C dX7_ask_20 (by decide) ?_
      refine b_goto (tgt := 25) C dX7_ask_21 (by decide) ?_
      exact wX7_ask_b25 C  hk0 hf
  · have hf := iT c5 hf
    refine b_iconst (v := 1) C dX7_ask_8 (by decide) ?_
    refine b_goto (tgt := 25) C dX7_ask_9 (by decide) ?_
    exact wX7_ask_b25 C  hk0 hf
end
theorem metX7_ask (l : Launch) (G : gT) (i0 : Nat) (v1 : Int32) (v2 : Int32) (v3 : Int32) (x : xS) (r : (Int32 × xS)) (hk0 : KD G i0 7) (hf : fX7_ask i0 v1 v2 v3 x = some r) : cI l yX7_ask cX7_ask 4 (.int) rX7_ask [.ref (G.2.2 i0), .int v1, .int v2, .int v3] G x r :=
  b_body (by decide) (Nat.le_of_ble_eq_true rfl) rfl (fun p e s m args below meth c C => wX7_ask_b0 C hk0 hf)
-- X7_at
abbrev rX7_at : Room := { frames := 1, cells := 0, slots := 0, locals := 22 }
def fX7_at_b29 (i0 : Nat) (v1 : Int32) (v2 : Int32) (s1 : Int32) (x : xS) : Option (Int32 × xS) :=
  Option.bind (fX7_holds i0 s1 x) (fun r29 =>
  (if r29.1 = 0 then
  some (0, r29.2)
  else
  Option.bind (fX7_ofBed v1 v2 r29.2) (fun r41 =>
  (if r41 < 0 ∨ ln (i0 + 1) ≤ r41.toNatClampNeg then none else
  some ((r29.2.1 (i0 + 1) r41.toNatClampNeg), r29.2)))))
def fX7_at_b0 (i0 : Nat) (v1 : Int32) (v2 : Int32) (x : xS) : Option (Int32 × xS) :=
  Option.bind (fX7_in v1 0 3 x) (fun r4 =>
  (if r4 = 0 then
  fX7_at_b29 i0 v1 v2 1 x
  else
  Option.bind (fX7_in v2 0 11 x) (fun r18 =>
  (if r18 = 0 then
  fX7_at_b29 i0 v1 v2 2 x
  else
  fX7_at_b29 i0 v1 v2 0 x))))
def fX7_at (i0 : Nat) (v1 : Int32) (v2 : Int32) (x : xS) : Option (Int32 × xS) := fX7_at_b0 i0 v1 v2 x
section
variable {p : Program} {l : Launch} {e : Env} {R : Room} {s : State} {m : MethodId} {args : Array Value} {below : List Frame} {meth : Method} {c : Code} {G : gT}
set_option maxHeartbeats 4000000 in
set_option maxRecDepth 100000 in
theorem wX7_at_b29 (C : CT p s m args meth c cX7_at 3 RX7 (some (.int)) G (pA G s.heap.size)) {i0 : Nat} {v1 : Int32} {v2 : Int32} {s1 : Int32} {x : xS} {r : (Int32 × xS)} (hk0 : KD G i0 7) (hf : fX7_at_b29 i0 v1 v2 s1 x = some r) : WB p l e rX7_at s m args below meth c 3 G (pA G s.heap.size) (qI below G r args s 0 0) 0 0 29 [(0, .ref (G.2.2 i0)), (1, .int v1), (2, .int v2)] [.int s1, .ref (G.2.2 i0)] x := by
  unfold fX7_at_b29 at hf
  obtain ⟨r29, c29, hf⟩ := oB hf
  refine b_callVi (K := 7) (As := [.int s1]) (res := r29) C (metX7_holds l G _ _ _ _ hk0 c29) hk0 (by decide) rfl gkX7_78 ekX7_78 rfl ⟨rfl, rfl⟩ ⟨Nat.le_of_ble_eq_true rfl, Nat.le_of_ble_eq_true rfl⟩ (by simp [Value.category]) ⟨Nat.zero_le _, Nat.zero_le _⟩ rfl dX7_at_29 ?_
  refine b_if_eq (tgt := 48) C dX7_at_32 (by decide) (fun c32 => ?_) (fun c32 => ?_)
  · have hf := iT c32 hf
    refine b_iconst (v := 0) C dX7_at_48 (by decide) ?_
    exact b_ireti C dX7_at_49 hf
  · have hf := iF c32 hf
    refine b_aload_n C dX7_at_35 rfl 0 rfl ?_
    refine gfX7_7 C hk0 dX7_at_36 ?_
    refine b_iload_n C dX7_at_39 rfl 1 rfl ?_
    refine b_iload_n C dX7_at_40 rfl 2 rfl ?_
    obtain ⟨r41, c41, hf⟩ := oB hf
    refine b_callSi (As := [.int v1, .int v2]) (res := (r41, r29.2)) C (metX7_ofBed l G _ _ _ _  c41) gkX7_40 ekX7_40 rfl ⟨rfl, rfl⟩ ⟨Nat.le_of_ble_eq_true rfl, Nat.le_of_ble_eq_true rfl⟩ (by simp [Value.category]) ⟨Nat.zero_le _, Nat.zero_le _⟩ rfl dX7_at_41 ?_
    obtain ⟨g44, hf⟩ := iN hf
    refine b_iald C ((kd7 C.cl hk0).1) g44 dX7_at_44 ?_
    refine b_goto (tgt := 49) C dX7_at_45 (by decide) ?_
    exact b_ireti C dX7_at_49 hf
set_option maxHeartbeats 4000000 in
set_option maxRecDepth 100000 in
theorem wX7_at_b0 (C : CT p s m args meth c cX7_at 3 RX7 (some (.int)) G (pA G s.heap.size)) {i0 : Nat} {v1 : Int32} {v2 : Int32} {x : xS} {r : (Int32 × xS)} (hk0 : KD G i0 7) (hf : fX7_at_b0 i0 v1 v2 x = some r) : WB p l e rX7_at s m args below meth c 3 G (pA G s.heap.size) (qI below G r args s 0 0) 0 0 0 [(0, .ref (G.2.2 i0)), (1, .int v1), (2, .int v2)] [] x := by
  unfold fX7_at_b0 at hf
  refine b_aload_n C dX7_at_0 rfl 0 rfl ?_
  refine b_iload_n C dX7_at_1 rfl 1 rfl ?_
  refine b_iconst (v := 0) C dX7_at_2 (by decide) ?_
  refine b_iconst (v := 3) C dX7_at_3 (by decide) ?_
  obtain ⟨r4, c4, hf⟩ := oB hf
  refine b_callSi (As := [.int v1, .int 0, .int 3]) (res := (r4, x)) C (metX7_in l G _ _ _ _ _  c4) gkX7_33 ekX7_33 rfl ⟨rfl, rfl⟩ ⟨Nat.le_of_ble_eq_true rfl, Nat.le_of_ble_eq_true rfl⟩ (by simp [Value.category]) ⟨Nat.zero_le _, Nat.zero_le _⟩ rfl dX7_at_4 ?_
  refine b_if_ne (tgt := 14) C dX7_at_7 (by decide) (fun c7 => ?_) (fun c7 => ?_)
  · have hf := iF c7 hf
    refine b_iload_n C dX7_at_14 rfl 2 rfl ?_
    refine b_iconst (v := 0) C dX7_at_15 (by decide) ?_
    refine b_bipush (v := 11) C dX7_at_16 (by decide) ?_
    obtain ⟨r18, c18, hf⟩ := oB hf
    refine b_callSi (As := [.int v2, .int 0, .int 11]) (res := (r18, x)) C (metX7_in l G _ _ _ _ _  c18) gkX7_33 ekX7_33 rfl ⟨rfl, rfl⟩ ⟨Nat.le_of_ble_eq_true rfl, Nat.le_of_ble_eq_true rfl⟩ (by simp [Value.category]) ⟨Nat.zero_le _, Nat.zero_le _⟩ rfl dX7_at_18 ?_
    refine b_if_eq (tgt := 28) C dX7_at_21 (by decide) (fun c21 => ?_) (fun c21 => ?_)
    · have hf := iT c21 hf
      refine b_iconst (v := 2) C dX7_at_28 (by decide) ?_
      exact wX7_at_b29 C  hk0 hf
    · have hf := iF c21 hf
      refine b_iconst (v := 0) C dX7_at_24 (by decide) ?_
      refine b_goto (tgt := 29) C dX7_at_25 (by decide) ?_
      exact wX7_at_b29 C  hk0 hf
  · have hf := iT c7 hf
    refine b_iconst (v := 1) C dX7_at_10 (by decide) ?_
    refine b_goto (tgt := 29) C dX7_at_11 (by decide) ?_
    exact wX7_at_b29 C  hk0 hf
end
theorem metX7_at (l : Launch) (G : gT) (i0 : Nat) (v1 : Int32) (v2 : Int32) (x : xS) (r : (Int32 × xS)) (hk0 : KD G i0 7) (hf : fX7_at i0 v1 v2 x = some r) : cI l yX7_at cX7_at 3 (.int) rX7_at [.ref (G.2.2 i0), .int v1, .int v2] G x r :=
  b_body (by decide) (Nat.le_of_ble_eq_true rfl) rfl (fun p e s m args below meth c C => wX7_at_b0 C hk0 hf)
-- X7_becomes
abbrev rX7_becomes : Room := { frames := 1, cells := 0, slots := 0, locals := 21 }
def fX7_becomes_b0 (i0 : Nat) (v1 : Int32) (v2 : Int32) (x : xS) : Option (Int32 × xS) :=
  Option.bind (fX7_save i0 x) (fun r1 =>
  (if v1 < 0 ∨ ln (i0 + 1) ≤ v1.toNatClampNeg then none else
  lt1 (r1.1 (i0 + 1) v1.toNatClampNeg) (fun y10 => 
  (if v1 < 0 ∨ ln (i0 + 1) ≤ v1.toNatClampNeg then none else
  lt1 (up1 r1 (i0 + 1) v1.toNatClampNeg v2) (fun x17 =>
  some (y10, x17))))))
def fX7_becomes (i0 : Nat) (v1 : Int32) (v2 : Int32) (x : xS) : Option (Int32 × xS) := fX7_becomes_b0 i0 v1 v2 x
section
variable {p : Program} {l : Launch} {e : Env} {R : Room} {s : State} {m : MethodId} {args : Array Value} {below : List Frame} {meth : Method} {c : Code} {G : gT}
set_option maxHeartbeats 4000000 in
set_option maxRecDepth 100000 in
theorem wX7_becomes_b0 (C : CT p s m args meth c cX7_becomes 4 RX7 (some (.int)) G (pA G s.heap.size)) {i0 : Nat} {v1 : Int32} {v2 : Int32} {x : xS} {r : (Int32 × xS)} (hk0 : KD G i0 7) (hf : fX7_becomes_b0 i0 v1 v2 x = some r) : WB p l e rX7_becomes s m args below meth c 4 G (pA G s.heap.size) (qI below G r args s 0 0) 0 0 0 [(0, .ref (G.2.2 i0)), (1, .int v1), (2, .int v2)] [] x := by
  unfold fX7_becomes_b0 at hf
  refine b_aload_n C dX7_becomes_0 rfl 0 rfl ?_
  obtain ⟨r1, c1, hf⟩ := oB hf
  refine b_callVv (K := 7) (As := []) (res := r1) C (metX7_save l G _ _ _ hk0 c1) hk0 (by decide) rfl gkX7_81 ekX7_81 rfl ⟨rfl, rfl⟩ ⟨Nat.le_of_ble_eq_true rfl, Nat.le_of_ble_eq_true rfl⟩ (by simp [Value.category]) ⟨Nat.zero_le _, Nat.zero_le _⟩ rfl dX7_becomes_1 ?_
  refine b_aload_n C dX7_becomes_4 rfl 0 rfl ?_
  refine gfX7_7 C hk0 dX7_becomes_5 ?_
  refine b_iload_n C dX7_becomes_8 rfl 1 rfl ?_
  obtain ⟨g9, hf⟩ := iN hf
  refine b_iald C ((kd7 C.cl hk0).1) g9 dX7_becomes_9 ?_
  obtain ⟨y10, e10, hf⟩ := lN1 hf
  rw [e10]
  refine b_istore_n (lv' := [(3, .int y10), (0, .ref (G.2.2 i0)), (1, .int v1), (2, .int v2)]) C dX7_becomes_10 rfl (by decide) rfl ?_
  refine b_aload_n C dX7_becomes_11 rfl 1 rfl ?_
  refine gfX7_7 C hk0 dX7_becomes_12 ?_
  refine b_iload_n C dX7_becomes_15 rfl 2 rfl ?_
  refine b_iload_n C dX7_becomes_16 rfl 3 rfl ?_
  obtain ⟨g17, hf⟩ := iN hf
  obtain ⟨x17, e17, hf⟩ := lN1 hf
  refine b_iast C ((kd7 C.cl hk0).1) g17 dX7_becomes_17 ?_
  rw [e17]
  refine b_iload_n C dX7_becomes_18 rfl 0 rfl ?_
  exact b_ireti C dX7_becomes_19 hf
end
theorem metX7_becomes (l : Launch) (G : gT) (i0 : Nat) (v1 : Int32) (v2 : Int32) (x : xS) (r : (Int32 × xS)) (hk0 : KD G i0 7) (hf : fX7_becomes i0 v1 v2 x = some r) : cI l yX7_becomes cX7_becomes 4 (.int) rX7_becomes [.ref (G.2.2 i0), .int v1, .int v2] G x r :=
  b_body (by decide) (Nat.le_of_ble_eq_true rfl) rfl (fun p e s m args below meth c C => wX7_becomes_b0 C hk0 hf)
-- X7_bitsOf
abbrev rX7_bitsOf : Room := { frames := 0, cells := 0, slots := 0, locals := 0 }
def fX7_bitsOf_b15 (x : xS) : Nat → Int64 → UInt64 → Option Int64
  | 0, _, _ => none
  | n + 1, l2, d4 => (if (0 : Int32) ≤ (Op.cmpValue (FP.dcmp d4 FP.dconst1) CmpOp.g) then
  (if (FP.dsub d4 FP.dconst1) &&& 0x7fffffffffffffff ≤ (0x7ff0000000000000 : UInt64) then
  (if (FP.dmul (FP.dsub d4 FP.dconst1) (4841369599423283200 : UInt64)) &&& 0x7fffffffffffffff ≤ (0x7ff0000000000000 : UInt64) then
  some ((l2 * 4503599627370496) + (FP.d2l (FP.dmul (FP.dsub d4 FP.dconst1) (4841369599423283200 : UInt64)))) else none) else none)
  else
  (if (FP.dmul d4 (4611686018427387904 : UInt64)) &&& 0x7fffffffffffffff ≤ (0x7ff0000000000000 : UInt64) then
  lt1 (l2 - 1) (fun y33 => 
  fX7_bitsOf_b15 x n y33 (FP.dmul d4 (4611686018427387904 : UInt64))) else none))
def fX7_bitsOf_b0 (d0 : UInt64) (x : xS)  : Option Int64 :=
  (if (Op.cmpValue (FP.dcmp d0 FP.dconst0) CmpOp.l) = 0 then
  some 0
  else
  fX7_bitsOf_b15 x FU 1023 d0)
def fX7_bitsOf (d0 : UInt64) (x : xS) : Option Int64 := fX7_bitsOf_b0 d0 x
section
variable {p : Program} {l : Launch} {e : Env} {R : Room} {s : State} {m : MethodId} {args : Array Value} {below : List Frame} {meth : Method} {c : Code} {G : gT}
set_option maxHeartbeats 4000000 in
set_option maxRecDepth 100000 in
theorem wX7_bitsOf_b15 (C : CT p s m args meth c cX7_bitsOf 6 RX7 (some (.long)) G (pA G s.heap.size)) {x : xS} {r : Int64}  : ∀ (n : Nat) (l2 : Int64) (d4 : UInt64), fX7_bitsOf_b15 x n l2 d4 = some r → WB p l e rX7_bitsOf s m args below meth c 6 G (pA G s.heap.size) (qJ below G (r, x) args s 0 0) 0 0 15 [(2, .long l2), (4, .double d4)] [] x := by
  intro n
  induction n with
  | zero =>
    intro l2 d4 hf
    cases hf
  | succ n ih =>
    intro l2 d4 hf
    rw [fX7_bitsOf_b15] at hf
    refine b_dload C dX7_bitsOf_15 1 rfl ?_
    refine b_dconst1 C dX7_bitsOf_17 ?_
    refine b_dcmp C dX7_bitsOf_18 ?_
    refine b_if_ge (tgt := 37) C dX7_bitsOf_19 (by decide) (fun c19 => ?_) (fun c19 => ?_)
    · have hf := iT c19 hf
      refine b_lload_n C dX7_bitsOf_37 rfl 0 rfl ?_
      refine b_ldc2 C w_416 dX7_bitsOf_38 ?_
      refine b_lmul C dX7_bitsOf_41 ?_
      refine b_dload C dX7_bitsOf_42 1 rfl ?_
      refine b_dconst1 C dX7_bitsOf_44 ?_
      obtain ⟨g45, hf⟩ := iP hf
      refine b_dsub C dX7_bitsOf_45 g45 ?_
      refine b_ldc2d C w_417 dX7_bitsOf_46 ?_
      obtain ⟨g49, hf⟩ := iP hf
      refine b_dmul C dX7_bitsOf_49 g49 ?_
      refine b_d2l C dX7_bitsOf_50 ?_
      refine b_ladd C dX7_bitsOf_51 ?_
      exact b_lret C dX7_bitsOf_52 (congrArg (Option.map (fun q => (q, x))) hf)
    · have hf := iF c19 hf
      refine b_dload C dX7_bitsOf_22 1 rfl ?_
      refine b_ldc2d C w_418 dX7_bitsOf_24 ?_
      obtain ⟨g27, hf⟩ := iP hf
      refine b_dmul C dX7_bitsOf_27 g27 ?_
      refine b_dstore (lv' := [(4, .double (FP.dmul d4 (4611686018427387904 : UInt64))), (2, .long l2)]) C dX7_bitsOf_28 (by decide) rfl ?_
      refine b_lload_n C dX7_bitsOf_30 rfl 1 rfl ?_
      refine b_lconst (v := 1) C dX7_bitsOf_31 (by decide) ?_
      refine b_lsub C dX7_bitsOf_32 ?_
      obtain ⟨y33, e33, hf⟩ := lN1 hf
      rw [e33]
      refine b_lstore_n (lv' := [(2, .long y33), (4, .double (FP.dmul d4 (4611686018427387904 : UInt64)))]) C dX7_bitsOf_33 rfl (by decide) rfl ?_
      refine b_goto (tgt := 15) C dX7_bitsOf_34 (by decide) ?_
      exact ih _ _ hf
set_option maxHeartbeats 4000000 in
set_option maxRecDepth 100000 in
theorem wX7_bitsOf_b0 (C : CT p s m args meth c cX7_bitsOf 6 RX7 (some (.long)) G (pA G s.heap.size)) {d0 : UInt64} {x : xS}  {r : Int64}  (hf : fX7_bitsOf_b0 d0 x  = some r) : WB p l e rX7_bitsOf s m args below meth c 6 G (pA G s.heap.size) (qJ below G (r, x) args s 0 0) 0 0 0 [(0, .double d0)] [] x := by
  unfold fX7_bitsOf_b0 at hf
  refine b_dload_n C dX7_bitsOf_0 rfl 0 rfl ?_
  refine b_dconst0 C dX7_bitsOf_1 ?_
  refine b_dcmp C dX7_bitsOf_2 ?_
  refine b_if_ne (tgt := 8) C dX7_bitsOf_3 (by decide) (fun c3 => ?_) (fun c3 => ?_)
  · have hf := iF c3 hf
    refine b_ldc2 C w_415 dX7_bitsOf_8 ?_
    refine b_lstore_n (lv' := [(2, .long 1023), (0, .double d0)]) C dX7_bitsOf_11 rfl (by decide) rfl ?_
    refine b_dload_n C dX7_bitsOf_12 rfl 1 rfl ?_
    refine b_dstore (lv' := [(4, .double d0), (2, .long 1023), (0, .double d0)]) C dX7_bitsOf_13 (by decide) rfl ?_
    refine b_pm [1, 0] (lv' := [(2, .long 1023), (4, .double d0)]) rfl ?_
    exact wX7_bitsOf_b15 C   FU _ _ hf
  · have hf := iT c3 hf
    refine b_lconst (v := 0) C dX7_bitsOf_6 (by decide) ?_
    exact b_lret C dX7_bitsOf_7 (congrArg (Option.map (fun q => (q, x))) hf)
end
theorem metX7_bitsOf (l : Launch) (G : gT) (d0 : UInt64) (x : xS) (r : Int64)  (hf : fX7_bitsOf d0 x = some r) : cJ l yX7_bitsOf cX7_bitsOf 6 rX7_bitsOf [.double d0] G x (r, x) :=
  b_body (by decide) (Nat.le_of_ble_eq_true rfl) rfl (fun p e s m args below meth c C => wX7_bitsOf_b0 C  hf)
-- X7_clearBuffer
abbrev rX7_clearBuffer : Room := { frames := 0, cells := 0, slots := 0, locals := 0 }
def fX7_clearBuffer_b0 (i0 : Nat) (x : xS) : Option (Int32 × xS) :=
  lt1 (up1 x i0 0 0) (fun x2 =>
  lt1 (x2.1 i0 8) (fun y9 => 
  lt1 (up1 x2 i0 8 0) (fun x12 =>
  some (y9, x12))))
def fX7_clearBuffer (i0 : Nat) (x : xS) : Option (Int32 × xS) := fX7_clearBuffer_b0 i0 x
section
variable {p : Program} {l : Launch} {e : Env} {R : Room} {s : State} {m : MethodId} {args : Array Value} {below : List Frame} {meth : Method} {c : Code} {G : gT}
set_option maxHeartbeats 4000000 in
set_option maxRecDepth 100000 in
theorem wX7_clearBuffer_b0 (C : CT p s m args meth c cX7_clearBuffer 2 RX7 (some (.int)) G (pA G s.heap.size)) {i0 : Nat} {x : xS} {r : (Int32 × xS)} (hk0 : KD G i0 7) (hf : fX7_clearBuffer_b0 i0 x = some r) : WB p l e rX7_clearBuffer s m args below meth c 2 G (pA G s.heap.size) (qI below G r args s 0 0) 0 0 0 [(0, .ref (G.2.2 i0))] [] x := by
  unfold fX7_clearBuffer_b0 at hf
  refine b_aload_n C dX7_clearBuffer_0 rfl 0 rfl ?_
  refine b_iconst (v := 0) C dX7_clearBuffer_1 (by decide) ?_
  obtain ⟨x2, e2, hf⟩ := lN1 hf
  refine pfX7_29 C hk0 dX7_clearBuffer_2 e2 ?_
  refine b_aload_n C dX7_clearBuffer_5 rfl 0 rfl ?_
  refine gfX7_97 C hk0 dX7_clearBuffer_6 ?_
  obtain ⟨y9, e9, hf⟩ := lN1 hf
  rw [e9]
  refine b_istore_n (lv' := [(1, .int y9), (0, .ref (G.2.2 i0))]) C dX7_clearBuffer_9 rfl (by decide) rfl ?_
  refine b_aload_n C dX7_clearBuffer_10 rfl 1 rfl ?_
  refine b_iconst (v := 0) C dX7_clearBuffer_11 (by decide) ?_
  obtain ⟨x12, e12, hf⟩ := lN1 hf
  refine pfX7_97 C hk0 dX7_clearBuffer_12 e12 ?_
  refine b_iload_n C dX7_clearBuffer_15 rfl 0 rfl ?_
  exact b_ireti C dX7_clearBuffer_16 hf
end
theorem metX7_clearBuffer (l : Launch) (G : gT) (i0 : Nat) (x : xS) (r : (Int32 × xS)) (hk0 : KD G i0 7) (hf : fX7_clearBuffer i0 x = some r) : cI l yX7_clearBuffer cX7_clearBuffer 2 (.int) rX7_clearBuffer [.ref (G.2.2 i0)] G x r :=
  b_body (by decide) (Nat.le_of_ble_eq_true rfl) rfl (fun p e s m args below meth c C => wX7_clearBuffer_b0 C hk0 hf)
-- X7_lent
abbrev rX7_lent : Room := { frames := 0, cells := 0, slots := 0, locals := 0 }
def fX7_lent_b29 (k4 : Int32 → Int32 → Option Int32) (i0 : Nat) (x : xS) (v2 : Int32) (s0 : Int32) (s1 : Int32) : Option Int32 :=
  lt1 (s0 + s1) (fun y30 => 
  k4 y30 (v2 + 1))
def fX7_lent_b4 (i0 : Nat) (x : xS) : Nat → Int32 → Int32 → Option Int32
  | 0, _, _ => none
  | n + 1, v1, v2 => (if (48 : Int32) ≤ v2 then
  some v1
  else
  (if (60 + v2) < 0 ∨ ln (i0 + 1) ≤ (60 + v2).toNatClampNeg then none else
  (if (x.1 (i0 + 1) (60 + v2).toNatClampNeg) = (-1) then
  fX7_lent_b29 (fX7_lent_b4 i0 x n) i0 x v2 v1 0
  else
  fX7_lent_b29 (fX7_lent_b4 i0 x n) i0 x v2 v1 1)))
def fX7_lent_b0 (i0 : Nat) (x : xS)  : Option Int32 :=
  fX7_lent_b4 i0 x FU 0 0
def fX7_lent (i0 : Nat) (x : xS) : Option Int32 := fX7_lent_b0 i0 x
section
variable {p : Program} {l : Launch} {e : Env} {R : Room} {s : State} {m : MethodId} {args : Array Value} {below : List Frame} {meth : Method} {c : Code} {G : gT}
set_option maxHeartbeats 4000000 in
set_option maxRecDepth 100000 in
theorem wX7_lent_b29 (C : CT p s m args meth c cX7_lent 3 RX7 (some (.int)) G (pA G s.heap.size)) {k4 : Int32 → Int32 → Option Int32} {i0 : Nat} {x : xS} {v2 : Int32} {s0 : Int32} {s1 : Int32} {r : Int32} (h4 : ∀ (v1 : Int32) (v2 : Int32), k4 v1 v2 = some r → WB p l e rX7_lent s m args below meth c 3 G (pA G s.heap.size) (qI below G (r, x) args s 0 0) 0 0 4 [(0, .ref (G.2.2 i0)), (1, .int v1), (2, .int v2)] [] x) (hk0 : KD G i0 7) (hf : fX7_lent_b29 k4 i0 x v2 s0 s1 = some r) : WB p l e rX7_lent s m args below meth c 3 G (pA G s.heap.size) (qI below G (r, x) args s 0 0) 0 0 29 [(0, .ref (G.2.2 i0)), (2, .int v2)] [.int s1, .int s0] x := by
  unfold fX7_lent_b29 at hf
  refine b_iadd C dX7_lent_29 ?_
  obtain ⟨y30, e30, hf⟩ := lN1 hf
  rw [e30]
  refine b_istore_n (lv' := [(1, .int y30), (0, .ref (G.2.2 i0)), (2, .int v2)]) C dX7_lent_30 rfl (by decide) rfl ?_
  refine b_iinc (q := 2) (v' := (v2 + 1)) (lv' := [(2, .int (v2 + 1)), (1, .int y30), (0, .ref (G.2.2 i0))]) C dX7_lent_31 rfl rfl (by decide) rfl ?_
  refine b_goto (tgt := 4) C dX7_lent_34 (by decide) ?_
  refine b_pm [2, 1, 0] (lv' := [(0, .ref (G.2.2 i0)), (1, .int y30), (2, .int (v2 + 1))]) rfl ?_
  exact h4 _ _ hf
set_option maxHeartbeats 4000000 in
set_option maxRecDepth 100000 in
theorem wX7_lent_b4 (C : CT p s m args meth c cX7_lent 3 RX7 (some (.int)) G (pA G s.heap.size)) {i0 : Nat} {x : xS} {r : Int32} (hk0 : KD G i0 7) : ∀ (n : Nat) (v1 : Int32) (v2 : Int32), fX7_lent_b4 i0 x n v1 v2 = some r → WB p l e rX7_lent s m args below meth c 3 G (pA G s.heap.size) (qI below G (r, x) args s 0 0) 0 0 4 [(0, .ref (G.2.2 i0)), (1, .int v1), (2, .int v2)] [] x := by
  intro n
  induction n with
  | zero =>
    intro v1 v2 hf
    cases hf
  | succ n ih =>
    intro v1 v2 hf
    rw [fX7_lent_b4] at hf
    refine b_iload_n C dX7_lent_4 rfl 2 rfl ?_
    refine b_bipush (v := 48) C dX7_lent_5 (by decide) ?_
    refine b_icmp_ge (tgt := 37) C dX7_lent_7 (by decide) (fun c7 => ?_) (fun c7 => ?_)
    · have hf := iT c7 hf
      refine b_iload_n C dX7_lent_37 rfl 1 rfl ?_
      exact b_ireti C dX7_lent_38 (congrArg (Option.map (fun q => (q, x))) hf)
    · have hf := iF c7 hf
      refine b_iload_n C dX7_lent_10 rfl 1 rfl ?_
      refine b_aload_n C dX7_lent_11 rfl 0 rfl ?_
      refine gfX7_7 C hk0 dX7_lent_12 ?_
      refine b_bipush (v := 60) C dX7_lent_15 (by decide) ?_
      refine b_iload_n C dX7_lent_17 rfl 2 rfl ?_
      refine b_iadd C dX7_lent_18 ?_
      obtain ⟨g19, hf⟩ := iN hf
      refine b_iald C ((kd7 C.cl hk0).1) g19 dX7_lent_19 ?_
      refine b_iconst (v := (-1)) C dX7_lent_20 (by decide) ?_
      refine b_icmp_ne (tgt := 28) C dX7_lent_21 (by decide) (fun c21 => ?_) (fun c21 => ?_)
      · have hf := iF c21 hf
        refine b_iconst (v := 1) C dX7_lent_28 (by decide) ?_
        refine b_pm [0, 2] (lv' := [(0, .ref (G.2.2 i0)), (2, .int v2)]) rfl ?_
        exact wX7_lent_b29 C ih hk0 hf
      · have hf := iT c21 hf
        refine b_iconst (v := 0) C dX7_lent_24 (by decide) ?_
        refine b_goto (tgt := 29) C dX7_lent_25 (by decide) ?_
        refine b_pm [0, 2] (lv' := [(0, .ref (G.2.2 i0)), (2, .int v2)]) rfl ?_
        exact wX7_lent_b29 C ih hk0 hf
set_option maxHeartbeats 4000000 in
set_option maxRecDepth 100000 in
theorem wX7_lent_b0 (C : CT p s m args meth c cX7_lent 3 RX7 (some (.int)) G (pA G s.heap.size)) {i0 : Nat} {x : xS}  {r : Int32} (hk0 : KD G i0 7) (hf : fX7_lent_b0 i0 x  = some r) : WB p l e rX7_lent s m args below meth c 3 G (pA G s.heap.size) (qI below G (r, x) args s 0 0) 0 0 0 [(0, .ref (G.2.2 i0))] [] x := by
  unfold fX7_lent_b0 at hf
  refine b_iconst (v := 0) C dX7_lent_0 (by decide) ?_
  refine b_istore_n (lv' := [(1, .int 0), (0, .ref (G.2.2 i0))]) C dX7_lent_1 rfl (by decide) rfl ?_
  refine b_iconst (v := 0) C dX7_lent_2 (by decide) ?_
  refine b_istore_n (lv' := [(2, .int 0), (1, .int 0), (0, .ref (G.2.2 i0))]) C dX7_lent_3 rfl (by decide) rfl ?_
  refine b_pm [2, 1, 0] (lv' := [(0, .ref (G.2.2 i0)), (1, .int 0), (2, .int 0)]) rfl ?_
  exact wX7_lent_b4 C  hk0 FU _ _ hf
end
theorem metX7_lent (l : Launch) (G : gT) (i0 : Nat) (x : xS) (r : Int32) (hk0 : KD G i0 7) (hf : fX7_lent i0 x = some r) : cI l yX7_lent cX7_lent 3 (.int) rX7_lent [.ref (G.2.2 i0)] G x (r, x) :=
  b_body (by decide) (Nat.le_of_ble_eq_true rfl) rfl (fun p e s m args below meth c C => wX7_lent_b0 C hk0 hf)
-- X7_slept
abbrev rX7_slept : Room := { frames := 1, cells := 0, slots := 0, locals := 21 }
def fX7_slept_b4 (i0 : Nat) (x : xS) : Nat → Int32 → Int32 → Option Int32
  | 0, _, _ => none
  | n + 1, v1, v2 => (if (10 : Int32) ≤ v2 then
  some v1
  else
  Option.bind (fX7_of v2 3 x) (fun r17 =>
  (if r17 < 0 ∨ ln (i0 + 1) ≤ r17.toNatClampNeg then none else
  lt1 (v1 + (x.1 (i0 + 1) r17.toNatClampNeg)) (fun y22 => 
  fX7_slept_b4 i0 x n y22 (v2 + 1)))))
def fX7_slept_b0 (i0 : Nat) (x : xS)  : Option Int32 :=
  fX7_slept_b4 i0 x FU 0 0
def fX7_slept (i0 : Nat) (x : xS) : Option Int32 := fX7_slept_b0 i0 x
section
variable {p : Program} {l : Launch} {e : Env} {R : Room} {s : State} {m : MethodId} {args : Array Value} {below : List Frame} {meth : Method} {c : Code} {G : gT}
set_option maxHeartbeats 4000000 in
set_option maxRecDepth 100000 in
theorem wX7_slept_b4 (C : CT p s m args meth c cX7_slept 3 RX7 (some (.int)) G (pA G s.heap.size)) {i0 : Nat} {x : xS} {r : Int32} (hk0 : KD G i0 7) : ∀ (n : Nat) (v1 : Int32) (v2 : Int32), fX7_slept_b4 i0 x n v1 v2 = some r → WB p l e rX7_slept s m args below meth c 3 G (pA G s.heap.size) (qI below G (r, x) args s 0 0) 0 0 4 [(0, .ref (G.2.2 i0)), (1, .int v1), (2, .int v2)] [] x := by
  intro n
  induction n with
  | zero =>
    intro v1 v2 hf
    cases hf
  | succ n ih =>
    intro v1 v2 hf
    rw [fX7_slept_b4] at hf
    refine b_iload_n C dX7_slept_4 rfl 2 rfl ?_
    refine b_bipush (v := 10) C dX7_slept_5 (by decide) ?_
    refine b_icmp_ge (tgt := 29) C dX7_slept_7 (by decide) (fun c7 => ?_) (fun c7 => ?_)
    · have hf := iT c7 hf
      refine b_iload_n C dX7_slept_29 rfl 1 rfl ?_
      exact b_ireti C dX7_slept_30 (congrArg (Option.map (fun q => (q, x))) hf)
    · have hf := iF c7 hf
      refine b_iload_n C dX7_slept_10 rfl 1 rfl ?_
      refine b_aload_n C dX7_slept_11 rfl 0 rfl ?_
      refine gfX7_7 C hk0 dX7_slept_12 ?_
      refine b_iload_n C dX7_slept_15 rfl 2 rfl ?_
      refine b_iconst (v := 3) C dX7_slept_16 (by decide) ?_
      obtain ⟨r17, c17, hf⟩ := oB hf
      refine b_callSi (As := [.int v2, .int 3]) (res := (r17, x)) C (metX7_of l G _ _ _ _  c17) gkX7_25 ekX7_25 rfl ⟨rfl, rfl⟩ ⟨Nat.le_of_ble_eq_true rfl, Nat.le_of_ble_eq_true rfl⟩ (by simp [Value.category]) ⟨Nat.zero_le _, Nat.zero_le _⟩ rfl dX7_slept_17 ?_
      obtain ⟨g20, hf⟩ := iN hf
      refine b_iald C ((kd7 C.cl hk0).1) g20 dX7_slept_20 ?_
      refine b_iadd C dX7_slept_21 ?_
      obtain ⟨y22, e22, hf⟩ := lN1 hf
      rw [e22]
      refine b_istore_n (lv' := [(1, .int y22), (0, .ref (G.2.2 i0)), (2, .int v2)]) C dX7_slept_22 rfl (by decide) rfl ?_
      refine b_iinc (q := 2) (v' := (v2 + 1)) (lv' := [(2, .int (v2 + 1)), (1, .int y22), (0, .ref (G.2.2 i0))]) C dX7_slept_23 rfl rfl (by decide) rfl ?_
      refine b_goto (tgt := 4) C dX7_slept_26 (by decide) ?_
      refine b_pm [2, 1, 0] (lv' := [(0, .ref (G.2.2 i0)), (1, .int y22), (2, .int (v2 + 1))]) rfl ?_
      exact ih _ _ hf
set_option maxHeartbeats 4000000 in
set_option maxRecDepth 100000 in
theorem wX7_slept_b0 (C : CT p s m args meth c cX7_slept 3 RX7 (some (.int)) G (pA G s.heap.size)) {i0 : Nat} {x : xS}  {r : Int32} (hk0 : KD G i0 7) (hf : fX7_slept_b0 i0 x  = some r) : WB p l e rX7_slept s m args below meth c 3 G (pA G s.heap.size) (qI below G (r, x) args s 0 0) 0 0 0 [(0, .ref (G.2.2 i0))] [] x := by
  unfold fX7_slept_b0 at hf
  refine b_iconst (v := 0) C dX7_slept_0 (by decide) ?_
  refine b_istore_n (lv' := [(1, .int 0), (0, .ref (G.2.2 i0))]) C dX7_slept_1 rfl (by decide) rfl ?_
  refine b_iconst (v := 0) C dX7_slept_2 (by decide) ?_
  refine b_istore_n (lv' := [(2, .int 0), (1, .int 0), (0, .ref (G.2.2 i0))]) C dX7_slept_3 rfl (by decide) rfl ?_
  refine b_pm [2, 1, 0] (lv' := [(0, .ref (G.2.2 i0)), (1, .int 0), (2, .int 0)]) rfl ?_
  exact wX7_slept_b4 C  hk0 FU _ _ hf
end
theorem metX7_slept (l : Launch) (G : gT) (i0 : Nat) (x : xS) (r : Int32) (hk0 : KD G i0 7) (hf : fX7_slept i0 x = some r) : cI l yX7_slept cX7_slept 3 (.int) rX7_slept [.ref (G.2.2 i0)] G x (r, x) :=
  b_body (by decide) (Nat.le_of_ble_eq_true rfl) rfl (fun p e s m args below meth c C => wX7_slept_b0 C hk0 hf)
-- X7_counted
abbrev rX7_counted : Room := { frames := 2, cells := 0, slots := 0, locals := 43 }
def fX7_counted_b0 (i0 : Nat) (v1 : Int32) (x : xS)  : Option Int32 :=
  (if v1 = 0 then
  (if (108 : Int32) < 0 ∨ ln (i0 + 1) ≤ (108 : Int32).toNatClampNeg then none else
  some (x.1 (i0 + 1) (108 : Int32).toNatClampNeg))
  else
  (if v1 = 1 then
  (if (109 : Int32) < 0 ∨ ln (i0 + 1) ≤ (109 : Int32).toNatClampNeg then none else
  some (x.1 (i0 + 1) (109 : Int32).toNatClampNeg))
  else
  (if v1 = 2 then
  Option.bind (fX7_lent i0 x) (fun r77 =>
  some r77)
  else
  (if v1 = 3 then
  Option.bind (fX7_slept i0 x) (fun r82 =>
  some r82)
  else
  (if v1 = 4 then
  (if (110 : Int32) < 0 ∨ ln (i0 + 1) ≤ (110 : Int32).toNatClampNeg then none else
  some (x.1 (i0 + 1) (110 : Int32).toNatClampNeg))
  else
  (if v1 = 5 then
  (if (111 : Int32) < 0 ∨ ln (i0 + 1) ≤ (111 : Int32).toNatClampNeg then none else
  (if (112 : Int32) < 0 ∨ ln (i0 + 1) ≤ (112 : Int32).toNatClampNeg then none else
  (if (113 : Int32) < 0 ∨ ln (i0 + 1) ≤ (113 : Int32).toNatClampNeg then none else
  (if (114 : Int32) < 0 ∨ ln (i0 + 1) ≤ (114 : Int32).toNatClampNeg then none else
  some ((((x.1 (i0 + 1) (111 : Int32).toNatClampNeg) + (x.1 (i0 + 1) (112 : Int32).toNatClampNeg)) + (x.1 (i0 + 1) (113 : Int32).toNatClampNeg)) + (x.1 (i0 + 1) (114 : Int32).toNatClampNeg))))))
  else
  (if v1 = 6 then
  (if (115 : Int32) < 0 ∨ ln (i0 + 1) ≤ (115 : Int32).toNatClampNeg then none else
  some (x.1 (i0 + 1) (115 : Int32).toNatClampNeg))
  else
  (if v1 = 7 then
  (if (116 : Int32) < 0 ∨ ln (i0 + 1) ≤ (116 : Int32).toNatClampNeg then none else
  some (x.1 (i0 + 1) (116 : Int32).toNatClampNeg))
  else
  (if v1 = 8 then
  (if (117 : Int32) < 0 ∨ ln (i0 + 1) ≤ (117 : Int32).toNatClampNeg then none else
  some (x.1 (i0 + 1) (117 : Int32).toNatClampNeg))
  else
  (if v1 = 9 then
  (if (119 : Int32) < 0 ∨ ln (i0 + 1) ≤ (119 : Int32).toNatClampNeg then none else
  some (x.1 (i0 + 1) (119 : Int32).toNatClampNeg))
  else
  (if v1 = 10 then
  (if (118 : Int32) < 0 ∨ ln (i0 + 1) ≤ (118 : Int32).toNatClampNeg then none else
  some (x.1 (i0 + 1) (118 : Int32).toNatClampNeg))
  else
  some (x.1 i0 4))))))))))))
def fX7_counted (i0 : Nat) (v1 : Int32) (x : xS) : Option Int32 := fX7_counted_b0 i0 v1 x
section
variable {p : Program} {l : Launch} {e : Env} {R : Room} {s : State} {m : MethodId} {args : Array Value} {below : List Frame} {meth : Method} {c : Code} {G : gT}
set_option maxHeartbeats 4000000 in
set_option maxRecDepth 100000 in
theorem wX7_counted_b0 (C : CT p s m args meth c cX7_counted 2 RX7 (some (.int)) G (pA G s.heap.size)) {i0 : Nat} {v1 : Int32} {x : xS}  {r : Int32} (hk0 : KD G i0 7) (hf : fX7_counted_b0 i0 v1 x  = some r) : WB p l e rX7_counted s m args below meth c 2 G (pA G s.heap.size) (qI below G (r, x) args s 0 0) 0 0 0 [(0, .ref (G.2.2 i0)), (1, .int v1)] [] x := by
  unfold fX7_counted_b0 at hf
  refine b_iload_n C dX7_counted_0 rfl 1 rfl ?_
  by_cases c1_0 : v1 = 0
  · have hf := iT c1_0 hf
    refine b_tabIn (kc := 0) (tgt := 60) C (by rw [c1_0]; rfl) dX7_counted_1 (by decide) (by decide) rfl (by decide) ?_
    refine b_aload_n C dX7_counted_60 rfl 0 rfl ?_
    refine gfX7_7 C hk0 dX7_counted_61 ?_
    refine b_bipush (v := 108) C dX7_counted_64 (by decide) ?_
    obtain ⟨g66, hf⟩ := iN hf
    refine b_iald C ((kd7 C.cl hk0).1) g66 dX7_counted_66 ?_
    exact b_ireti C dX7_counted_67 (congrArg (Option.map (fun q => (q, x))) hf)
  have hf := iF c1_0 hf
  by_cases c1_1 : v1 = 1
  · have hf := iT c1_1 hf
    refine b_tabIn (kc := 1) (tgt := 68) C (by rw [c1_1]; rfl) dX7_counted_1 (by decide) (by decide) rfl (by decide) ?_
    refine b_aload_n C dX7_counted_68 rfl 0 rfl ?_
    refine gfX7_7 C hk0 dX7_counted_69 ?_
    refine b_bipush (v := 109) C dX7_counted_72 (by decide) ?_
    obtain ⟨g74, hf⟩ := iN hf
    refine b_iald C ((kd7 C.cl hk0).1) g74 dX7_counted_74 ?_
    exact b_ireti C dX7_counted_75 (congrArg (Option.map (fun q => (q, x))) hf)
  have hf := iF c1_1 hf
  by_cases c1_2 : v1 = 2
  · have hf := iT c1_2 hf
    refine b_tabIn (kc := 2) (tgt := 76) C (by rw [c1_2]; rfl) dX7_counted_1 (by decide) (by decide) rfl (by decide) ?_
    refine b_aload_n C dX7_counted_76 rfl 0 rfl ?_
    obtain ⟨r77, c77, hf⟩ := oB hf
    refine b_callVi (K := 7) (As := []) (res := (r77, x)) C (metX7_lent l G _ _ _ hk0 c77) hk0 (by decide) rfl gkX7_139 ekX7_139 rfl ⟨rfl, rfl⟩ ⟨Nat.le_of_ble_eq_true rfl, Nat.le_of_ble_eq_true rfl⟩ (by simp [Value.category]) ⟨Nat.zero_le _, Nat.zero_le _⟩ rfl dX7_counted_77 ?_
    exact b_ireti C dX7_counted_80 (congrArg (Option.map (fun q => (q, x))) hf)
  have hf := iF c1_2 hf
  by_cases c1_3 : v1 = 3
  · have hf := iT c1_3 hf
    refine b_tabIn (kc := 3) (tgt := 81) C (by rw [c1_3]; rfl) dX7_counted_1 (by decide) (by decide) rfl (by decide) ?_
    refine b_aload_n C dX7_counted_81 rfl 0 rfl ?_
    obtain ⟨r82, c82, hf⟩ := oB hf
    refine b_callVi (K := 7) (As := []) (res := (r82, x)) C (metX7_slept l G _ _ _ hk0 c82) hk0 (by decide) rfl gkX7_149 ekX7_149 rfl ⟨rfl, rfl⟩ ⟨Nat.le_of_ble_eq_true rfl, Nat.le_of_ble_eq_true rfl⟩ (by simp [Value.category]) ⟨Nat.zero_le _, Nat.zero_le _⟩ rfl dX7_counted_82 ?_
    exact b_ireti C dX7_counted_85 (congrArg (Option.map (fun q => (q, x))) hf)
  have hf := iF c1_3 hf
  by_cases c1_4 : v1 = 4
  · have hf := iT c1_4 hf
    refine b_tabIn (kc := 4) (tgt := 86) C (by rw [c1_4]; rfl) dX7_counted_1 (by decide) (by decide) rfl (by decide) ?_
    refine b_aload_n C dX7_counted_86 rfl 0 rfl ?_
    refine gfX7_7 C hk0 dX7_counted_87 ?_
    refine b_bipush (v := 110) C dX7_counted_90 (by decide) ?_
    obtain ⟨g92, hf⟩ := iN hf
    refine b_iald C ((kd7 C.cl hk0).1) g92 dX7_counted_92 ?_
    exact b_ireti C dX7_counted_93 (congrArg (Option.map (fun q => (q, x))) hf)
  have hf := iF c1_4 hf
  by_cases c1_5 : v1 = 5
  · have hf := iT c1_5 hf
    refine b_tabIn (kc := 5) (tgt := 94) C (by rw [c1_5]; rfl) dX7_counted_1 (by decide) (by decide) rfl (by decide) ?_
    refine b_aload_n C dX7_counted_94 rfl 0 rfl ?_
    refine gfX7_7 C hk0 dX7_counted_95 ?_
    refine b_bipush (v := 111) C dX7_counted_98 (by decide) ?_
    obtain ⟨g100, hf⟩ := iN hf
    refine b_iald C ((kd7 C.cl hk0).1) g100 dX7_counted_100 ?_
    refine b_aload_n C dX7_counted_101 rfl 0 rfl ?_
    refine gfX7_7 C hk0 dX7_counted_102 ?_
    refine b_bipush (v := 112) C dX7_counted_105 (by decide) ?_
    obtain ⟨g107, hf⟩ := iN hf
    refine b_iald C ((kd7 C.cl hk0).1) g107 dX7_counted_107 ?_
    refine b_iadd C dX7_counted_108 ?_
    refine b_aload_n C dX7_counted_109 rfl 0 rfl ?_
    refine gfX7_7 C hk0 dX7_counted_110 ?_
    refine b_bipush (v := 113) C dX7_counted_113 (by decide) ?_
    obtain ⟨g115, hf⟩ := iN hf
    refine b_iald C ((kd7 C.cl hk0).1) g115 dX7_counted_115 ?_
    refine b_iadd C dX7_counted_116 ?_
    refine b_aload_n C dX7_counted_117 rfl 0 rfl ?_
    refine gfX7_7 C hk0 dX7_counted_118 ?_
    refine b_bipush (v := 114) C dX7_counted_121 (by decide) ?_
    obtain ⟨g123, hf⟩ := iN hf
    refine b_iald C ((kd7 C.cl hk0).1) g123 dX7_counted_123 ?_
    refine b_iadd C dX7_counted_124 ?_
    exact b_ireti C dX7_counted_125 (congrArg (Option.map (fun q => (q, x))) hf)
  have hf := iF c1_5 hf
  by_cases c1_6 : v1 = 6
  · have hf := iT c1_6 hf
    refine b_tabIn (kc := 6) (tgt := 126) C (by rw [c1_6]; rfl) dX7_counted_1 (by decide) (by decide) rfl (by decide) ?_
    refine b_aload_n C dX7_counted_126 rfl 0 rfl ?_
    refine gfX7_7 C hk0 dX7_counted_127 ?_
    refine b_bipush (v := 115) C dX7_counted_130 (by decide) ?_
    obtain ⟨g132, hf⟩ := iN hf
    refine b_iald C ((kd7 C.cl hk0).1) g132 dX7_counted_132 ?_
    exact b_ireti C dX7_counted_133 (congrArg (Option.map (fun q => (q, x))) hf)
  have hf := iF c1_6 hf
  by_cases c1_7 : v1 = 7
  · have hf := iT c1_7 hf
    refine b_tabIn (kc := 7) (tgt := 134) C (by rw [c1_7]; rfl) dX7_counted_1 (by decide) (by decide) rfl (by decide) ?_
    refine b_aload_n C dX7_counted_134 rfl 0 rfl ?_
    refine gfX7_7 C hk0 dX7_counted_135 ?_
    refine b_bipush (v := 116) C dX7_counted_138 (by decide) ?_
    obtain ⟨g140, hf⟩ := iN hf
    refine b_iald C ((kd7 C.cl hk0).1) g140 dX7_counted_140 ?_
    exact b_ireti C dX7_counted_141 (congrArg (Option.map (fun q => (q, x))) hf)
  have hf := iF c1_7 hf
  by_cases c1_8 : v1 = 8
  · have hf := iT c1_8 hf
    refine b_tabIn (kc := 8) (tgt := 142) C (by rw [c1_8]; rfl) dX7_counted_1 (by decide) (by decide) rfl (by decide) ?_
    refine b_aload_n C dX7_counted_142 rfl 0 rfl ?_
    refine gfX7_7 C hk0 dX7_counted_143 ?_
    refine b_bipush (v := 117) C dX7_counted_146 (by decide) ?_
    obtain ⟨g148, hf⟩ := iN hf
    refine b_iald C ((kd7 C.cl hk0).1) g148 dX7_counted_148 ?_
    exact b_ireti C dX7_counted_149 (congrArg (Option.map (fun q => (q, x))) hf)
  have hf := iF c1_8 hf
  by_cases c1_9 : v1 = 9
  · have hf := iT c1_9 hf
    refine b_tabIn (kc := 9) (tgt := 150) C (by rw [c1_9]; rfl) dX7_counted_1 (by decide) (by decide) rfl (by decide) ?_
    refine b_aload_n C dX7_counted_150 rfl 0 rfl ?_
    refine gfX7_7 C hk0 dX7_counted_151 ?_
    refine b_bipush (v := 119) C dX7_counted_154 (by decide) ?_
    obtain ⟨g156, hf⟩ := iN hf
    refine b_iald C ((kd7 C.cl hk0).1) g156 dX7_counted_156 ?_
    exact b_ireti C dX7_counted_157 (congrArg (Option.map (fun q => (q, x))) hf)
  have hf := iF c1_9 hf
  by_cases c1_10 : v1 = 10
  · have hf := iT c1_10 hf
    refine b_tabIn (kc := 10) (tgt := 158) C (by rw [c1_10]; rfl) dX7_counted_1 (by decide) (by decide) rfl (by decide) ?_
    refine b_aload_n C dX7_counted_158 rfl 0 rfl ?_
    refine gfX7_7 C hk0 dX7_counted_159 ?_
    refine b_bipush (v := 118) C dX7_counted_162 (by decide) ?_
    obtain ⟨g164, hf⟩ := iN hf
    refine b_iald C ((kd7 C.cl hk0).1) g164 dX7_counted_164 ?_
    exact b_ireti C dX7_counted_165 (congrArg (Option.map (fun q => (q, x))) hf)
  have hf := iF c1_10 hf
  refine b_tabOut (tgt := 166) C (tsw11 c1_0 c1_1 c1_2 c1_3 c1_4 c1_5 c1_6 c1_7 c1_8 c1_9 c1_10) dX7_counted_1 (by decide) ?_
  refine b_aload_n C dX7_counted_166 rfl 0 rfl ?_
  refine gfX7_37 C hk0 dX7_counted_167 ?_
  exact b_ireti C dX7_counted_170 (congrArg (Option.map (fun q => (q, x))) hf)
end
theorem metX7_counted (l : Launch) (G : gT) (i0 : Nat) (v1 : Int32) (x : xS) (r : Int32) (hk0 : KD G i0 7) (hf : fX7_counted i0 v1 x = some r) : cI l yX7_counted cX7_counted 2 (.int) rX7_counted [.ref (G.2.2 i0), .int v1] G x (r, x) :=
  b_body (by decide) (Nat.le_of_ble_eq_true rfl) rfl (fun p e s m args below meth c C => wX7_counted_b0 C hk0 hf)
-- X7_count
abbrev rX7_count : Room := { frames := 3, cells := 0, slots := 0, locals := 64 }
def fX7_count_b16 (i0 : Nat) (v1 : Int32) (s1 : Int32) (x : xS) : Option (Int32 × xS) :=
  Option.bind (fX7_holds i0 s1 x) (fun r16 =>
  (if r16.1 = 0 then
  some (0, r16.2)
  else
  Option.bind (fX7_counted i0 v1 r16.2) (fun r24 =>
  some (r24, r16.2))))
def fX7_count_b0 (i0 : Nat) (v1 : Int32) (x : xS) : Option (Int32 × xS) :=
  Option.bind (fX7_in v1 0 11 x) (fun r5 =>
  (if r5 = 0 then
  fX7_count_b16 i0 v1 1 x
  else
  fX7_count_b16 i0 v1 0 x))
def fX7_count (i0 : Nat) (v1 : Int32) (x : xS) : Option (Int32 × xS) := fX7_count_b0 i0 v1 x
section
variable {p : Program} {l : Launch} {e : Env} {R : Room} {s : State} {m : MethodId} {args : Array Value} {below : List Frame} {meth : Method} {c : Code} {G : gT}
set_option maxHeartbeats 4000000 in
set_option maxRecDepth 100000 in
theorem wX7_count_b16 (C : CT p s m args meth c cX7_count 2 RX7 (some (.int)) G (pA G s.heap.size)) {i0 : Nat} {v1 : Int32} {s1 : Int32} {x : xS} {r : (Int32 × xS)} (hk0 : KD G i0 7) (hf : fX7_count_b16 i0 v1 s1 x = some r) : WB p l e rX7_count s m args below meth c 2 G (pA G s.heap.size) (qI below G r args s 0 0) 0 0 16 [(0, .ref (G.2.2 i0)), (1, .int v1)] [.int s1, .ref (G.2.2 i0)] x := by
  unfold fX7_count_b16 at hf
  obtain ⟨r16, c16, hf⟩ := oB hf
  refine b_callVi (K := 7) (As := [.int s1]) (res := r16) C (metX7_holds l G _ _ _ _ hk0 c16) hk0 (by decide) rfl gkX7_78 ekX7_78 rfl ⟨rfl, rfl⟩ ⟨Nat.le_of_ble_eq_true rfl, Nat.le_of_ble_eq_true rfl⟩ (by simp [Value.category]) ⟨Nat.zero_le _, Nat.zero_le _⟩ rfl dX7_count_16 ?_
  refine b_if_eq (tgt := 30) C dX7_count_19 (by decide) (fun c19 => ?_) (fun c19 => ?_)
  · have hf := iT c19 hf
    refine b_iconst (v := 0) C dX7_count_30 (by decide) ?_
    exact b_ireti C dX7_count_31 hf
  · have hf := iF c19 hf
    refine b_aload_n C dX7_count_22 rfl 0 rfl ?_
    refine b_iload_n C dX7_count_23 rfl 1 rfl ?_
    obtain ⟨r24, c24, hf⟩ := oB hf
    refine b_callVi (K := 7) (As := [.int v1]) (res := (r24, r16.2)) C (metX7_counted l G _ _ _ _ hk0 c24) hk0 (by decide) rfl gkX7_152 ekX7_152 rfl ⟨rfl, rfl⟩ ⟨Nat.le_of_ble_eq_true rfl, Nat.le_of_ble_eq_true rfl⟩ (by simp [Value.category]) ⟨Nat.zero_le _, Nat.zero_le _⟩ rfl dX7_count_24 ?_
    refine b_goto (tgt := 31) C dX7_count_27 (by decide) ?_
    exact b_ireti C dX7_count_31 hf
set_option maxHeartbeats 4000000 in
set_option maxRecDepth 100000 in
theorem wX7_count_b0 (C : CT p s m args meth c cX7_count 2 RX7 (some (.int)) G (pA G s.heap.size)) {i0 : Nat} {v1 : Int32} {x : xS} {r : (Int32 × xS)} (hk0 : KD G i0 7) (hf : fX7_count_b0 i0 v1 x = some r) : WB p l e rX7_count s m args below meth c 2 G (pA G s.heap.size) (qI below G r args s 0 0) 0 0 0 [(0, .ref (G.2.2 i0)), (1, .int v1)] [] x := by
  unfold fX7_count_b0 at hf
  refine b_aload_n C dX7_count_0 rfl 0 rfl ?_
  refine b_iload_n C dX7_count_1 rfl 1 rfl ?_
  refine b_iconst (v := 0) C dX7_count_2 (by decide) ?_
  refine b_bipush (v := 11) C dX7_count_3 (by decide) ?_
  obtain ⟨r5, c5, hf⟩ := oB hf
  refine b_callSi (As := [.int v1, .int 0, .int 11]) (res := (r5, x)) C (metX7_in l G _ _ _ _ _  c5) gkX7_33 ekX7_33 rfl ⟨rfl, rfl⟩ ⟨Nat.le_of_ble_eq_true rfl, Nat.le_of_ble_eq_true rfl⟩ (by simp [Value.category]) ⟨Nat.zero_le _, Nat.zero_le _⟩ rfl dX7_count_5 ?_
  refine b_if_eq (tgt := 15) C dX7_count_8 (by decide) (fun c8 => ?_) (fun c8 => ?_)
  · have hf := iT c8 hf
    refine b_iconst (v := 1) C dX7_count_15 (by decide) ?_
    exact wX7_count_b16 C  hk0 hf
  · have hf := iF c8 hf
    refine b_iconst (v := 0) C dX7_count_11 (by decide) ?_
    refine b_goto (tgt := 16) C dX7_count_12 (by decide) ?_
    exact wX7_count_b16 C  hk0 hf
end
theorem metX7_count (l : Launch) (G : gT) (i0 : Nat) (v1 : Int32) (x : xS) (r : (Int32 × xS)) (hk0 : KD G i0 7) (hf : fX7_count i0 v1 x = some r) : cI l yX7_count cX7_count 2 (.int) rX7_count [.ref (G.2.2 i0), .int v1] G x r :=
  b_body (by decide) (Nat.le_of_ble_eq_true rfl) rfl (fun p e s m args below meth c C => wX7_count_b0 C hk0 hf)
-- X7_mostAtOnce
abbrev rX7_mostAtOnce : Room := { frames := 1, cells := 0, slots := 0, locals := 21 }
def fX7_mostAtOnce_b60 (k4 : Int32 → Int32 → Option Int32) (i0 : Nat) (x : xS) (v2 : Int32) (s0 : Int32) : Option Int32 :=
  k4 s0 (v2 + 1)
def fX7_mostAtOnce_b42 (k4 : Int32 → Int32 → Option Int32) (k15 : Int32 → Int32 → Int32 → Int32 → Option Int32) (i0 : Nat) (x : xS) (v1 : Int32) (v2 : Int32) (v4 : Int32) (s0 : Int32) (s1 : Int32) : Option Int32 :=
  lt1 (s0 + s1) (fun y43 => 
  k15 v1 v2 y43 (v4 + 1))
def fX7_mostAtOnce_b15 (k4 : Int32 → Int32 → Option Int32) (i0 : Nat) (x : xS) : Nat → Int32 → Int32 → Int32 → Int32 → Option Int32
  | 0, _, _, _, _ => none
  | n + 1, v1, v2, v3, v4 => (if (4 : Int32) ≤ v4 then
  (if v3 ≤ v1 then
  fX7_mostAtOnce_b60 k4 i0 x v2 v1
  else
  fX7_mostAtOnce_b60 k4 i0 x v2 v3)
  else
  Option.bind (fX7_ofBed v4 v2 x) (fun r29 =>
  (if r29 < 0 ∨ ln (i0 + 1) ≤ r29.toNatClampNeg then none else
  (if (x.1 (i0 + 1) r29.toNatClampNeg) = (-1) then
  fX7_mostAtOnce_b42 k4 (fX7_mostAtOnce_b15 k4 i0 x n) i0 x v1 v2 v4 v3 0
  else
  fX7_mostAtOnce_b42 k4 (fX7_mostAtOnce_b15 k4 i0 x n) i0 x v1 v2 v4 v3 1))))
def fX7_mostAtOnce_b4 (i0 : Nat) (x : xS) : Nat → Int32 → Int32 → Option Int32
  | 0, _, _ => none
  | n + 1, v1, v2 => (if (12 : Int32) ≤ v2 then
  some v1
  else
  fX7_mostAtOnce_b15 (fX7_mostAtOnce_b4 i0 x n) i0 x FU v1 v2 0 0)
def fX7_mostAtOnce_b0 (i0 : Nat) (x : xS)  : Option Int32 :=
  fX7_mostAtOnce_b4 i0 x FU 0 0
def fX7_mostAtOnce (i0 : Nat) (x : xS) : Option Int32 := fX7_mostAtOnce_b0 i0 x
section
variable {p : Program} {l : Launch} {e : Env} {R : Room} {s : State} {m : MethodId} {args : Array Value} {below : List Frame} {meth : Method} {c : Code} {G : gT}
set_option maxHeartbeats 4000000 in
set_option maxRecDepth 100000 in
theorem wX7_mostAtOnce_b60 (C : CT p s m args meth c cX7_mostAtOnce 5 RX7 (some (.int)) G (pA G s.heap.size)) {k4 : Int32 → Int32 → Option Int32} {i0 : Nat} {x : xS} {v2 : Int32} {s0 : Int32} {r : Int32} (h4 : ∀ (v1 : Int32) (v2 : Int32), k4 v1 v2 = some r → WB p l e rX7_mostAtOnce s m args below meth c 5 G (pA G s.heap.size) (qI below G (r, x) args s 0 0) 0 0 4 [(0, .ref (G.2.2 i0)), (1, .int v1), (2, .int v2)] [] x) (hk0 : KD G i0 7) (hf : fX7_mostAtOnce_b60 k4 i0 x v2 s0 = some r) : WB p l e rX7_mostAtOnce s m args below meth c 5 G (pA G s.heap.size) (qI below G (r, x) args s 0 0) 0 0 60 [(0, .ref (G.2.2 i0)), (2, .int v2)] [.int s0] x := by
  unfold fX7_mostAtOnce_b60 at hf
  refine b_istore_n (lv' := [(1, .int s0), (0, .ref (G.2.2 i0)), (2, .int v2)]) C dX7_mostAtOnce_60 rfl (by decide) rfl ?_
  refine b_iinc (q := 2) (v' := (v2 + 1)) (lv' := [(2, .int (v2 + 1)), (1, .int s0), (0, .ref (G.2.2 i0))]) C dX7_mostAtOnce_61 rfl rfl (by decide) rfl ?_
  refine b_goto (tgt := 4) C dX7_mostAtOnce_64 (by decide) ?_
  refine b_pm [2, 1, 0] (lv' := [(0, .ref (G.2.2 i0)), (1, .int s0), (2, .int (v2 + 1))]) rfl ?_
  exact h4 _ _ hf
set_option maxHeartbeats 4000000 in
set_option maxRecDepth 100000 in
theorem wX7_mostAtOnce_b42 (C : CT p s m args meth c cX7_mostAtOnce 5 RX7 (some (.int)) G (pA G s.heap.size)) {k4 : Int32 → Int32 → Option Int32} {k15 : Int32 → Int32 → Int32 → Int32 → Option Int32} {i0 : Nat} {x : xS} {v1 : Int32} {v2 : Int32} {v4 : Int32} {s0 : Int32} {s1 : Int32} {r : Int32} (h4 : ∀ (v1 : Int32) (v2 : Int32), k4 v1 v2 = some r → WB p l e rX7_mostAtOnce s m args below meth c 5 G (pA G s.heap.size) (qI below G (r, x) args s 0 0) 0 0 4 [(0, .ref (G.2.2 i0)), (1, .int v1), (2, .int v2)] [] x) (h15 : ∀ (v1 : Int32) (v2 : Int32) (v3 : Int32) (v4 : Int32), k15 v1 v2 v3 v4 = some r → WB p l e rX7_mostAtOnce s m args below meth c 5 G (pA G s.heap.size) (qI below G (r, x) args s 0 0) 0 0 15 [(0, .ref (G.2.2 i0)), (1, .int v1), (2, .int v2), (3, .int v3), (4, .int v4)] [] x) (hk0 : KD G i0 7) (hf : fX7_mostAtOnce_b42 k4 k15 i0 x v1 v2 v4 s0 s1 = some r) : WB p l e rX7_mostAtOnce s m args below meth c 5 G (pA G s.heap.size) (qI below G (r, x) args s 0 0) 0 0 42 [(0, .ref (G.2.2 i0)), (1, .int v1), (2, .int v2), (4, .int v4)] [.int s1, .int s0] x := by
  unfold fX7_mostAtOnce_b42 at hf
  refine b_iadd C dX7_mostAtOnce_42 ?_
  obtain ⟨y43, e43, hf⟩ := lN1 hf
  rw [e43]
  refine b_istore_n (lv' := [(3, .int y43), (0, .ref (G.2.2 i0)), (1, .int v1), (2, .int v2), (4, .int v4)]) C dX7_mostAtOnce_43 rfl (by decide) rfl ?_
  refine b_iinc (q := 4) (v' := (v4 + 1)) (lv' := [(4, .int (v4 + 1)), (3, .int y43), (0, .ref (G.2.2 i0)), (1, .int v1), (2, .int v2)]) C dX7_mostAtOnce_44 rfl rfl (by decide) rfl ?_
  refine b_goto (tgt := 15) C dX7_mostAtOnce_47 (by decide) ?_
  refine b_pm [2, 3, 4, 1, 0] (lv' := [(0, .ref (G.2.2 i0)), (1, .int v1), (2, .int v2), (3, .int y43), (4, .int (v4 + 1))]) rfl ?_
  exact h15 _ _ _ _ hf
set_option maxHeartbeats 4000000 in
set_option maxRecDepth 100000 in
theorem wX7_mostAtOnce_b15 (C : CT p s m args meth c cX7_mostAtOnce 5 RX7 (some (.int)) G (pA G s.heap.size)) {k4 : Int32 → Int32 → Option Int32} {i0 : Nat} {x : xS} {r : Int32} (h4 : ∀ (v1 : Int32) (v2 : Int32), k4 v1 v2 = some r → WB p l e rX7_mostAtOnce s m args below meth c 5 G (pA G s.heap.size) (qI below G (r, x) args s 0 0) 0 0 4 [(0, .ref (G.2.2 i0)), (1, .int v1), (2, .int v2)] [] x) (hk0 : KD G i0 7) : ∀ (n : Nat) (v1 : Int32) (v2 : Int32) (v3 : Int32) (v4 : Int32), fX7_mostAtOnce_b15 k4 i0 x n v1 v2 v3 v4 = some r → WB p l e rX7_mostAtOnce s m args below meth c 5 G (pA G s.heap.size) (qI below G (r, x) args s 0 0) 0 0 15 [(0, .ref (G.2.2 i0)), (1, .int v1), (2, .int v2), (3, .int v3), (4, .int v4)] [] x := by
  intro n
  induction n with
  | zero =>
    intro v1 v2 v3 v4 hf
    cases hf
  | succ n ih =>
    intro v1 v2 v3 v4 hf
    rw [fX7_mostAtOnce_b15] at hf
    refine b_iload C dX7_mostAtOnce_15 4 rfl ?_
    refine b_iconst (v := 4) C dX7_mostAtOnce_17 (by decide) ?_
    refine b_icmp_ge (tgt := 50) C dX7_mostAtOnce_18 (by decide) (fun c18 => ?_) (fun c18 => ?_)
    · have hf := iT c18 hf
      refine b_iload_n C dX7_mostAtOnce_50 rfl 3 rfl ?_
      refine b_iload_n C dX7_mostAtOnce_51 rfl 1 rfl ?_
      refine b_icmp_le (tgt := 59) C dX7_mostAtOnce_52 (by decide) (fun c52 => ?_) (fun c52 => ?_)
      · have hf := iT c52 hf
        refine b_iload_n C dX7_mostAtOnce_59 rfl 1 rfl ?_
        refine b_pm [0, 2] (lv' := [(0, .ref (G.2.2 i0)), (2, .int v2)]) rfl ?_
        exact wX7_mostAtOnce_b60 C h4 hk0 hf
      · have hf := iF c52 hf
        refine b_iload_n C dX7_mostAtOnce_55 rfl 3 rfl ?_
        refine b_goto (tgt := 60) C dX7_mostAtOnce_56 (by decide) ?_
        refine b_pm [0, 2] (lv' := [(0, .ref (G.2.2 i0)), (2, .int v2)]) rfl ?_
        exact wX7_mostAtOnce_b60 C h4 hk0 hf
    · have hf := iF c18 hf
      refine b_iload_n C dX7_mostAtOnce_21 rfl 3 rfl ?_
      refine b_aload_n C dX7_mostAtOnce_22 rfl 0 rfl ?_
      refine gfX7_7 C hk0 dX7_mostAtOnce_23 ?_
      refine b_iload C dX7_mostAtOnce_26 4 rfl ?_
      refine b_iload_n C dX7_mostAtOnce_28 rfl 2 rfl ?_
      obtain ⟨r29, c29, hf⟩ := oB hf
      refine b_callSi (As := [.int v4, .int v2]) (res := (r29, x)) C (metX7_ofBed l G _ _ _ _  c29) gkX7_40 ekX7_40 rfl ⟨rfl, rfl⟩ ⟨Nat.le_of_ble_eq_true rfl, Nat.le_of_ble_eq_true rfl⟩ (by simp [Value.category]) ⟨Nat.zero_le _, Nat.zero_le _⟩ rfl dX7_mostAtOnce_29 ?_
      obtain ⟨g32, hf⟩ := iN hf
      refine b_iald C ((kd7 C.cl hk0).1) g32 dX7_mostAtOnce_32 ?_
      refine b_iconst (v := (-1)) C dX7_mostAtOnce_33 (by decide) ?_
      refine b_icmp_ne (tgt := 41) C dX7_mostAtOnce_34 (by decide) (fun c34 => ?_) (fun c34 => ?_)
      · have hf := iF c34 hf
        refine b_iconst (v := 1) C dX7_mostAtOnce_41 (by decide) ?_
        refine b_pm [0, 1, 2, 4] (lv' := [(0, .ref (G.2.2 i0)), (1, .int v1), (2, .int v2), (4, .int v4)]) rfl ?_
        exact wX7_mostAtOnce_b42 C h4 ih hk0 hf
      · have hf := iT c34 hf
        refine b_iconst (v := 0) C dX7_mostAtOnce_37 (by decide) ?_
        refine b_goto (tgt := 42) C dX7_mostAtOnce_38 (by decide) ?_
        refine b_pm [0, 1, 2, 4] (lv' := [(0, .ref (G.2.2 i0)), (1, .int v1), (2, .int v2), (4, .int v4)]) rfl ?_
        exact wX7_mostAtOnce_b42 C h4 ih hk0 hf
set_option maxHeartbeats 4000000 in
set_option maxRecDepth 100000 in
theorem wX7_mostAtOnce_b4 (C : CT p s m args meth c cX7_mostAtOnce 5 RX7 (some (.int)) G (pA G s.heap.size)) {i0 : Nat} {x : xS} {r : Int32} (hk0 : KD G i0 7) : ∀ (n : Nat) (v1 : Int32) (v2 : Int32), fX7_mostAtOnce_b4 i0 x n v1 v2 = some r → WB p l e rX7_mostAtOnce s m args below meth c 5 G (pA G s.heap.size) (qI below G (r, x) args s 0 0) 0 0 4 [(0, .ref (G.2.2 i0)), (1, .int v1), (2, .int v2)] [] x := by
  intro n
  induction n with
  | zero =>
    intro v1 v2 hf
    cases hf
  | succ n ih =>
    intro v1 v2 hf
    rw [fX7_mostAtOnce_b4] at hf
    refine b_iload_n C dX7_mostAtOnce_4 rfl 2 rfl ?_
    refine b_bipush (v := 12) C dX7_mostAtOnce_5 (by decide) ?_
    refine b_icmp_ge (tgt := 67) C dX7_mostAtOnce_7 (by decide) (fun c7 => ?_) (fun c7 => ?_)
    · have hf := iT c7 hf
      refine b_iload_n C dX7_mostAtOnce_67 rfl 1 rfl ?_
      exact b_ireti C dX7_mostAtOnce_68 (congrArg (Option.map (fun q => (q, x))) hf)
    · have hf := iF c7 hf
      refine b_iconst (v := 0) C dX7_mostAtOnce_10 (by decide) ?_
      refine b_istore_n (lv' := [(3, .int 0), (0, .ref (G.2.2 i0)), (1, .int v1), (2, .int v2)]) C dX7_mostAtOnce_11 rfl (by decide) rfl ?_
      refine b_iconst (v := 0) C dX7_mostAtOnce_12 (by decide) ?_
      refine b_istore (lv' := [(4, .int 0), (3, .int 0), (0, .ref (G.2.2 i0)), (1, .int v1), (2, .int v2)]) C dX7_mostAtOnce_13 (by decide) rfl ?_
      refine b_pm [2, 3, 4, 1, 0] (lv' := [(0, .ref (G.2.2 i0)), (1, .int v1), (2, .int v2), (3, .int 0), (4, .int 0)]) rfl ?_
      exact wX7_mostAtOnce_b15 C ih hk0 FU _ _ _ _ hf
set_option maxHeartbeats 4000000 in
set_option maxRecDepth 100000 in
theorem wX7_mostAtOnce_b0 (C : CT p s m args meth c cX7_mostAtOnce 5 RX7 (some (.int)) G (pA G s.heap.size)) {i0 : Nat} {x : xS}  {r : Int32} (hk0 : KD G i0 7) (hf : fX7_mostAtOnce_b0 i0 x  = some r) : WB p l e rX7_mostAtOnce s m args below meth c 5 G (pA G s.heap.size) (qI below G (r, x) args s 0 0) 0 0 0 [(0, .ref (G.2.2 i0))] [] x := by
  unfold fX7_mostAtOnce_b0 at hf
  refine b_iconst (v := 0) C dX7_mostAtOnce_0 (by decide) ?_
  refine b_istore_n (lv' := [(1, .int 0), (0, .ref (G.2.2 i0))]) C dX7_mostAtOnce_1 rfl (by decide) rfl ?_
  refine b_iconst (v := 0) C dX7_mostAtOnce_2 (by decide) ?_
  refine b_istore_n (lv' := [(2, .int 0), (1, .int 0), (0, .ref (G.2.2 i0))]) C dX7_mostAtOnce_3 rfl (by decide) rfl ?_
  refine b_pm [2, 1, 0] (lv' := [(0, .ref (G.2.2 i0)), (1, .int 0), (2, .int 0)]) rfl ?_
  exact wX7_mostAtOnce_b4 C  hk0 FU _ _ hf
end
theorem metX7_mostAtOnce (l : Launch) (G : gT) (i0 : Nat) (x : xS) (r : Int32) (hk0 : KD G i0 7) (hf : fX7_mostAtOnce i0 x = some r) : cI l yX7_mostAtOnce cX7_mostAtOnce 5 (.int) rX7_mostAtOnce [.ref (G.2.2 i0)] G x (r, x) :=
  b_body (by decide) (Nat.le_of_ble_eq_true rfl) rfl (fun p e s m args below meth c C => wX7_mostAtOnce_b0 C hk0 hf)
-- X7_digestOne
abbrev rX7_digestOne : Room := { frames := 0, cells := 0, slots := 0, locals := 0 }
def fX7_digestOne_b0 (i0 : Nat) (l1 : Int64) (x : xS) : Option xS :=
  lt1 (up2 x i0 15 ((31 * (x.2 i0 15)) + l1)) (fun x11 =>
  some x11)
def fX7_digestOne (i0 : Nat) (l1 : Int64) (x : xS) : Option xS := fX7_digestOne_b0 i0 l1 x
section
variable {p : Program} {l : Launch} {e : Env} {R : Room} {s : State} {m : MethodId} {args : Array Value} {below : List Frame} {meth : Method} {c : Code} {G : gT}
set_option maxHeartbeats 4000000 in
set_option maxRecDepth 100000 in
theorem wX7_digestOne_b0 (C : CT p s m args meth c cX7_digestOne 3 RX7 none G (pA G s.heap.size)) {i0 : Nat} {l1 : Int64} {x : xS} {r : xS} (hk0 : KD G i0 7) (hf : fX7_digestOne_b0 i0 l1 x = some r) : WB p l e rX7_digestOne s m args below meth c 3 G (pA G s.heap.size) (qV below G r args s 0 0) 0 0 0 [(0, .ref (G.2.2 i0)), (1, .long l1)] [] x := by
  unfold fX7_digestOne_b0 at hf
  refine b_aload_n C dX7_digestOne_0 rfl 0 rfl ?_
  refine b_ldc2 C w_437 dX7_digestOne_1 ?_
  refine b_aload_n C dX7_digestOne_4 rfl 0 rfl ?_
  refine gfX7_183 C hk0 dX7_digestOne_5 ?_
  refine b_lmul C dX7_digestOne_8 ?_
  refine b_lload_n C dX7_digestOne_9 rfl 1 rfl ?_
  refine b_ladd C dX7_digestOne_10 ?_
  obtain ⟨x11, e11, hf⟩ := lN1 hf
  refine pfX7_183 C hk0 dX7_digestOne_11 e11 ?_
  exact b_vret C dX7_digestOne_14 hf
end
theorem metX7_digestOne (l : Launch) (G : gT) (i0 : Nat) (l1 : Int64) (x : xS) (r : xS) (hk0 : KD G i0 7) (hf : fX7_digestOne i0 l1 x = some r) : cV l yX7_digestOne cX7_digestOne 3 rX7_digestOne [.ref (G.2.2 i0), .long l1] G x r :=
  b_body (by decide) (Nat.le_of_ble_eq_true rfl) rfl (fun p e s m args below meth c C => wX7_digestOne_b0 C hk0 hf)
-- X7_refusedMost
abbrev rX7_refusedMost : Room := { frames := 1, cells := 0, slots := 0, locals := 21 }
def fX7_refusedMost_b71 (k4 : Int32 → Int32 → Option Int32) (i0 : Nat) (x : xS) (v2 : Int32) (s0 : Int32) : Option Int32 :=
  k4 s0 (v2 + 1)
def fX7_refusedMost_b61 (k4 : Int32 → Int32 → Option Int32) (i0 : Nat) (x : xS) (v1 : Int32) (v2 : Int32) (s0 : Int32) : Option Int32 :=
  (if s0 ≤ 0 then
  fX7_refusedMost_b71 k4 i0 x v2 v1
  else
  fX7_refusedMost_b71 k4 i0 x v2 v2)
def fX7_refusedMost_b4 (i0 : Nat) (x : xS) : Nat → Int32 → Int32 → Option Int32
  | 0, _, _ => none
  | n + 1, v1, v2 => (if (10 : Int32) ≤ v2 then
  some v1
  else
  Option.bind (fX7_of v2 1 x) (fun r16 =>
  (if r16 < 0 ∨ ln (i0 + 1) ≤ r16.toNatClampNeg then none else
  Option.bind (fX7_of v1 1 x) (fun r26 =>
  (if r26 < 0 ∨ ln (i0 + 1) ≤ r26.toNatClampNeg then none else
  lt1 ((x.1 (i0 + 1) r16.toNatClampNeg) - (x.1 (i0 + 1) r26.toNatClampNeg)) (fun y31 => 
  (if y31 = 0 then
  Option.bind (fX7_of v2 0 x) (fun r42 =>
  (if r42 < 0 ∨ ln (i0 + 1) ≤ r42.toNatClampNeg then none else
  Option.bind (fX7_of v1 0 x) (fun r52 =>
  (if r52 < 0 ∨ ln (i0 + 1) ≤ r52.toNatClampNeg then none else
  fX7_refusedMost_b61 (fX7_refusedMost_b4 i0 x n) i0 x v1 v2 ((x.1 (i0 + 1) r42.toNatClampNeg) - (x.1 (i0 + 1) r52.toNatClampNeg))))))
  else
  fX7_refusedMost_b61 (fX7_refusedMost_b4 i0 x n) i0 x v1 v2 y31)))))))
def fX7_refusedMost_b0 (i0 : Nat) (x : xS)  : Option Int32 :=
  fX7_refusedMost_b4 i0 x FU 0 1
def fX7_refusedMost (i0 : Nat) (x : xS) : Option Int32 := fX7_refusedMost_b0 i0 x
section
variable {p : Program} {l : Launch} {e : Env} {R : Room} {s : State} {m : MethodId} {args : Array Value} {below : List Frame} {meth : Method} {c : Code} {G : gT}
set_option maxHeartbeats 4000000 in
set_option maxRecDepth 100000 in
theorem wX7_refusedMost_b71 (C : CT p s m args meth c cX7_refusedMost 4 RX7 (some (.int)) G (pA G s.heap.size)) {k4 : Int32 → Int32 → Option Int32} {i0 : Nat} {x : xS} {v2 : Int32} {s0 : Int32} {r : Int32} (h4 : ∀ (v1 : Int32) (v2 : Int32), k4 v1 v2 = some r → WB p l e rX7_refusedMost s m args below meth c 4 G (pA G s.heap.size) (qI below G (r, x) args s 0 0) 0 0 4 [(0, .ref (G.2.2 i0)), (1, .int v1), (2, .int v2)] [] x) (hk0 : KD G i0 7) (hf : fX7_refusedMost_b71 k4 i0 x v2 s0 = some r) : WB p l e rX7_refusedMost s m args below meth c 4 G (pA G s.heap.size) (qI below G (r, x) args s 0 0) 0 0 71 [(0, .ref (G.2.2 i0)), (2, .int v2)] [.int s0] x := by
  unfold fX7_refusedMost_b71 at hf
  refine b_istore_n (lv' := [(1, .int s0), (0, .ref (G.2.2 i0)), (2, .int v2)]) C dX7_refusedMost_71 rfl (by decide) rfl ?_
  refine b_iinc (q := 2) (v' := (v2 + 1)) (lv' := [(2, .int (v2 + 1)), (1, .int s0), (0, .ref (G.2.2 i0))]) C dX7_refusedMost_72 rfl rfl (by decide) rfl ?_
  refine b_goto (tgt := 4) C dX7_refusedMost_75 (by decide) ?_
  refine b_pm [2, 1, 0] (lv' := [(0, .ref (G.2.2 i0)), (1, .int s0), (2, .int (v2 + 1))]) rfl ?_
  exact h4 _ _ hf
set_option maxHeartbeats 4000000 in
set_option maxRecDepth 100000 in
theorem wX7_refusedMost_b61 (C : CT p s m args meth c cX7_refusedMost 4 RX7 (some (.int)) G (pA G s.heap.size)) {k4 : Int32 → Int32 → Option Int32} {i0 : Nat} {x : xS} {v1 : Int32} {v2 : Int32} {s0 : Int32} {r : Int32} (h4 : ∀ (v1 : Int32) (v2 : Int32), k4 v1 v2 = some r → WB p l e rX7_refusedMost s m args below meth c 4 G (pA G s.heap.size) (qI below G (r, x) args s 0 0) 0 0 4 [(0, .ref (G.2.2 i0)), (1, .int v1), (2, .int v2)] [] x) (hk0 : KD G i0 7) (hf : fX7_refusedMost_b61 k4 i0 x v1 v2 s0 = some r) : WB p l e rX7_refusedMost s m args below meth c 4 G (pA G s.heap.size) (qI below G (r, x) args s 0 0) 0 0 61 [(0, .ref (G.2.2 i0)), (1, .int v1), (2, .int v2)] [.int s0] x := by
  unfold fX7_refusedMost_b61 at hf
  refine b_istore_n (lv' := [(3, .int s0), (0, .ref (G.2.2 i0)), (1, .int v1), (2, .int v2)]) C dX7_refusedMost_61 rfl (by decide) rfl ?_
  refine b_iload_n C dX7_refusedMost_62 rfl 0 rfl ?_
  refine b_if_le (tgt := 70) C dX7_refusedMost_63 (by decide) (fun c63 => ?_) (fun c63 => ?_)
  · have hf := iT c63 hf
    refine b_iload_n C dX7_refusedMost_70 rfl 2 rfl ?_
    refine b_pm [1, 3] (lv' := [(0, .ref (G.2.2 i0)), (2, .int v2)]) rfl ?_
    exact wX7_refusedMost_b71 C h4 hk0 hf
  · have hf := iF c63 hf
    refine b_iload_n C dX7_refusedMost_66 rfl 3 rfl ?_
    refine b_goto (tgt := 71) C dX7_refusedMost_67 (by decide) ?_
    refine b_pm [1, 3] (lv' := [(0, .ref (G.2.2 i0)), (2, .int v2)]) rfl ?_
    exact wX7_refusedMost_b71 C h4 hk0 hf
set_option maxHeartbeats 4000000 in
set_option maxRecDepth 100000 in
theorem wX7_refusedMost_b4 (C : CT p s m args meth c cX7_refusedMost 4 RX7 (some (.int)) G (pA G s.heap.size)) {i0 : Nat} {x : xS} {r : Int32} (hk0 : KD G i0 7) : ∀ (n : Nat) (v1 : Int32) (v2 : Int32), fX7_refusedMost_b4 i0 x n v1 v2 = some r → WB p l e rX7_refusedMost s m args below meth c 4 G (pA G s.heap.size) (qI below G (r, x) args s 0 0) 0 0 4 [(0, .ref (G.2.2 i0)), (1, .int v1), (2, .int v2)] [] x := by
  intro n
  induction n with
  | zero =>
    intro v1 v2 hf
    cases hf
  | succ n ih =>
    intro v1 v2 hf
    rw [fX7_refusedMost_b4] at hf
    refine b_iload_n C dX7_refusedMost_4 rfl 2 rfl ?_
    refine b_bipush (v := 10) C dX7_refusedMost_5 (by decide) ?_
    refine b_icmp_ge (tgt := 78) C dX7_refusedMost_7 (by decide) (fun c7 => ?_) (fun c7 => ?_)
    · have hf := iT c7 hf
      refine b_iload_n C dX7_refusedMost_78 rfl 1 rfl ?_
      exact b_ireti C dX7_refusedMost_79 (congrArg (Option.map (fun q => (q, x))) hf)
    · have hf := iF c7 hf
      refine b_aload_n C dX7_refusedMost_10 rfl 0 rfl ?_
      refine gfX7_7 C hk0 dX7_refusedMost_11 ?_
      refine b_iload_n C dX7_refusedMost_14 rfl 2 rfl ?_
      refine b_iconst (v := 1) C dX7_refusedMost_15 (by decide) ?_
      obtain ⟨r16, c16, hf⟩ := oB hf
      refine b_callSi (As := [.int v2, .int 1]) (res := (r16, x)) C (metX7_of l G _ _ _ _  c16) gkX7_25 ekX7_25 rfl ⟨rfl, rfl⟩ ⟨Nat.le_of_ble_eq_true rfl, Nat.le_of_ble_eq_true rfl⟩ (by simp [Value.category]) ⟨Nat.zero_le _, Nat.zero_le _⟩ rfl dX7_refusedMost_16 ?_
      obtain ⟨g19, hf⟩ := iN hf
      refine b_iald C ((kd7 C.cl hk0).1) g19 dX7_refusedMost_19 ?_
      refine b_aload_n C dX7_refusedMost_20 rfl 0 rfl ?_
      refine gfX7_7 C hk0 dX7_refusedMost_21 ?_
      refine b_iload_n C dX7_refusedMost_24 rfl 1 rfl ?_
      refine b_iconst (v := 1) C dX7_refusedMost_25 (by decide) ?_
      obtain ⟨r26, c26, hf⟩ := oB hf
      refine b_callSi (As := [.int v1, .int 1]) (res := (r26, x)) C (metX7_of l G _ _ _ _  c26) gkX7_25 ekX7_25 rfl ⟨rfl, rfl⟩ ⟨Nat.le_of_ble_eq_true rfl, Nat.le_of_ble_eq_true rfl⟩ (by simp [Value.category]) ⟨Nat.zero_le _, Nat.zero_le _⟩ rfl dX7_refusedMost_26 ?_
      obtain ⟨g29, hf⟩ := iN hf
      refine b_iald C ((kd7 C.cl hk0).1) g29 dX7_refusedMost_29 ?_
      refine b_isub C dX7_refusedMost_30 ?_
      obtain ⟨y31, e31, hf⟩ := lN1 hf
      rw [e31]
      refine b_istore_n (lv' := [(3, .int y31), (0, .ref (G.2.2 i0)), (1, .int v1), (2, .int v2)]) C dX7_refusedMost_31 rfl (by decide) rfl ?_
      refine b_iload_n C dX7_refusedMost_32 rfl 0 rfl ?_
      refine b_if_ne (tgt := 60) C dX7_refusedMost_33 (by decide) (fun c33 => ?_) (fun c33 => ?_)
      · have hf := iF c33 hf
        refine b_iload_n C dX7_refusedMost_60 rfl 0 rfl ?_
        refine b_pm [1, 2, 3] (lv' := [(0, .ref (G.2.2 i0)), (1, .int v1), (2, .int v2)]) rfl ?_
        exact wX7_refusedMost_b61 C ih hk0 hf
      · have hf := iT c33 hf
        refine b_aload_n C dX7_refusedMost_36 rfl 1 rfl ?_
        refine gfX7_7 C hk0 dX7_refusedMost_37 ?_
        refine b_iload_n C dX7_refusedMost_40 rfl 3 rfl ?_
        refine b_iconst (v := 0) C dX7_refusedMost_41 (by decide) ?_
        obtain ⟨r42, c42, hf⟩ := oB hf
        refine b_callSi (As := [.int v2, .int 0]) (res := (r42, x)) C (metX7_of l G _ _ _ _  c42) gkX7_25 ekX7_25 rfl ⟨rfl, rfl⟩ ⟨Nat.le_of_ble_eq_true rfl, Nat.le_of_ble_eq_true rfl⟩ (by simp [Value.category]) ⟨Nat.zero_le _, Nat.zero_le _⟩ rfl dX7_refusedMost_42 ?_
        obtain ⟨g45, hf⟩ := iN hf
        refine b_iald C ((kd7 C.cl hk0).1) g45 dX7_refusedMost_45 ?_
        refine b_aload_n C dX7_refusedMost_46 rfl 1 rfl ?_
        refine gfX7_7 C hk0 dX7_refusedMost_47 ?_
        refine b_iload_n C dX7_refusedMost_50 rfl 2 rfl ?_
        refine b_iconst (v := 0) C dX7_refusedMost_51 (by decide) ?_
        obtain ⟨r52, c52, hf⟩ := oB hf
        refine b_callSi (As := [.int v1, .int 0]) (res := (r52, x)) C (metX7_of l G _ _ _ _  c52) gkX7_25 ekX7_25 rfl ⟨rfl, rfl⟩ ⟨Nat.le_of_ble_eq_true rfl, Nat.le_of_ble_eq_true rfl⟩ (by simp [Value.category]) ⟨Nat.zero_le _, Nat.zero_le _⟩ rfl dX7_refusedMost_52 ?_
        obtain ⟨g55, hf⟩ := iN hf
        refine b_iald C ((kd7 C.cl hk0).1) g55 dX7_refusedMost_55 ?_
        refine b_isub C dX7_refusedMost_56 ?_
        refine b_goto (tgt := 61) C dX7_refusedMost_57 (by decide) ?_
        refine b_pm [1, 2, 3] (lv' := [(0, .ref (G.2.2 i0)), (1, .int v1), (2, .int v2)]) rfl ?_
        exact wX7_refusedMost_b61 C ih hk0 hf
set_option maxHeartbeats 4000000 in
set_option maxRecDepth 100000 in
theorem wX7_refusedMost_b0 (C : CT p s m args meth c cX7_refusedMost 4 RX7 (some (.int)) G (pA G s.heap.size)) {i0 : Nat} {x : xS}  {r : Int32} (hk0 : KD G i0 7) (hf : fX7_refusedMost_b0 i0 x  = some r) : WB p l e rX7_refusedMost s m args below meth c 4 G (pA G s.heap.size) (qI below G (r, x) args s 0 0) 0 0 0 [(0, .ref (G.2.2 i0))] [] x := by
  unfold fX7_refusedMost_b0 at hf
  refine b_iconst (v := 0) C dX7_refusedMost_0 (by decide) ?_
  refine b_istore_n (lv' := [(1, .int 0), (0, .ref (G.2.2 i0))]) C dX7_refusedMost_1 rfl (by decide) rfl ?_
  refine b_iconst (v := 1) C dX7_refusedMost_2 (by decide) ?_
  refine b_istore_n (lv' := [(2, .int 1), (1, .int 0), (0, .ref (G.2.2 i0))]) C dX7_refusedMost_3 rfl (by decide) rfl ?_
  refine b_pm [2, 1, 0] (lv' := [(0, .ref (G.2.2 i0)), (1, .int 0), (2, .int 1)]) rfl ?_
  exact wX7_refusedMost_b4 C  hk0 FU _ _ hf
end
theorem metX7_refusedMost (l : Launch) (G : gT) (i0 : Nat) (x : xS) (r : Int32) (hk0 : KD G i0 7) (hf : fX7_refusedMost i0 x = some r) : cI l yX7_refusedMost cX7_refusedMost 4 (.int) rX7_refusedMost [.ref (G.2.2 i0)] G x (r, x) :=
  b_body (by decide) (Nat.le_of_ble_eq_true rfl) rfl (fun p e s m args below meth c C => wX7_refusedMost_b0 C hk0 hf)
-- X7_share
abbrev rX7_share : Room := { frames := 1, cells := 0, slots := 0, locals := 22 }
def fX7_share_b0 (i0 : Nat) (x : xS)  : Option UInt64 :=
  Option.bind (fX7_lent i0 x) (fun r1 =>
  (if (FP.ddiv (FP.i2d r1) (4631952216750555136 : UInt64)) &&& 0x7fffffffffffffff ≤ (0x7ff0000000000000 : UInt64) then
  some (FP.ddiv (FP.i2d r1) (4631952216750555136 : UInt64)) else none))
def fX7_share (i0 : Nat) (x : xS) : Option UInt64 := fX7_share_b0 i0 x
section
variable {p : Program} {l : Launch} {e : Env} {R : Room} {s : State} {m : MethodId} {args : Array Value} {below : List Frame} {meth : Method} {c : Code} {G : gT}
set_option maxHeartbeats 4000000 in
set_option maxRecDepth 100000 in
theorem wX7_share_b0 (C : CT p s m args meth c cX7_share 1 RX7 (some (.double)) G (pA G s.heap.size)) {i0 : Nat} {x : xS}  {r : UInt64} (hk0 : KD G i0 7) (hf : fX7_share_b0 i0 x  = some r) : WB p l e rX7_share s m args below meth c 1 G (pA G s.heap.size) (qD below G (r, x) args s 0 0) 0 0 0 [(0, .ref (G.2.2 i0))] [] x := by
  unfold fX7_share_b0 at hf
  refine b_aload_n C dX7_share_0 rfl 0 rfl ?_
  obtain ⟨r1, c1, hf⟩ := oB hf
  refine b_callVi (K := 7) (As := []) (res := (r1, x)) C (metX7_lent l G _ _ _ hk0 c1) hk0 (by decide) rfl gkX7_139 ekX7_139 rfl ⟨rfl, rfl⟩ ⟨Nat.le_of_ble_eq_true rfl, Nat.le_of_ble_eq_true rfl⟩ (by simp [Value.category]) ⟨Nat.zero_le _, Nat.zero_le _⟩ rfl dX7_share_1 ?_
  refine b_i2d C dX7_share_4 ?_
  refine b_ldc2d C w_446 dX7_share_5 ?_
  obtain ⟨g8, hf⟩ := iP hf
  refine b_ddiv C dX7_share_8 g8 ?_
  exact b_dret C dX7_share_9 (congrArg (Option.map (fun q => (q, x))) hf)
end
theorem metX7_share (l : Launch) (G : gT) (i0 : Nat) (x : xS) (r : UInt64) (hk0 : KD G i0 7) (hf : fX7_share i0 x = some r) : cD l yX7_share cX7_share 1 rX7_share [.ref (G.2.2 i0)] G x (r, x) :=
  b_body (by decide) (Nat.le_of_ble_eq_true rfl) rfl (fun p e s m args below meth c C => wX7_share_b0 C hk0 hf)
-- X7_longestFor
abbrev rX7_longestFor : Room := { frames := 3, cells := 0, slots := 0, locals := 70 }
def fX7_longestFor_b85 (i0 : Nat) (x : xS) (v3 : Int32) : Option Int32 :=
  some v3
def fX7_longestFor_b78 (k5 : Int32 → Int32 → Option Int32) (i0 : Nat) (v1 : Int32) (v2 : Int32) (x : xS) (v4 : Int32) (s0 : Int32) : Option Int32 :=
  k5 s0 (v4 + 1)
def fX7_longestFor_b65 (k5 : Int32 → Int32 → Option Int32) (i0 : Nat) (v1 : Int32) (v2 : Int32) (x : xS) (v3 : Int32) (v4 : Int32) (s0 : Int32) : Option Int32 :=
  (if s0 = 0 then
  fX7_longestFor_b78 k5 i0 v1 v2 x v4 v3
  else
  fX7_longestFor_b78 k5 i0 v1 v2 x v4 v4)
def fX7_longestFor_b64 (k5 : Int32 → Int32 → Option Int32) (i0 : Nat) (v1 : Int32) (v2 : Int32) (x : xS) (v3 : Int32) (v4 : Int32) : Option Int32 :=
  fX7_longestFor_b65 k5 i0 v1 v2 x v3 v4 0
def fX7_longestFor_b5 (i0 : Nat) (v1 : Int32) (v2 : Int32) (x : xS) : Nat → Int32 → Int32 → Option Int32
  | 0, _, _ => none
  | n + 1, v3, v4 => (if (9 : Int32) < v4 then
  fX7_longestFor_b85 i0 x v3
  else
  (if (12 : Int32) < (v2 + v4) then
  fX7_longestFor_b85 i0 x v3
  else
  (if (108 : Int32) < 0 ∨ ln (i0 + 1) ≤ (108 : Int32).toNatClampNeg then none else
  (if v2 < (x.1 (i0 + 1) (108 : Int32).toNatClampNeg) then
  fX7_longestFor_b85 i0 x v3
  else
  Option.bind (fX7_hasBed i0 v1 v2 v4 x) (fun r37 =>
  (if r37 = 0 then
  Option.bind (fX7_emptiest i0 v2 v4 x) (fun r48 =>
  Option.bind (fX7_lentIn i0 r48 v2 v4 x) (fun r54 =>
  (if r54 = 0 then
  fX7_longestFor_b65 (fX7_longestFor_b5 i0 v1 v2 x n) i0 v1 v2 x v3 v4 1
  else
  fX7_longestFor_b64 (fX7_longestFor_b5 i0 v1 v2 x n) i0 v1 v2 x v3 v4)))
  else
  fX7_longestFor_b64 (fX7_longestFor_b5 i0 v1 v2 x n) i0 v1 v2 x v3 v4))))))
def fX7_longestFor_b0 (i0 : Nat) (v1 : Int32) (v2 : Int32) (x : xS)  : Option Int32 :=
  fX7_longestFor_b5 i0 v1 v2 x FU 0 1
def fX7_longestFor (i0 : Nat) (v1 : Int32) (v2 : Int32) (x : xS) : Option Int32 := fX7_longestFor_b0 i0 v1 v2 x
section
variable {p : Program} {l : Launch} {e : Env} {R : Room} {s : State} {m : MethodId} {args : Array Value} {below : List Frame} {meth : Method} {c : Code} {G : gT}
set_option maxHeartbeats 4000000 in
set_option maxRecDepth 100000 in
theorem wX7_longestFor_b85 (C : CT p s m args meth c cX7_longestFor 6 RX7 (some (.int)) G (pA G s.heap.size)) {i0 : Nat} {x : xS} {v3 : Int32} {r : Int32} (hk0 : KD G i0 7) (hf : fX7_longestFor_b85 i0 x v3 = some r) : WB p l e rX7_longestFor s m args below meth c 6 G (pA G s.heap.size) (qI below G (r, x) args s 0 0) 0 0 85 [(0, .ref (G.2.2 i0)), (3, .int v3)] [] x := by
  unfold fX7_longestFor_b85 at hf
  refine b_iload_n C dX7_longestFor_85 rfl 1 rfl ?_
  exact b_ireti C dX7_longestFor_86 (congrArg (Option.map (fun q => (q, x))) hf)
set_option maxHeartbeats 4000000 in
set_option maxRecDepth 100000 in
theorem wX7_longestFor_b78 (C : CT p s m args meth c cX7_longestFor 6 RX7 (some (.int)) G (pA G s.heap.size)) {k5 : Int32 → Int32 → Option Int32} {i0 : Nat} {v1 : Int32} {v2 : Int32} {x : xS} {v4 : Int32} {s0 : Int32} {r : Int32} (h5 : ∀ (v3 : Int32) (v4 : Int32), k5 v3 v4 = some r → WB p l e rX7_longestFor s m args below meth c 6 G (pA G s.heap.size) (qI below G (r, x) args s 0 0) 0 0 5 [(0, .ref (G.2.2 i0)), (1, .int v1), (2, .int v2), (3, .int v3), (4, .int v4)] [] x) (hk0 : KD G i0 7) (hf : fX7_longestFor_b78 k5 i0 v1 v2 x v4 s0 = some r) : WB p l e rX7_longestFor s m args below meth c 6 G (pA G s.heap.size) (qI below G (r, x) args s 0 0) 0 0 78 [(0, .ref (G.2.2 i0)), (1, .int v1), (2, .int v2), (4, .int v4)] [.int s0] x := by
  unfold fX7_longestFor_b78 at hf
  refine b_istore_n (lv' := [(3, .int s0), (0, .ref (G.2.2 i0)), (1, .int v1), (2, .int v2), (4, .int v4)]) C dX7_longestFor_78 rfl (by decide) rfl ?_
  refine b_iinc (q := 4) (v' := (v4 + 1)) (lv' := [(4, .int (v4 + 1)), (3, .int s0), (0, .ref (G.2.2 i0)), (1, .int v1), (2, .int v2)]) C dX7_longestFor_79 rfl rfl (by decide) rfl ?_
  refine b_goto (tgt := 5) C dX7_longestFor_82 (by decide) ?_
  refine b_pm [2, 3, 4, 1, 0] (lv' := [(0, .ref (G.2.2 i0)), (1, .int v1), (2, .int v2), (3, .int s0), (4, .int (v4 + 1))]) rfl ?_
  exact h5 _ _ hf
set_option maxHeartbeats 4000000 in
set_option maxRecDepth 100000 in
theorem wX7_longestFor_b65 (C : CT p s m args meth c cX7_longestFor 6 RX7 (some (.int)) G (pA G s.heap.size)) {k5 : Int32 → Int32 → Option Int32} {i0 : Nat} {v1 : Int32} {v2 : Int32} {x : xS} {v3 : Int32} {v4 : Int32} {s0 : Int32} {r : Int32} (h5 : ∀ (v3 : Int32) (v4 : Int32), k5 v3 v4 = some r → WB p l e rX7_longestFor s m args below meth c 6 G (pA G s.heap.size) (qI below G (r, x) args s 0 0) 0 0 5 [(0, .ref (G.2.2 i0)), (1, .int v1), (2, .int v2), (3, .int v3), (4, .int v4)] [] x) (hk0 : KD G i0 7) (hf : fX7_longestFor_b65 k5 i0 v1 v2 x v3 v4 s0 = some r) : WB p l e rX7_longestFor s m args below meth c 6 G (pA G s.heap.size) (qI below G (r, x) args s 0 0) 0 0 65 [(0, .ref (G.2.2 i0)), (1, .int v1), (2, .int v2), (3, .int v3), (4, .int v4)] [.int s0] x := by
  unfold fX7_longestFor_b65 at hf
  refine b_istore (lv' := [(5, .int s0), (0, .ref (G.2.2 i0)), (1, .int v1), (2, .int v2), (3, .int v3), (4, .int v4)]) C dX7_longestFor_65 (by decide) rfl ?_
  refine b_iload C dX7_longestFor_67 0 rfl ?_
  refine b_if_eq (tgt := 77) C dX7_longestFor_69 (by decide) (fun c69 => ?_) (fun c69 => ?_)
  · have hf := iT c69 hf
    refine b_iload_n C dX7_longestFor_77 rfl 4 rfl ?_
    refine b_pm [1, 2, 3, 5] (lv' := [(0, .ref (G.2.2 i0)), (1, .int v1), (2, .int v2), (4, .int v4)]) rfl ?_
    exact wX7_longestFor_b78 C h5 hk0 hf
  · have hf := iF c69 hf
    refine b_iload C dX7_longestFor_72 5 rfl ?_
    refine b_goto (tgt := 78) C dX7_longestFor_74 (by decide) ?_
    refine b_pm [1, 2, 3, 5] (lv' := [(0, .ref (G.2.2 i0)), (1, .int v1), (2, .int v2), (4, .int v4)]) rfl ?_
    exact wX7_longestFor_b78 C h5 hk0 hf
set_option maxHeartbeats 4000000 in
set_option maxRecDepth 100000 in
theorem wX7_longestFor_b64 (C : CT p s m args meth c cX7_longestFor 6 RX7 (some (.int)) G (pA G s.heap.size)) {k5 : Int32 → Int32 → Option Int32} {i0 : Nat} {v1 : Int32} {v2 : Int32} {x : xS} {v3 : Int32} {v4 : Int32} {r : Int32} (h5 : ∀ (v3 : Int32) (v4 : Int32), k5 v3 v4 = some r → WB p l e rX7_longestFor s m args below meth c 6 G (pA G s.heap.size) (qI below G (r, x) args s 0 0) 0 0 5 [(0, .ref (G.2.2 i0)), (1, .int v1), (2, .int v2), (3, .int v3), (4, .int v4)] [] x) (hk0 : KD G i0 7) (hf : fX7_longestFor_b64 k5 i0 v1 v2 x v3 v4 = some r) : WB p l e rX7_longestFor s m args below meth c 6 G (pA G s.heap.size) (qI below G (r, x) args s 0 0) 0 0 64 [(0, .ref (G.2.2 i0)), (1, .int v1), (2, .int v2), (3, .int v3), (4, .int v4)] [] x := by
  unfold fX7_longestFor_b64 at hf
  refine b_iconst (v := 0) C dX7_longestFor_64 (by decide) ?_
  exact wX7_longestFor_b65 C h5 hk0 hf
set_option maxHeartbeats 4000000 in
set_option maxRecDepth 100000 in
theorem wX7_longestFor_b5 (C : CT p s m args meth c cX7_longestFor 6 RX7 (some (.int)) G (pA G s.heap.size)) {i0 : Nat} {v1 : Int32} {v2 : Int32} {x : xS} {r : Int32} (hk0 : KD G i0 7) : ∀ (n : Nat) (v3 : Int32) (v4 : Int32), fX7_longestFor_b5 i0 v1 v2 x n v3 v4 = some r → WB p l e rX7_longestFor s m args below meth c 6 G (pA G s.heap.size) (qI below G (r, x) args s 0 0) 0 0 5 [(0, .ref (G.2.2 i0)), (1, .int v1), (2, .int v2), (3, .int v3), (4, .int v4)] [] x := by
  intro n
  induction n with
  | zero =>
    intro v3 v4 hf
    cases hf
  | succ n ih =>
    intro v3 v4 hf
    rw [fX7_longestFor_b5] at hf
    refine b_iload C dX7_longestFor_5 4 rfl ?_
    refine b_bipush (v := 9) C dX7_longestFor_7 (by decide) ?_
    refine b_icmp_gt (tgt := 85) C dX7_longestFor_9 (by decide) (fun c9 => ?_) (fun c9 => ?_)
    · have hf := iT c9 hf
      refine b_pm [0, 3] (lv' := [(0, .ref (G.2.2 i0)), (3, .int v3)]) rfl ?_
      exact wX7_longestFor_b85 C  hk0 hf
    · have hf := iF c9 hf
      refine b_iload_n C dX7_longestFor_12 rfl 2 rfl ?_
      refine b_iload C dX7_longestFor_13 4 rfl ?_
      refine b_iadd C dX7_longestFor_15 ?_
      refine b_bipush (v := 12) C dX7_longestFor_16 (by decide) ?_
      refine b_icmp_gt (tgt := 85) C dX7_longestFor_18 (by decide) (fun c18 => ?_) (fun c18 => ?_)
      · have hf := iT c18 hf
        refine b_pm [0, 3] (lv' := [(0, .ref (G.2.2 i0)), (3, .int v3)]) rfl ?_
        exact wX7_longestFor_b85 C  hk0 hf
      · have hf := iF c18 hf
        refine b_iload_n C dX7_longestFor_21 rfl 2 rfl ?_
        refine b_aload_n C dX7_longestFor_22 rfl 0 rfl ?_
        refine gfX7_7 C hk0 dX7_longestFor_23 ?_
        refine b_bipush (v := 108) C dX7_longestFor_26 (by decide) ?_
        obtain ⟨g28, hf⟩ := iN hf
        refine b_iald C ((kd7 C.cl hk0).1) g28 dX7_longestFor_28 ?_
        refine b_icmp_lt (tgt := 85) C dX7_longestFor_29 (by decide) (fun c29 => ?_) (fun c29 => ?_)
        · have hf := iT c29 hf
          refine b_pm [0, 3] (lv' := [(0, .ref (G.2.2 i0)), (3, .int v3)]) rfl ?_
          exact wX7_longestFor_b85 C  hk0 hf
        · have hf := iF c29 hf
          refine b_aload_n C dX7_longestFor_32 rfl 0 rfl ?_
          refine b_iload_n C dX7_longestFor_33 rfl 1 rfl ?_
          refine b_iload_n C dX7_longestFor_34 rfl 2 rfl ?_
          refine b_iload C dX7_longestFor_35 4 rfl ?_
          obtain ⟨r37, c37, hf⟩ := oB hf
          refine b_callVi (K := 7) (As := [.int v1, .int v2, .int v4]) (res := (r37, x)) C (metX7_hasBed l G _ _ _ _ _ _ hk0 c37) hk0 (by decide) rfl gkX7_50 ekX7_50 rfl ⟨rfl, rfl⟩ ⟨Nat.le_of_ble_eq_true rfl, Nat.le_of_ble_eq_true rfl⟩ (by simp [Value.category]) ⟨Nat.zero_le _, Nat.zero_le _⟩ rfl dX7_longestFor_37 ?_
          refine b_if_ne (tgt := 64) C dX7_longestFor_40 (by decide) (fun c40 => ?_) (fun c40 => ?_)
          · have hf := iF c40 hf
            exact wX7_longestFor_b64 C ih hk0 hf
          · have hf := iT c40 hf
            refine b_aload_n C dX7_longestFor_43 rfl 0 rfl ?_
            refine b_aload_n C dX7_longestFor_44 rfl 0 rfl ?_
            refine b_iload_n C dX7_longestFor_45 rfl 2 rfl ?_
            refine b_iload C dX7_longestFor_46 4 rfl ?_
            obtain ⟨r48, c48, hf⟩ := oB hf
            refine b_callVi (K := 7) (As := [.int v2, .int v4]) (res := (r48, x)) C (metX7_emptiest l G _ _ _ _ _ hk0 c48) hk0 (by decide) rfl gkX7_53 ekX7_53 rfl ⟨rfl, rfl⟩ ⟨Nat.le_of_ble_eq_true rfl, Nat.le_of_ble_eq_true rfl⟩ (by simp [Value.category]) ⟨Nat.zero_le _, Nat.zero_le _⟩ rfl dX7_longestFor_48 ?_
            refine b_iload_n C dX7_longestFor_51 rfl 2 rfl ?_
            refine b_iload C dX7_longestFor_52 4 rfl ?_
            obtain ⟨r54, c54, hf⟩ := oB hf
            refine b_callVi (K := 7) (As := [.int r48, .int v2, .int v4]) (res := (r54, x)) C (metX7_lentIn l G _ _ _ _ _ _ hk0 c54) hk0 (by decide) rfl gkX7_43 ekX7_43 rfl ⟨rfl, rfl⟩ ⟨Nat.le_of_ble_eq_true rfl, Nat.le_of_ble_eq_true rfl⟩ (by simp [Value.category]) ⟨Nat.zero_le _, Nat.zero_le _⟩ rfl dX7_longestFor_54 ?_
            refine b_if_ne (tgt := 64) C dX7_longestFor_57 (by decide) (fun c57 => ?_) (fun c57 => ?_)
            · have hf := iF c57 hf
              exact wX7_longestFor_b64 C ih hk0 hf
            · have hf := iT c57 hf
              refine b_iconst (v := 1) C dX7_longestFor_60 (by decide) ?_
              refine b_goto (tgt := 65) C dX7_longestFor_61 (by decide) ?_
              exact wX7_longestFor_b65 C ih hk0 hf
set_option maxHeartbeats 4000000 in
set_option maxRecDepth 100000 in
theorem wX7_longestFor_b0 (C : CT p s m args meth c cX7_longestFor 6 RX7 (some (.int)) G (pA G s.heap.size)) {i0 : Nat} {v1 : Int32} {v2 : Int32} {x : xS}  {r : Int32} (hk0 : KD G i0 7) (hf : fX7_longestFor_b0 i0 v1 v2 x  = some r) : WB p l e rX7_longestFor s m args below meth c 6 G (pA G s.heap.size) (qI below G (r, x) args s 0 0) 0 0 0 [(0, .ref (G.2.2 i0)), (1, .int v1), (2, .int v2)] [] x := by
  unfold fX7_longestFor_b0 at hf
  refine b_iconst (v := 0) C dX7_longestFor_0 (by decide) ?_
  refine b_istore_n (lv' := [(3, .int 0), (0, .ref (G.2.2 i0)), (1, .int v1), (2, .int v2)]) C dX7_longestFor_1 rfl (by decide) rfl ?_
  refine b_iconst (v := 1) C dX7_longestFor_2 (by decide) ?_
  refine b_istore (lv' := [(4, .int 1), (3, .int 0), (0, .ref (G.2.2 i0)), (1, .int v1), (2, .int v2)]) C dX7_longestFor_3 (by decide) rfl ?_
  refine b_pm [2, 3, 4, 1, 0] (lv' := [(0, .ref (G.2.2 i0)), (1, .int v1), (2, .int v2), (3, .int 0), (4, .int 1)]) rfl ?_
  exact wX7_longestFor_b5 C  hk0 FU _ _ hf
end
theorem metX7_longestFor (l : Launch) (G : gT) (i0 : Nat) (v1 : Int32) (v2 : Int32) (x : xS) (r : Int32) (hk0 : KD G i0 7) (hf : fX7_longestFor i0 v1 v2 x = some r) : cI l yX7_longestFor cX7_longestFor 6 (.int) rX7_longestFor [.ref (G.2.2 i0), .int v1, .int v2] G x (r, x) :=
  b_body (by decide) (Nat.le_of_ble_eq_true rfl) rfl (fun p e s m args below meth c C => wX7_longestFor_b0 C hk0 hf)
-- X7_would
abbrev rX7_would : Room := { frames := 5, cells := 0, slots := 0, locals := 121 }
def fX7_would_b42 (i0 : Nat) : Nat → Int32 → Int32 → xS → Option (Int32 × xS)
  | 0, _, _, _ => none
  | n + 1, v4, v5, x => (if (120 : Int32) ≤ v5 then
  some (v4, x)
  else
  (if v5 < 0 ∨ ln (i0 + 2) ≤ v5.toNatClampNeg then none else
  (if v5 < 0 ∨ ln (i0 + 1) ≤ v5.toNatClampNeg then none else
  lt1 (up1 x (i0 + 1) v5.toNatClampNeg (x.1 (i0 + 2) v5.toNatClampNeg)) (fun x62 =>
  fX7_would_b42 i0 n v4 (v5 + 1) x62))))
def fX7_would_b3 (i0 : Nat) (v1 : Int32) (v2 : Int32) (v3 : Int32) : Nat → Int32 → xS → Option (Int32 × xS)
  | 0, _, _ => none
  | n + 1, v4, x => (if (120 : Int32) ≤ v4 then
  Option.bind (fX7_asks i0 v1 v2 v3 x) (fun r34 =>
  fX7_would_b42 i0 FU r34.1 0 r34.2)
  else
  (if v4 < 0 ∨ ln (i0 + 1) ≤ v4.toNatClampNeg then none else
  (if v4 < 0 ∨ ln (i0 + 2) ≤ v4.toNatClampNeg then none else
  lt1 (up1 x (i0 + 2) v4.toNatClampNeg (x.1 (i0 + 1) v4.toNatClampNeg)) (fun x23 =>
  fX7_would_b3 i0 v1 v2 v3 n (v4 + 1) x23))))
def fX7_would_b0 (i0 : Nat) (v1 : Int32) (v2 : Int32) (v3 : Int32) (x : xS) : Option (Int32 × xS) :=
  fX7_would_b3 i0 v1 v2 v3 FU 0 x
def fX7_would (i0 : Nat) (v1 : Int32) (v2 : Int32) (v3 : Int32) (x : xS) : Option (Int32 × xS) := fX7_would_b0 i0 v1 v2 v3 x
section
variable {p : Program} {l : Launch} {e : Env} {R : Room} {s : State} {m : MethodId} {args : Array Value} {below : List Frame} {meth : Method} {c : Code} {G : gT}
set_option maxHeartbeats 4000000 in
set_option maxRecDepth 100000 in
theorem wX7_would_b42 (C : CT p s m args meth c cX7_would 6 RX7 (some (.int)) G (pA G s.heap.size)) {i0 : Nat} {r : (Int32 × xS)} (hk0 : KD G i0 7) : ∀ (n : Nat) (v4 : Int32) (v5 : Int32) (x : xS), fX7_would_b42 i0 n v4 v5 x = some r → WB p l e rX7_would s m args below meth c 6 G (pA G s.heap.size) (qI below G r args s 0 0) 0 0 42 [(0, .ref (G.2.2 i0)), (4, .int v4), (5, .int v5)] [] x := by
  intro n
  induction n with
  | zero =>
    intro v4 v5 x hf
    cases hf
  | succ n ih =>
    intro v4 v5 x hf
    rw [fX7_would_b42] at hf
    refine b_iload C dX7_would_42 2 rfl ?_
    refine b_bipush (v := 120) C dX7_would_44 (by decide) ?_
    refine b_icmp_ge (tgt := 69) C dX7_would_46 (by decide) (fun c46 => ?_) (fun c46 => ?_)
    · have hf := iT c46 hf
      refine b_iload C dX7_would_69 1 rfl ?_
      exact b_ireti C dX7_would_71 hf
    · have hf := iF c46 hf
      refine b_aload_n C dX7_would_49 rfl 0 rfl ?_
      refine gfX7_7 C hk0 dX7_would_50 ?_
      refine b_iload C dX7_would_53 2 rfl ?_
      refine b_aload_n C dX7_would_55 rfl 0 rfl ?_
      refine gfX7_13 C hk0 dX7_would_56 ?_
      refine b_iload C dX7_would_59 2 rfl ?_
      obtain ⟨g61, hf⟩ := iN hf
      refine b_iald C ((kd7 C.cl hk0).2.1) g61 dX7_would_61 ?_
      obtain ⟨g62, hf⟩ := iN hf
      obtain ⟨x62, e62, hf⟩ := lN1 hf
      refine b_iast C ((kd7 C.cl hk0).1) g62 dX7_would_62 ?_
      rw [e62]
      refine b_iinc (q := 2) (v' := (v5 + 1)) (lv' := [(5, .int (v5 + 1)), (0, .ref (G.2.2 i0)), (4, .int v4)]) C dX7_would_63 rfl rfl (by decide) rfl ?_
      refine b_goto (tgt := 42) C dX7_would_66 (by decide) ?_
      refine b_pm [1, 2, 0] (lv' := [(0, .ref (G.2.2 i0)), (4, .int v4), (5, .int (v5 + 1))]) rfl ?_
      exact ih _ _ _ hf
set_option maxHeartbeats 4000000 in
set_option maxRecDepth 100000 in
theorem wX7_would_b3 (C : CT p s m args meth c cX7_would 6 RX7 (some (.int)) G (pA G s.heap.size)) {i0 : Nat} {v1 : Int32} {v2 : Int32} {v3 : Int32} {r : (Int32 × xS)} (hk0 : KD G i0 7) : ∀ (n : Nat) (v4 : Int32) (x : xS), fX7_would_b3 i0 v1 v2 v3 n v4 x = some r → WB p l e rX7_would s m args below meth c 6 G (pA G s.heap.size) (qI below G r args s 0 0) 0 0 3 [(0, .ref (G.2.2 i0)), (1, .int v1), (2, .int v2), (3, .int v3), (4, .int v4)] [] x := by
  intro n
  induction n with
  | zero =>
    intro v4 x hf
    cases hf
  | succ n ih =>
    intro v4 x hf
    rw [fX7_would_b3] at hf
    refine b_iload C dX7_would_3 4 rfl ?_
    refine b_bipush (v := 120) C dX7_would_5 (by decide) ?_
    refine b_icmp_ge (tgt := 30) C dX7_would_7 (by decide) (fun c7 => ?_) (fun c7 => ?_)
    · have hf := iT c7 hf
      refine b_aload_n C dX7_would_30 rfl 0 rfl ?_
      refine b_iload_n C dX7_would_31 rfl 1 rfl ?_
      refine b_iload_n C dX7_would_32 rfl 2 rfl ?_
      refine b_iload_n C dX7_would_33 rfl 3 rfl ?_
      obtain ⟨r34, c34, hf⟩ := oB hf
      refine b_callVi (K := 7) (As := [.int v1, .int v2, .int v3]) (res := r34) C (metX7_asks l G _ _ _ _ _ _ hk0 c34) hk0 (by decide) rfl gkX7_84 ekX7_84 rfl ⟨rfl, rfl⟩ ⟨Nat.le_of_ble_eq_true rfl, Nat.le_of_ble_eq_true rfl⟩ (by simp [Value.category]) ⟨Nat.zero_le _, Nat.zero_le _⟩ rfl dX7_would_34 ?_
      refine b_istore (lv' := [(4, .int r34.1), (0, .ref (G.2.2 i0)), (1, .int v1), (2, .int v2), (3, .int v3)]) C dX7_would_37 (by decide) rfl ?_
      refine b_iconst (v := 0) C dX7_would_39 (by decide) ?_
      refine b_istore (lv' := [(5, .int 0), (4, .int r34.1), (0, .ref (G.2.2 i0)), (1, .int v1), (2, .int v2), (3, .int v3)]) C dX7_would_40 (by decide) rfl ?_
      refine b_pm [2, 1, 0] (lv' := [(0, .ref (G.2.2 i0)), (4, .int r34.1), (5, .int 0)]) rfl ?_
      exact wX7_would_b42 C  hk0 FU _ _ _ hf
    · have hf := iF c7 hf
      refine b_aload_n C dX7_would_10 rfl 0 rfl ?_
      refine gfX7_13 C hk0 dX7_would_11 ?_
      refine b_iload C dX7_would_14 4 rfl ?_
      refine b_aload_n C dX7_would_16 rfl 0 rfl ?_
      refine gfX7_7 C hk0 dX7_would_17 ?_
      refine b_iload C dX7_would_20 4 rfl ?_
      obtain ⟨g22, hf⟩ := iN hf
      refine b_iald C ((kd7 C.cl hk0).1) g22 dX7_would_22 ?_
      obtain ⟨g23, hf⟩ := iN hf
      obtain ⟨x23, e23, hf⟩ := lN1 hf
      refine b_iast C ((kd7 C.cl hk0).2.1) g23 dX7_would_23 ?_
      rw [e23]
      refine b_iinc (q := 4) (v' := (v4 + 1)) (lv' := [(4, .int (v4 + 1)), (0, .ref (G.2.2 i0)), (1, .int v1), (2, .int v2), (3, .int v3)]) C dX7_would_24 rfl rfl (by decide) rfl ?_
      refine b_goto (tgt := 3) C dX7_would_27 (by decide) ?_
      refine b_pm [1, 2, 3, 4, 0] (lv' := [(0, .ref (G.2.2 i0)), (1, .int v1), (2, .int v2), (3, .int v3), (4, .int (v4 + 1))]) rfl ?_
      exact ih _ _ hf
set_option maxHeartbeats 4000000 in
set_option maxRecDepth 100000 in
theorem wX7_would_b0 (C : CT p s m args meth c cX7_would 6 RX7 (some (.int)) G (pA G s.heap.size)) {i0 : Nat} {v1 : Int32} {v2 : Int32} {v3 : Int32} {x : xS} {r : (Int32 × xS)} (hk0 : KD G i0 7) (hf : fX7_would_b0 i0 v1 v2 v3 x = some r) : WB p l e rX7_would s m args below meth c 6 G (pA G s.heap.size) (qI below G r args s 0 0) 0 0 0 [(0, .ref (G.2.2 i0)), (1, .int v1), (2, .int v2), (3, .int v3)] [] x := by
  unfold fX7_would_b0 at hf
  refine b_iconst (v := 0) C dX7_would_0 (by decide) ?_
  refine b_istore (lv' := [(4, .int 0), (0, .ref (G.2.2 i0)), (1, .int v1), (2, .int v2), (3, .int v3)]) C dX7_would_1 (by decide) rfl ?_
  refine b_pm [1, 2, 3, 4, 0] (lv' := [(0, .ref (G.2.2 i0)), (1, .int v1), (2, .int v2), (3, .int v3), (4, .int 0)]) rfl ?_
  exact wX7_would_b3 C  hk0 FU _ _ hf
end
theorem metX7_would (l : Launch) (G : gT) (i0 : Nat) (v1 : Int32) (v2 : Int32) (v3 : Int32) (x : xS) (r : (Int32 × xS)) (hk0 : KD G i0 7) (hf : fX7_would i0 v1 v2 v3 x = some r) : cI l yX7_would cX7_would 6 (.int) rX7_would [.ref (G.2.2 i0), .int v1, .int v2, .int v3] G x r :=
  b_body (by decide) (Nat.le_of_ble_eq_true rfl) rfl (fun p e s m args below meth c C => wX7_would_b0 C hk0 hf)
-- X7_lentTo
abbrev rX7_lentTo : Room := { frames := 0, cells := 0, slots := 0, locals := 0 }
def fX7_lentTo_b29 (k4 : Int32 → Int32 → Option Int32) (i0 : Nat) (v1 : Int32) (x : xS) (v3 : Int32) (s0 : Int32) (s1 : Int32) : Option Int32 :=
  lt1 (s0 + s1) (fun y30 => 
  k4 y30 (v3 + 1))
def fX7_lentTo_b4 (i0 : Nat) (v1 : Int32) (x : xS) : Nat → Int32 → Int32 → Option Int32
  | 0, _, _ => none
  | n + 1, v2, v3 => (if (48 : Int32) ≤ v3 then
  some v2
  else
  (if (60 + v3) < 0 ∨ ln (i0 + 1) ≤ (60 + v3).toNatClampNeg then none else
  (if (x.1 (i0 + 1) (60 + v3).toNatClampNeg) = v1 then
  fX7_lentTo_b29 (fX7_lentTo_b4 i0 v1 x n) i0 v1 x v3 v2 1
  else
  fX7_lentTo_b29 (fX7_lentTo_b4 i0 v1 x n) i0 v1 x v3 v2 0)))
def fX7_lentTo_b0 (i0 : Nat) (v1 : Int32) (x : xS)  : Option Int32 :=
  fX7_lentTo_b4 i0 v1 x FU 0 0
def fX7_lentTo (i0 : Nat) (v1 : Int32) (x : xS) : Option Int32 := fX7_lentTo_b0 i0 v1 x
section
variable {p : Program} {l : Launch} {e : Env} {R : Room} {s : State} {m : MethodId} {args : Array Value} {below : List Frame} {meth : Method} {c : Code} {G : gT}
set_option maxHeartbeats 4000000 in
set_option maxRecDepth 100000 in
theorem wX7_lentTo_b29 (C : CT p s m args meth c cX7_lentTo 4 RX7 (some (.int)) G (pA G s.heap.size)) {k4 : Int32 → Int32 → Option Int32} {i0 : Nat} {v1 : Int32} {x : xS} {v3 : Int32} {s0 : Int32} {s1 : Int32} {r : Int32} (h4 : ∀ (v2 : Int32) (v3 : Int32), k4 v2 v3 = some r → WB p l e rX7_lentTo s m args below meth c 4 G (pA G s.heap.size) (qI below G (r, x) args s 0 0) 0 0 4 [(0, .ref (G.2.2 i0)), (1, .int v1), (2, .int v2), (3, .int v3)] [] x) (hk0 : KD G i0 7) (hf : fX7_lentTo_b29 k4 i0 v1 x v3 s0 s1 = some r) : WB p l e rX7_lentTo s m args below meth c 4 G (pA G s.heap.size) (qI below G (r, x) args s 0 0) 0 0 29 [(0, .ref (G.2.2 i0)), (1, .int v1), (3, .int v3)] [.int s1, .int s0] x := by
  unfold fX7_lentTo_b29 at hf
  refine b_iadd C dX7_lentTo_29 ?_
  obtain ⟨y30, e30, hf⟩ := lN1 hf
  rw [e30]
  refine b_istore_n (lv' := [(2, .int y30), (0, .ref (G.2.2 i0)), (1, .int v1), (3, .int v3)]) C dX7_lentTo_30 rfl (by decide) rfl ?_
  refine b_iinc (q := 3) (v' := (v3 + 1)) (lv' := [(3, .int (v3 + 1)), (2, .int y30), (0, .ref (G.2.2 i0)), (1, .int v1)]) C dX7_lentTo_31 rfl rfl (by decide) rfl ?_
  refine b_goto (tgt := 4) C dX7_lentTo_34 (by decide) ?_
  refine b_pm [2, 3, 1, 0] (lv' := [(0, .ref (G.2.2 i0)), (1, .int v1), (2, .int y30), (3, .int (v3 + 1))]) rfl ?_
  exact h4 _ _ hf
set_option maxHeartbeats 4000000 in
set_option maxRecDepth 100000 in
theorem wX7_lentTo_b4 (C : CT p s m args meth c cX7_lentTo 4 RX7 (some (.int)) G (pA G s.heap.size)) {i0 : Nat} {v1 : Int32} {x : xS} {r : Int32} (hk0 : KD G i0 7) : ∀ (n : Nat) (v2 : Int32) (v3 : Int32), fX7_lentTo_b4 i0 v1 x n v2 v3 = some r → WB p l e rX7_lentTo s m args below meth c 4 G (pA G s.heap.size) (qI below G (r, x) args s 0 0) 0 0 4 [(0, .ref (G.2.2 i0)), (1, .int v1), (2, .int v2), (3, .int v3)] [] x := by
  intro n
  induction n with
  | zero =>
    intro v2 v3 hf
    cases hf
  | succ n ih =>
    intro v2 v3 hf
    rw [fX7_lentTo_b4] at hf
    refine b_iload_n C dX7_lentTo_4 rfl 3 rfl ?_
    refine b_bipush (v := 48) C dX7_lentTo_5 (by decide) ?_
    refine b_icmp_ge (tgt := 37) C dX7_lentTo_7 (by decide) (fun c7 => ?_) (fun c7 => ?_)
    · have hf := iT c7 hf
      refine b_iload_n C dX7_lentTo_37 rfl 2 rfl ?_
      exact b_ireti C dX7_lentTo_38 (congrArg (Option.map (fun q => (q, x))) hf)
    · have hf := iF c7 hf
      refine b_iload_n C dX7_lentTo_10 rfl 2 rfl ?_
      refine b_aload_n C dX7_lentTo_11 rfl 0 rfl ?_
      refine gfX7_7 C hk0 dX7_lentTo_12 ?_
      refine b_bipush (v := 60) C dX7_lentTo_15 (by decide) ?_
      refine b_iload_n C dX7_lentTo_17 rfl 3 rfl ?_
      refine b_iadd C dX7_lentTo_18 ?_
      obtain ⟨g19, hf⟩ := iN hf
      refine b_iald C ((kd7 C.cl hk0).1) g19 dX7_lentTo_19 ?_
      refine b_iload_n C dX7_lentTo_20 rfl 1 rfl ?_
      refine b_icmp_ne (tgt := 28) C dX7_lentTo_21 (by decide) (fun c21 => ?_) (fun c21 => ?_)
      · have hf := iF c21 hf
        refine b_iconst (v := 0) C dX7_lentTo_28 (by decide) ?_
        refine b_pm [0, 1, 3] (lv' := [(0, .ref (G.2.2 i0)), (1, .int v1), (3, .int v3)]) rfl ?_
        exact wX7_lentTo_b29 C ih hk0 hf
      · have hf := iT c21 hf
        refine b_iconst (v := 1) C dX7_lentTo_24 (by decide) ?_
        refine b_goto (tgt := 29) C dX7_lentTo_25 (by decide) ?_
        refine b_pm [0, 1, 3] (lv' := [(0, .ref (G.2.2 i0)), (1, .int v1), (3, .int v3)]) rfl ?_
        exact wX7_lentTo_b29 C ih hk0 hf
set_option maxHeartbeats 4000000 in
set_option maxRecDepth 100000 in
theorem wX7_lentTo_b0 (C : CT p s m args meth c cX7_lentTo 4 RX7 (some (.int)) G (pA G s.heap.size)) {i0 : Nat} {v1 : Int32} {x : xS}  {r : Int32} (hk0 : KD G i0 7) (hf : fX7_lentTo_b0 i0 v1 x  = some r) : WB p l e rX7_lentTo s m args below meth c 4 G (pA G s.heap.size) (qI below G (r, x) args s 0 0) 0 0 0 [(0, .ref (G.2.2 i0)), (1, .int v1)] [] x := by
  unfold fX7_lentTo_b0 at hf
  refine b_iconst (v := 0) C dX7_lentTo_0 (by decide) ?_
  refine b_istore_n (lv' := [(2, .int 0), (0, .ref (G.2.2 i0)), (1, .int v1)]) C dX7_lentTo_1 rfl (by decide) rfl ?_
  refine b_iconst (v := 0) C dX7_lentTo_2 (by decide) ?_
  refine b_istore_n (lv' := [(3, .int 0), (2, .int 0), (0, .ref (G.2.2 i0)), (1, .int v1)]) C dX7_lentTo_3 rfl (by decide) rfl ?_
  refine b_pm [2, 3, 1, 0] (lv' := [(0, .ref (G.2.2 i0)), (1, .int v1), (2, .int 0), (3, .int 0)]) rfl ?_
  exact wX7_lentTo_b4 C  hk0 FU _ _ hf
end
theorem metX7_lentTo (l : Launch) (G : gT) (i0 : Nat) (v1 : Int32) (x : xS) (r : Int32) (hk0 : KD G i0 7) (hf : fX7_lentTo i0 v1 x = some r) : cI l yX7_lentTo cX7_lentTo 4 (.int) rX7_lentTo [.ref (G.2.2 i0), .int v1] G x (r, x) :=
  b_body (by decide) (Nat.le_of_ble_eq_true rfl) rfl (fun p e s m args below meth c C => wX7_lentTo_b0 C hk0 hf)
-- X7_ofLodger
abbrev rX7_ofLodger : Room := { frames := 1, cells := 0, slots := 0, locals := 23 }
def fX7_ofLodger_b0 (i0 : Nat) (v1 : Int32) (v2 : Int32) (x : xS)  : Option Int32 :=
  (if (3 : Int32) ≤ v2 then
  (if v2 = 3 then
  Option.bind (fX7_lentTo i0 v1 x) (fun r25 =>
  some r25)
  else
  Option.bind (fX7_of v1 (v2 - 1) x) (fun r39 =>
  (if r39 < 0 ∨ ln (i0 + 1) ≤ r39.toNatClampNeg then none else
  some (x.1 (i0 + 1) r39.toNatClampNeg))))
  else
  Option.bind (fX7_of v1 v2 x) (fun r11 =>
  (if r11 < 0 ∨ ln (i0 + 1) ≤ r11.toNatClampNeg then none else
  some (x.1 (i0 + 1) r11.toNatClampNeg))))
def fX7_ofLodger (i0 : Nat) (v1 : Int32) (v2 : Int32) (x : xS) : Option Int32 := fX7_ofLodger_b0 i0 v1 v2 x
section
variable {p : Program} {l : Launch} {e : Env} {R : Room} {s : State} {m : MethodId} {args : Array Value} {below : List Frame} {meth : Method} {c : Code} {G : gT}
set_option maxHeartbeats 4000000 in
set_option maxRecDepth 100000 in
theorem wX7_ofLodger_b0 (C : CT p s m args meth c cX7_ofLodger 3 RX7 (some (.int)) G (pA G s.heap.size)) {i0 : Nat} {v1 : Int32} {v2 : Int32} {x : xS}  {r : Int32} (hk0 : KD G i0 7) (hf : fX7_ofLodger_b0 i0 v1 v2 x  = some r) : WB p l e rX7_ofLodger s m args below meth c 3 G (pA G s.heap.size) (qI below G (r, x) args s 0 0) 0 0 0 [(0, .ref (G.2.2 i0)), (1, .int v1), (2, .int v2)] [] x := by
  unfold fX7_ofLodger_b0 at hf
  refine b_iload_n C dX7_ofLodger_0 rfl 2 rfl ?_
  refine b_iconst (v := 3) C dX7_ofLodger_1 (by decide) ?_
  refine b_icmp_ge (tgt := 18) C dX7_ofLodger_2 (by decide) (fun c2 => ?_) (fun c2 => ?_)
  · have hf := iT c2 hf
    refine b_iload_n C dX7_ofLodger_18 rfl 2 rfl ?_
    refine b_iconst (v := 3) C dX7_ofLodger_19 (by decide) ?_
    refine b_icmp_ne (tgt := 31) C dX7_ofLodger_20 (by decide) (fun c20 => ?_) (fun c20 => ?_)
    · have hf := iF c20 hf
      refine b_aload_n C dX7_ofLodger_31 rfl 0 rfl ?_
      refine gfX7_7 C hk0 dX7_ofLodger_32 ?_
      refine b_iload_n C dX7_ofLodger_35 rfl 1 rfl ?_
      refine b_iload_n C dX7_ofLodger_36 rfl 2 rfl ?_
      refine b_iconst (v := 1) C dX7_ofLodger_37 (by decide) ?_
      refine b_isub C dX7_ofLodger_38 ?_
      obtain ⟨r39, c39, hf⟩ := oB hf
      refine b_callSi (As := [.int v1, .int (v2 - 1)]) (res := (r39, x)) C (metX7_of l G _ _ _ _  c39) gkX7_25 ekX7_25 rfl ⟨rfl, rfl⟩ ⟨Nat.le_of_ble_eq_true rfl, Nat.le_of_ble_eq_true rfl⟩ (by simp [Value.category]) ⟨Nat.zero_le _, Nat.zero_le _⟩ rfl dX7_ofLodger_39 ?_
      obtain ⟨g42, hf⟩ := iN hf
      refine b_iald C ((kd7 C.cl hk0).1) g42 dX7_ofLodger_42 ?_
      exact b_ireti C dX7_ofLodger_43 (congrArg (Option.map (fun q => (q, x))) hf)
    · have hf := iT c20 hf
      refine b_aload_n C dX7_ofLodger_23 rfl 0 rfl ?_
      refine b_iload_n C dX7_ofLodger_24 rfl 1 rfl ?_
      obtain ⟨r25, c25, hf⟩ := oB hf
      refine b_callVi (K := 7) (As := [.int v1]) (res := (r25, x)) C (metX7_lentTo l G _ _ _ _ hk0 c25) hk0 (by decide) rfl gkX7_142 ekX7_142 rfl ⟨rfl, rfl⟩ ⟨Nat.le_of_ble_eq_true rfl, Nat.le_of_ble_eq_true rfl⟩ (by simp [Value.category]) ⟨Nat.zero_le _, Nat.zero_le _⟩ rfl dX7_ofLodger_25 ?_
      refine b_goto (tgt := 43) C dX7_ofLodger_28 (by decide) ?_
      exact b_ireti C dX7_ofLodger_43 (congrArg (Option.map (fun q => (q, x))) hf)
  · have hf := iF c2 hf
    refine b_aload_n C dX7_ofLodger_5 rfl 0 rfl ?_
    refine gfX7_7 C hk0 dX7_ofLodger_6 ?_
    refine b_iload_n C dX7_ofLodger_9 rfl 1 rfl ?_
    refine b_iload_n C dX7_ofLodger_10 rfl 2 rfl ?_
    obtain ⟨r11, c11, hf⟩ := oB hf
    refine b_callSi (As := [.int v1, .int v2]) (res := (r11, x)) C (metX7_of l G _ _ _ _  c11) gkX7_25 ekX7_25 rfl ⟨rfl, rfl⟩ ⟨Nat.le_of_ble_eq_true rfl, Nat.le_of_ble_eq_true rfl⟩ (by simp [Value.category]) ⟨Nat.zero_le _, Nat.zero_le _⟩ rfl dX7_ofLodger_11 ?_
    obtain ⟨g14, hf⟩ := iN hf
    refine b_iald C ((kd7 C.cl hk0).1) g14 dX7_ofLodger_14 ?_
    refine b_goto (tgt := 43) C dX7_ofLodger_15 (by decide) ?_
    exact b_ireti C dX7_ofLodger_43 (congrArg (Option.map (fun q => (q, x))) hf)
end
theorem metX7_ofLodger (l : Launch) (G : gT) (i0 : Nat) (v1 : Int32) (v2 : Int32) (x : xS) (r : Int32) (hk0 : KD G i0 7) (hf : fX7_ofLodger i0 v1 v2 x = some r) : cI l yX7_ofLodger cX7_ofLodger 3 (.int) rX7_ofLodger [.ref (G.2.2 i0), .int v1, .int v2] G x (r, x) :=
  b_body (by decide) (Nat.le_of_ble_eq_true rfl) rfl (fun p e s m args below meth c C => wX7_ofLodger_b0 C hk0 hf)
-- X7_digestLodger
abbrev rX7_digestLodger : Room := { frames := 6, cells := 0, slots := 0, locals := 146 }
def fX7_digestLodger_b2 (i0 : Nat) (v1 : Int32) : Nat → Int32 → xS → Option xS
  | 0, _, _ => none
  | n + 1, v2, x => (if (7 : Int32) ≤ v2 then
  Option.bind (fX7_longestFor i0 v1 0 x) (fun r29 =>
  Option.bind (fX7_digestOne i0 (r29.toInt64) x) (fun r33 =>
  Option.bind (fX7_longestFor i0 v1 6 r33) (fun r41 =>
  Option.bind (fX7_digestOne i0 (r41.toInt64) r33) (fun r45 =>
  Option.bind (fX7_would i0 v1 8 3 r45) (fun r54 =>
  Option.bind (fX7_digestOne i0 (r54.1.toInt64) r54.2) (fun r58 =>
  Option.bind (fX7_digestOne i0 ((r58.1 i0 9).toInt64) r58) (fun r67 =>
  some r67)))))))
  else
  Option.bind (fX7_ofLodger i0 v1 v2 x) (fun r12 =>
  Option.bind (fX7_digestOne i0 (r12.toInt64) x) (fun r16 =>
  fX7_digestLodger_b2 i0 v1 n (v2 + 1) r16)))
def fX7_digestLodger_b0 (i0 : Nat) (v1 : Int32) (x : xS) : Option xS :=
  fX7_digestLodger_b2 i0 v1 FU 0 x
def fX7_digestLodger (i0 : Nat) (v1 : Int32) (x : xS) : Option xS := fX7_digestLodger_b0 i0 v1 x
section
variable {p : Program} {l : Launch} {e : Env} {R : Room} {s : State} {m : MethodId} {args : Array Value} {below : List Frame} {meth : Method} {c : Code} {G : gT}
set_option maxHeartbeats 4000000 in
set_option maxRecDepth 100000 in
theorem wX7_digestLodger_b2 (C : CT p s m args meth c cX7_digestLodger 3 RX7 none G (pA G s.heap.size)) {i0 : Nat} {v1 : Int32} {r : xS} (hk0 : KD G i0 7) : ∀ (n : Nat) (v2 : Int32) (x : xS), fX7_digestLodger_b2 i0 v1 n v2 x = some r → WB p l e rX7_digestLodger s m args below meth c 3 G (pA G s.heap.size) (qV below G r args s 0 0) 0 0 2 [(0, .ref (G.2.2 i0)), (1, .int v1), (2, .int v2)] [] x := by
  intro n
  induction n with
  | zero =>
    intro v2 x hf
    cases hf
  | succ n ih =>
    intro v2 x hf
    rw [fX7_digestLodger_b2] at hf
    refine b_iload_n C dX7_digestLodger_2 rfl 2 rfl ?_
    refine b_bipush (v := 7) C dX7_digestLodger_3 (by decide) ?_
    refine b_icmp_ge (tgt := 25) C dX7_digestLodger_5 (by decide) (fun c5 => ?_) (fun c5 => ?_)
    · have hf := iT c5 hf
      refine b_aload_n C dX7_digestLodger_25 rfl 0 rfl ?_
      refine b_aload_n C dX7_digestLodger_26 rfl 0 rfl ?_
      refine b_iload_n C dX7_digestLodger_27 rfl 1 rfl ?_
      refine b_iconst (v := 0) C dX7_digestLodger_28 (by decide) ?_
      obtain ⟨r29, c29, hf⟩ := oB hf
      refine b_callVi (K := 7) (As := [.int v1, .int 0]) (res := (r29, x)) C (metX7_longestFor l G _ _ _ _ _ hk0 c29) hk0 (by decide) rfl gkX7_161 ekX7_161 rfl ⟨rfl, rfl⟩ ⟨Nat.le_of_ble_eq_true rfl, Nat.le_of_ble_eq_true rfl⟩ (by simp [Value.category]) ⟨Nat.zero_le _, Nat.zero_le _⟩ rfl dX7_digestLodger_29 ?_
      refine b_i2l C dX7_digestLodger_32 ?_
      obtain ⟨r33, c33, hf⟩ := oB hf
      refine b_callVv (K := 7) (As := [.long (r29.toInt64)]) (res := r33) C (metX7_digestOne l G _ _ _ _ hk0 c33) hk0 (by decide) rfl gkX7_187 ekX7_187 rfl ⟨rfl, rfl⟩ ⟨Nat.le_of_ble_eq_true rfl, Nat.le_of_ble_eq_true rfl⟩ (by simp [Value.category]) ⟨Nat.zero_le _, Nat.zero_le _⟩ rfl dX7_digestLodger_33 ?_
      refine b_aload_n C dX7_digestLodger_36 rfl 0 rfl ?_
      refine b_aload_n C dX7_digestLodger_37 rfl 0 rfl ?_
      refine b_iload_n C dX7_digestLodger_38 rfl 1 rfl ?_
      refine b_bipush (v := 6) C dX7_digestLodger_39 (by decide) ?_
      obtain ⟨r41, c41, hf⟩ := oB hf
      refine b_callVi (K := 7) (As := [.int v1, .int 6]) (res := (r41, r33)) C (metX7_longestFor l G _ _ _ _ _ hk0 c41) hk0 (by decide) rfl gkX7_161 ekX7_161 rfl ⟨rfl, rfl⟩ ⟨Nat.le_of_ble_eq_true rfl, Nat.le_of_ble_eq_true rfl⟩ (by simp [Value.category]) ⟨Nat.zero_le _, Nat.zero_le _⟩ rfl dX7_digestLodger_41 ?_
      refine b_i2l C dX7_digestLodger_44 ?_
      obtain ⟨r45, c45, hf⟩ := oB hf
      refine b_callVv (K := 7) (As := [.long (r41.toInt64)]) (res := r45) C (metX7_digestOne l G _ _ _ _ hk0 c45) hk0 (by decide) rfl gkX7_187 ekX7_187 rfl ⟨rfl, rfl⟩ ⟨Nat.le_of_ble_eq_true rfl, Nat.le_of_ble_eq_true rfl⟩ (by simp [Value.category]) ⟨Nat.zero_le _, Nat.zero_le _⟩ rfl dX7_digestLodger_45 ?_
      refine b_aload_n C dX7_digestLodger_48 rfl 0 rfl ?_
      refine b_aload_n C dX7_digestLodger_49 rfl 0 rfl ?_
      refine b_iload_n C dX7_digestLodger_50 rfl 1 rfl ?_
      refine b_bipush (v := 8) C dX7_digestLodger_51 (by decide) ?_
      refine b_iconst (v := 3) C dX7_digestLodger_53 (by decide) ?_
      obtain ⟨r54, c54, hf⟩ := oB hf
      refine b_callVi (K := 7) (As := [.int v1, .int 8, .int 3]) (res := r54) C (metX7_would l G _ _ _ _ _ _ hk0 c54) hk0 (by decide) rfl gkX7_155 ekX7_155 rfl ⟨rfl, rfl⟩ ⟨Nat.le_of_ble_eq_true rfl, Nat.le_of_ble_eq_true rfl⟩ (by simp [Value.category]) ⟨Nat.zero_le _, Nat.zero_le _⟩ rfl dX7_digestLodger_54 ?_
      refine b_i2l C dX7_digestLodger_57 ?_
      obtain ⟨r58, c58, hf⟩ := oB hf
      refine b_callVv (K := 7) (As := [.long (r54.1.toInt64)]) (res := r58) C (metX7_digestOne l G _ _ _ _ hk0 c58) hk0 (by decide) rfl gkX7_187 ekX7_187 rfl ⟨rfl, rfl⟩ ⟨Nat.le_of_ble_eq_true rfl, Nat.le_of_ble_eq_true rfl⟩ (by simp [Value.category]) ⟨Nat.zero_le _, Nat.zero_le _⟩ rfl dX7_digestLodger_58 ?_
      refine b_aload_n C dX7_digestLodger_61 rfl 0 rfl ?_
      refine b_aload_n C dX7_digestLodger_62 rfl 0 rfl ?_
      refine gfX7_60 C hk0 dX7_digestLodger_63 ?_
      refine b_i2l C dX7_digestLodger_66 ?_
      obtain ⟨r67, c67, hf⟩ := oB hf
      refine b_callVv (K := 7) (As := [.long ((r58.1 i0 9).toInt64)]) (res := r67) C (metX7_digestOne l G _ _ _ _ hk0 c67) hk0 (by decide) rfl gkX7_187 ekX7_187 rfl ⟨rfl, rfl⟩ ⟨Nat.le_of_ble_eq_true rfl, Nat.le_of_ble_eq_true rfl⟩ (by simp [Value.category]) ⟨Nat.zero_le _, Nat.zero_le _⟩ rfl dX7_digestLodger_67 ?_
      exact b_vret C dX7_digestLodger_70 hf
    · have hf := iF c5 hf
      refine b_aload_n C dX7_digestLodger_8 rfl 0 rfl ?_
      refine b_aload_n C dX7_digestLodger_9 rfl 0 rfl ?_
      refine b_iload_n C dX7_digestLodger_10 rfl 1 rfl ?_
      refine b_iload_n C dX7_digestLodger_11 rfl 2 rfl ?_
      obtain ⟨r12, c12, hf⟩ := oB hf
      refine b_callVi (K := 7) (As := [.int v1, .int v2]) (res := (r12, x)) C (metX7_ofLodger l G _ _ _ _ _ hk0 c12) hk0 (by decide) rfl gkX7_146 ekX7_146 rfl ⟨rfl, rfl⟩ ⟨Nat.le_of_ble_eq_true rfl, Nat.le_of_ble_eq_true rfl⟩ (by simp [Value.category]) ⟨Nat.zero_le _, Nat.zero_le _⟩ rfl dX7_digestLodger_12 ?_
      refine b_i2l C dX7_digestLodger_15 ?_
      obtain ⟨r16, c16, hf⟩ := oB hf
      refine b_callVv (K := 7) (As := [.long (r12.toInt64)]) (res := r16) C (metX7_digestOne l G _ _ _ _ hk0 c16) hk0 (by decide) rfl gkX7_187 ekX7_187 rfl ⟨rfl, rfl⟩ ⟨Nat.le_of_ble_eq_true rfl, Nat.le_of_ble_eq_true rfl⟩ (by simp [Value.category]) ⟨Nat.zero_le _, Nat.zero_le _⟩ rfl dX7_digestLodger_16 ?_
      refine b_iinc (q := 2) (v' := (v2 + 1)) (lv' := [(2, .int (v2 + 1)), (0, .ref (G.2.2 i0)), (1, .int v1)]) C dX7_digestLodger_19 rfl rfl (by decide) rfl ?_
      refine b_goto (tgt := 2) C dX7_digestLodger_22 (by decide) ?_
      refine b_pm [1, 2, 0] (lv' := [(0, .ref (G.2.2 i0)), (1, .int v1), (2, .int (v2 + 1))]) rfl ?_
      exact ih _ _ hf
set_option maxHeartbeats 4000000 in
set_option maxRecDepth 100000 in
theorem wX7_digestLodger_b0 (C : CT p s m args meth c cX7_digestLodger 3 RX7 none G (pA G s.heap.size)) {i0 : Nat} {v1 : Int32} {x : xS} {r : xS} (hk0 : KD G i0 7) (hf : fX7_digestLodger_b0 i0 v1 x = some r) : WB p l e rX7_digestLodger s m args below meth c 3 G (pA G s.heap.size) (qV below G r args s 0 0) 0 0 0 [(0, .ref (G.2.2 i0)), (1, .int v1)] [] x := by
  unfold fX7_digestLodger_b0 at hf
  refine b_iconst (v := 0) C dX7_digestLodger_0 (by decide) ?_
  refine b_istore_n (lv' := [(2, .int 0), (0, .ref (G.2.2 i0)), (1, .int v1)]) C dX7_digestLodger_1 rfl (by decide) rfl ?_
  refine b_pm [1, 2, 0] (lv' := [(0, .ref (G.2.2 i0)), (1, .int v1), (2, .int 0)]) rfl ?_
  exact wX7_digestLodger_b2 C  hk0 FU _ _ hf
end
theorem metX7_digestLodger (l : Launch) (G : gT) (i0 : Nat) (v1 : Int32) (x : xS) (r : xS) (hk0 : KD G i0 7) (hf : fX7_digestLodger i0 v1 x = some r) : cV l yX7_digestLodger cX7_digestLodger 3 rX7_digestLodger [.ref (G.2.2 i0), .int v1] G x r :=
  b_body (by decide) (Nat.le_of_ble_eq_true rfl) rfl (fun p e s m args below meth c C => wX7_digestLodger_b0 C hk0 hf)
-- X7_digest
abbrev rX7_digest : Room := { frames := 7, cells := 0, slots := 0, locals := 168 }
def fX7_digest_b183 (i0 : Nat) : Nat → Int32 → xS → Option (Int64 × xS)
  | 0, _, _ => none
  | n + 1, v1, x => (if (x.1 i0 8) ≤ v1 then
  some ((x.2 i0 15), x)
  else
  (if v1 < 0 ∨ ln (i0 + 5) ≤ v1.toNatClampNeg then none else
  Option.bind (fX7_digestOne i0 ((x.1 (i0 + 5) v1.toNatClampNeg).toInt64) x) (fun r199 =>
  fX7_digest_b183 i0 n (v1 + 1) r199)))
def fX7_digest_b93 (i0 : Nat) : Nat → Int32 → xS → Option (Int64 × xS)
  | 0, _, _ => none
  | n + 1, v1, x => (if (10 : Int32) ≤ v1 then
  Option.bind (fX7_mostAtOnce i0 x) (fun r112 =>
  Option.bind (fX7_digestOne i0 (r112.toInt64) x) (fun r116 =>
  Option.bind (fX7_mostAtOnce i0 r116) (fun r121 =>
  Option.bind (fX7_digestOne i0 (r121.toInt64) r116) (fun r125 =>
  Option.bind (fX7_refusedMost i0 r125) (fun r130 =>
  Option.bind (fX7_digestOne i0 (r130.toInt64) r125) (fun r134 =>
  Option.bind (fX7_share i0 r134) (fun r139 =>
  Option.bind (fX7_bitsOf r139 r134) (fun r142 =>
  Option.bind (fX7_digestOne i0 r142 r134) (fun r145 =>
  Option.bind (fX7_digestOne i0 (((r145.1 i0 6) &&& 1).toInt64) r145) (fun r156 =>
  Option.bind (fX7_digestOne i0 ((((r156.1 i0 6) >>> ((1 : Int32) &&& 31)) &&& 1).toInt64) r156) (fun r169 =>
  Option.bind (fX7_digestOne i0 ((r169.1 i0 8).toInt64) r169) (fun r178 =>
  fX7_digest_b183 i0 FU 0 r178))))))))))))
  else
  Option.bind (fX7_digestLodger i0 v1 x) (fun r101 =>
  fX7_digest_b93 i0 n (v1 + 1) r101))
def fX7_digest_b65 (i0 : Nat) : Nat → Int32 → xS → Option (Int64 × xS)
  | 0, _, _ => none
  | n + 1, v1, x => (if (48 : Int32) ≤ v1 then
  fX7_digest_b93 i0 FU 0 x
  else
  (if (60 + v1) < 0 ∨ ln (i0 + 1) ≤ (60 + v1).toNatClampNeg then none else
  Option.bind (fX7_digestOne i0 ((x.1 (i0 + 1) (60 + v1).toNatClampNeg).toInt64) x) (fun r82 =>
  fX7_digest_b65 i0 n (v1 + 1) r82)))
def fX7_digest_b38 (i0 : Nat) : Nat → Int32 → xS → Option (Int64 × xS)
  | 0, _, _ => none
  | n + 1, v1, x => (if (4 : Int32) ≤ v1 then
  fX7_digest_b65 i0 FU 0 x
  else
  (if (111 + v1) < 0 ∨ ln (i0 + 1) ≤ (111 + v1).toNatClampNeg then none else
  Option.bind (fX7_digestOne i0 ((x.1 (i0 + 1) (111 + v1).toNatClampNeg).toInt64) x) (fun r54 =>
  fX7_digest_b38 i0 n (v1 + 1) r54)))
def fX7_digest_b14 (i0 : Nat) : Nat → Int32 → xS → Option (Int64 × xS)
  | 0, _, _ => none
  | n + 1, v1, x => (if (12 : Int32) ≤ v1 then
  fX7_digest_b38 i0 FU 0 x
  else
  Option.bind (fX7_counted i0 v1 x) (fun r23 =>
  Option.bind (fX7_digestOne i0 (r23.toInt64) x) (fun r27 =>
  fX7_digest_b14 i0 n (v1 + 1) r27)))
def fX7_digest_b0 (i0 : Nat) (x : xS) : Option (Int64 × xS) :=
  lt1 (up1 x i0 0 0) (fun x2 =>
  lt1 (up2 x2 i0 15 3659) (fun x9 =>
  fX7_digest_b14 i0 FU 0 x9))
def fX7_digest (i0 : Nat) (x : xS) : Option (Int64 × xS) := fX7_digest_b0 i0 x
section
variable {p : Program} {l : Launch} {e : Env} {R : Room} {s : State} {m : MethodId} {args : Array Value} {below : List Frame} {meth : Method} {c : Code} {G : gT}
set_option maxHeartbeats 4000000 in
set_option maxRecDepth 100000 in
theorem wX7_digest_b183 (C : CT p s m args meth c cX7_digest 2 RX7 (some (.long)) G (pA G s.heap.size)) {i0 : Nat} {r : (Int64 × xS)} (hk0 : KD G i0 7) : ∀ (n : Nat) (v1 : Int32) (x : xS), fX7_digest_b183 i0 n v1 x = some r → WB p l e rX7_digest s m args below meth c 2 G (pA G s.heap.size) (qJ below G r args s 0 0) 0 0 183 [(0, .ref (G.2.2 i0)), (1, .int v1)] [] x := by
  intro n
  induction n with
  | zero =>
    intro v1 x hf
    cases hf
  | succ n ih =>
    intro v1 x hf
    rw [fX7_digest_b183] at hf
    refine b_iload_n C dX7_digest_183 rfl 1 rfl ?_
    refine b_aload_n C dX7_digest_184 rfl 0 rfl ?_
    refine gfX7_97 C hk0 dX7_digest_185 ?_
    refine b_icmp_ge (tgt := 208) C dX7_digest_188 (by decide) (fun c188 => ?_) (fun c188 => ?_)
    · have hf := iT c188 hf
      refine b_aload_n C dX7_digest_208 rfl 0 rfl ?_
      refine gfX7_183 C hk0 dX7_digest_209 ?_
      exact b_lret C dX7_digest_212 hf
    · have hf := iF c188 hf
      refine b_aload_n C dX7_digest_191 rfl 0 rfl ?_
      refine b_aload_n C dX7_digest_192 rfl 0 rfl ?_
      refine gfX7_22 C hk0 dX7_digest_193 ?_
      refine b_iload_n C dX7_digest_196 rfl 1 rfl ?_
      obtain ⟨g197, hf⟩ := iN hf
      refine b_iald C ((kd7 C.cl hk0).2.2.2.2) g197 dX7_digest_197 ?_
      refine b_i2l C dX7_digest_198 ?_
      obtain ⟨r199, c199, hf⟩ := oB hf
      refine b_callVv (K := 7) (As := [.long ((x.1 (i0 + 5) v1.toNatClampNeg).toInt64)]) (res := r199) C (metX7_digestOne l G _ _ _ _ hk0 c199) hk0 (by decide) rfl gkX7_187 ekX7_187 rfl ⟨rfl, rfl⟩ ⟨Nat.le_of_ble_eq_true rfl, Nat.le_of_ble_eq_true rfl⟩ (by simp [Value.category]) ⟨Nat.zero_le _, Nat.zero_le _⟩ rfl dX7_digest_199 ?_
      refine b_iinc (q := 1) (v' := (v1 + 1)) (lv' := [(1, .int (v1 + 1)), (0, .ref (G.2.2 i0))]) C dX7_digest_202 rfl rfl (by decide) rfl ?_
      refine b_goto (tgt := 183) C dX7_digest_205 (by decide) ?_
      refine b_pm [1, 0] (lv' := [(0, .ref (G.2.2 i0)), (1, .int (v1 + 1))]) rfl ?_
      exact ih _ _ hf
set_option maxHeartbeats 4000000 in
set_option maxRecDepth 100000 in
theorem wX7_digest_b93 (C : CT p s m args meth c cX7_digest 2 RX7 (some (.long)) G (pA G s.heap.size)) {i0 : Nat} {r : (Int64 × xS)} (hk0 : KD G i0 7) : ∀ (n : Nat) (v1 : Int32) (x : xS), fX7_digest_b93 i0 n v1 x = some r → WB p l e rX7_digest s m args below meth c 2 G (pA G s.heap.size) (qJ below G r args s 0 0) 0 0 93 [(0, .ref (G.2.2 i0)), (1, .int v1)] [] x := by
  intro n
  induction n with
  | zero =>
    intro v1 x hf
    cases hf
  | succ n ih =>
    intro v1 x hf
    rw [fX7_digest_b93] at hf
    refine b_iload_n C dX7_digest_93 rfl 1 rfl ?_
    refine b_bipush (v := 10) C dX7_digest_94 (by decide) ?_
    refine b_icmp_ge (tgt := 110) C dX7_digest_96 (by decide) (fun c96 => ?_) (fun c96 => ?_)
    · have hf := iT c96 hf
      refine b_aload_n C dX7_digest_110 rfl 0 rfl ?_
      refine b_aload_n C dX7_digest_111 rfl 0 rfl ?_
      obtain ⟨r112, c112, hf⟩ := oB hf
      refine b_callVi (K := 7) (As := []) (res := (r112, x)) C (metX7_mostAtOnce l G _ _ _ hk0 c112) hk0 (by decide) rfl gkX7_158 ekX7_158 rfl ⟨rfl, rfl⟩ ⟨Nat.le_of_ble_eq_true rfl, Nat.le_of_ble_eq_true rfl⟩ (by simp [Value.category]) ⟨Nat.zero_le _, Nat.zero_le _⟩ rfl dX7_digest_112 ?_
      refine b_i2l C dX7_digest_115 ?_
      obtain ⟨r116, c116, hf⟩ := oB hf
      refine b_callVv (K := 7) (As := [.long (r112.toInt64)]) (res := r116) C (metX7_digestOne l G _ _ _ _ hk0 c116) hk0 (by decide) rfl gkX7_187 ekX7_187 rfl ⟨rfl, rfl⟩ ⟨Nat.le_of_ble_eq_true rfl, Nat.le_of_ble_eq_true rfl⟩ (by simp [Value.category]) ⟨Nat.zero_le _, Nat.zero_le _⟩ rfl dX7_digest_116 ?_
      refine b_aload_n C dX7_digest_119 rfl 0 rfl ?_
      refine b_aload_n C dX7_digest_120 rfl 0 rfl ?_
      obtain ⟨r121, c121, hf⟩ := oB hf
      refine b_callVi (K := 7) (As := []) (res := (r121, r116)) C (metX7_mostAtOnce l G _ _ _ hk0 c121) hk0 (by decide) rfl gkX7_158 ekX7_158 rfl ⟨rfl, rfl⟩ ⟨Nat.le_of_ble_eq_true rfl, Nat.le_of_ble_eq_true rfl⟩ (by simp [Value.category]) ⟨Nat.zero_le _, Nat.zero_le _⟩ rfl dX7_digest_121 ?_
      refine b_i2l C dX7_digest_124 ?_
      obtain ⟨r125, c125, hf⟩ := oB hf
      refine b_callVv (K := 7) (As := [.long (r121.toInt64)]) (res := r125) C (metX7_digestOne l G _ _ _ _ hk0 c125) hk0 (by decide) rfl gkX7_187 ekX7_187 rfl ⟨rfl, rfl⟩ ⟨Nat.le_of_ble_eq_true rfl, Nat.le_of_ble_eq_true rfl⟩ (by simp [Value.category]) ⟨Nat.zero_le _, Nat.zero_le _⟩ rfl dX7_digest_125 ?_
      refine b_aload_n C dX7_digest_128 rfl 0 rfl ?_
      refine b_aload_n C dX7_digest_129 rfl 0 rfl ?_
      obtain ⟨r130, c130, hf⟩ := oB hf
      refine b_callVi (K := 7) (As := []) (res := (r130, r125)) C (metX7_refusedMost l G _ _ _ hk0 c130) hk0 (by decide) rfl gkX7_164 ekX7_164 rfl ⟨rfl, rfl⟩ ⟨Nat.le_of_ble_eq_true rfl, Nat.le_of_ble_eq_true rfl⟩ (by simp [Value.category]) ⟨Nat.zero_le _, Nat.zero_le _⟩ rfl dX7_digest_130 ?_
      refine b_i2l C dX7_digest_133 ?_
      obtain ⟨r134, c134, hf⟩ := oB hf
      refine b_callVv (K := 7) (As := [.long (r130.toInt64)]) (res := r134) C (metX7_digestOne l G _ _ _ _ hk0 c134) hk0 (by decide) rfl gkX7_187 ekX7_187 rfl ⟨rfl, rfl⟩ ⟨Nat.le_of_ble_eq_true rfl, Nat.le_of_ble_eq_true rfl⟩ (by simp [Value.category]) ⟨Nat.zero_le _, Nat.zero_le _⟩ rfl dX7_digest_134 ?_
      refine b_aload_n C dX7_digest_137 rfl 0 rfl ?_
      refine b_aload_n C dX7_digest_138 rfl 0 rfl ?_
      obtain ⟨r139, c139, hf⟩ := oB hf
      refine b_callVd (K := 7) (As := []) (res := (r139, r134)) C (metX7_share l G _ _ _ hk0 c139) hk0 (by decide) rfl gkX7_169 ekX7_169 rfl ⟨rfl, rfl⟩ ⟨Nat.le_of_ble_eq_true rfl, Nat.le_of_ble_eq_true rfl⟩ (by simp [Value.category]) ⟨Nat.zero_le _, Nat.zero_le _⟩ rfl dX7_digest_139 ?_
      obtain ⟨r142, c142, hf⟩ := oB hf
      refine b_callSl (As := [.double r139]) (res := (r142, r134)) C (metX7_bitsOf l G _ _ _  c142) gkX7_197 ekX7_197 rfl ⟨rfl, rfl⟩ ⟨Nat.le_of_ble_eq_true rfl, Nat.le_of_ble_eq_true rfl⟩ (by simp [Value.category]) ⟨Nat.zero_le _, Nat.zero_le _⟩ rfl dX7_digest_142 ?_
      obtain ⟨r145, c145, hf⟩ := oB hf
      refine b_callVv (K := 7) (As := [.long r142]) (res := r145) C (metX7_digestOne l G _ _ _ _ hk0 c145) hk0 (by decide) rfl gkX7_187 ekX7_187 rfl ⟨rfl, rfl⟩ ⟨Nat.le_of_ble_eq_true rfl, Nat.le_of_ble_eq_true rfl⟩ (by simp [Value.category]) ⟨Nat.zero_le _, Nat.zero_le _⟩ rfl dX7_digest_145 ?_
      refine b_aload_n C dX7_digest_148 rfl 0 rfl ?_
      refine b_aload_n C dX7_digest_149 rfl 0 rfl ?_
      refine gfX7_136 C hk0 dX7_digest_150 ?_
      refine b_iconst (v := 1) C dX7_digest_153 (by decide) ?_
      refine b_iand C dX7_digest_154 ?_
      refine b_i2l C dX7_digest_155 ?_
      obtain ⟨r156, c156, hf⟩ := oB hf
      refine b_callVv (K := 7) (As := [.long (((r145.1 i0 6) &&& 1).toInt64)]) (res := r156) C (metX7_digestOne l G _ _ _ _ hk0 c156) hk0 (by decide) rfl gkX7_187 ekX7_187 rfl ⟨rfl, rfl⟩ ⟨Nat.le_of_ble_eq_true rfl, Nat.le_of_ble_eq_true rfl⟩ (by simp [Value.category]) ⟨Nat.zero_le _, Nat.zero_le _⟩ rfl dX7_digest_156 ?_
      refine b_aload_n C dX7_digest_159 rfl 0 rfl ?_
      refine b_aload_n C dX7_digest_160 rfl 0 rfl ?_
      refine gfX7_136 C hk0 dX7_digest_161 ?_
      refine b_iconst (v := 1) C dX7_digest_164 (by decide) ?_
      refine b_ishr C dX7_digest_165 ?_
      refine b_iconst (v := 1) C dX7_digest_166 (by decide) ?_
      refine b_iand C dX7_digest_167 ?_
      refine b_i2l C dX7_digest_168 ?_
      obtain ⟨r169, c169, hf⟩ := oB hf
      refine b_callVv (K := 7) (As := [.long ((((r156.1 i0 6) >>> ((1 : Int32) &&& 31)) &&& 1).toInt64)]) (res := r169) C (metX7_digestOne l G _ _ _ _ hk0 c169) hk0 (by decide) rfl gkX7_187 ekX7_187 rfl ⟨rfl, rfl⟩ ⟨Nat.le_of_ble_eq_true rfl, Nat.le_of_ble_eq_true rfl⟩ (by simp [Value.category]) ⟨Nat.zero_le _, Nat.zero_le _⟩ rfl dX7_digest_169 ?_
      refine b_aload_n C dX7_digest_172 rfl 0 rfl ?_
      refine b_aload_n C dX7_digest_173 rfl 0 rfl ?_
      refine gfX7_97 C hk0 dX7_digest_174 ?_
      refine b_i2l C dX7_digest_177 ?_
      obtain ⟨r178, c178, hf⟩ := oB hf
      refine b_callVv (K := 7) (As := [.long ((r169.1 i0 8).toInt64)]) (res := r178) C (metX7_digestOne l G _ _ _ _ hk0 c178) hk0 (by decide) rfl gkX7_187 ekX7_187 rfl ⟨rfl, rfl⟩ ⟨Nat.le_of_ble_eq_true rfl, Nat.le_of_ble_eq_true rfl⟩ (by simp [Value.category]) ⟨Nat.zero_le _, Nat.zero_le _⟩ rfl dX7_digest_178 ?_
      refine b_iconst (v := 0) C dX7_digest_181 (by decide) ?_
      refine b_istore_n (lv' := [(1, .int 0), (0, .ref (G.2.2 i0))]) C dX7_digest_182 rfl (by decide) rfl ?_
      refine b_pm [1, 0] (lv' := [(0, .ref (G.2.2 i0)), (1, .int 0)]) rfl ?_
      exact wX7_digest_b183 C  hk0 FU _ _ hf
    · have hf := iF c96 hf
      refine b_aload_n C dX7_digest_99 rfl 0 rfl ?_
      refine b_iload_n C dX7_digest_100 rfl 1 rfl ?_
      obtain ⟨r101, c101, hf⟩ := oB hf
      refine b_callVv (K := 7) (As := [.int v1]) (res := r101) C (metX7_digestLodger l G _ _ _ _ hk0 c101) hk0 (by decide) rfl gkX7_193 ekX7_193 rfl ⟨rfl, rfl⟩ ⟨Nat.le_of_ble_eq_true rfl, Nat.le_of_ble_eq_true rfl⟩ (by simp [Value.category]) ⟨Nat.zero_le _, Nat.zero_le _⟩ rfl dX7_digest_101 ?_
      refine b_iinc (q := 1) (v' := (v1 + 1)) (lv' := [(1, .int (v1 + 1)), (0, .ref (G.2.2 i0))]) C dX7_digest_104 rfl rfl (by decide) rfl ?_
      refine b_goto (tgt := 93) C dX7_digest_107 (by decide) ?_
      refine b_pm [1, 0] (lv' := [(0, .ref (G.2.2 i0)), (1, .int (v1 + 1))]) rfl ?_
      exact ih _ _ hf
set_option maxHeartbeats 4000000 in
set_option maxRecDepth 100000 in
theorem wX7_digest_b65 (C : CT p s m args meth c cX7_digest 2 RX7 (some (.long)) G (pA G s.heap.size)) {i0 : Nat} {r : (Int64 × xS)} (hk0 : KD G i0 7) : ∀ (n : Nat) (v1 : Int32) (x : xS), fX7_digest_b65 i0 n v1 x = some r → WB p l e rX7_digest s m args below meth c 2 G (pA G s.heap.size) (qJ below G r args s 0 0) 0 0 65 [(0, .ref (G.2.2 i0)), (1, .int v1)] [] x := by
  intro n
  induction n with
  | zero =>
    intro v1 x hf
    cases hf
  | succ n ih =>
    intro v1 x hf
    rw [fX7_digest_b65] at hf
    refine b_iload_n C dX7_digest_65 rfl 1 rfl ?_
    refine b_bipush (v := 48) C dX7_digest_66 (by decide) ?_
    refine b_icmp_ge (tgt := 91) C dX7_digest_68 (by decide) (fun c68 => ?_) (fun c68 => ?_)
    · have hf := iT c68 hf
      refine b_iconst (v := 0) C dX7_digest_91 (by decide) ?_
      refine b_istore_n (lv' := [(1, .int 0), (0, .ref (G.2.2 i0))]) C dX7_digest_92 rfl (by decide) rfl ?_
      refine b_pm [1, 0] (lv' := [(0, .ref (G.2.2 i0)), (1, .int 0)]) rfl ?_
      exact wX7_digest_b93 C  hk0 FU _ _ hf
    · have hf := iF c68 hf
      refine b_aload_n C dX7_digest_71 rfl 0 rfl ?_
      refine b_aload_n C dX7_digest_72 rfl 0 rfl ?_
      refine gfX7_7 C hk0 dX7_digest_73 ?_
      refine b_bipush (v := 60) C dX7_digest_76 (by decide) ?_
      refine b_iload_n C dX7_digest_78 rfl 1 rfl ?_
      refine b_iadd C dX7_digest_79 ?_
      obtain ⟨g80, hf⟩ := iN hf
      refine b_iald C ((kd7 C.cl hk0).1) g80 dX7_digest_80 ?_
      refine b_i2l C dX7_digest_81 ?_
      obtain ⟨r82, c82, hf⟩ := oB hf
      refine b_callVv (K := 7) (As := [.long ((x.1 (i0 + 1) (60 + v1).toNatClampNeg).toInt64)]) (res := r82) C (metX7_digestOne l G _ _ _ _ hk0 c82) hk0 (by decide) rfl gkX7_187 ekX7_187 rfl ⟨rfl, rfl⟩ ⟨Nat.le_of_ble_eq_true rfl, Nat.le_of_ble_eq_true rfl⟩ (by simp [Value.category]) ⟨Nat.zero_le _, Nat.zero_le _⟩ rfl dX7_digest_82 ?_
      refine b_iinc (q := 1) (v' := (v1 + 1)) (lv' := [(1, .int (v1 + 1)), (0, .ref (G.2.2 i0))]) C dX7_digest_85 rfl rfl (by decide) rfl ?_
      refine b_goto (tgt := 65) C dX7_digest_88 (by decide) ?_
      refine b_pm [1, 0] (lv' := [(0, .ref (G.2.2 i0)), (1, .int (v1 + 1))]) rfl ?_
      exact ih _ _ hf
set_option maxHeartbeats 4000000 in
set_option maxRecDepth 100000 in
theorem wX7_digest_b38 (C : CT p s m args meth c cX7_digest 2 RX7 (some (.long)) G (pA G s.heap.size)) {i0 : Nat} {r : (Int64 × xS)} (hk0 : KD G i0 7) : ∀ (n : Nat) (v1 : Int32) (x : xS), fX7_digest_b38 i0 n v1 x = some r → WB p l e rX7_digest s m args below meth c 2 G (pA G s.heap.size) (qJ below G r args s 0 0) 0 0 38 [(0, .ref (G.2.2 i0)), (1, .int v1)] [] x := by
  intro n
  induction n with
  | zero =>
    intro v1 x hf
    cases hf
  | succ n ih =>
    intro v1 x hf
    rw [fX7_digest_b38] at hf
    refine b_iload_n C dX7_digest_38 rfl 1 rfl ?_
    refine b_iconst (v := 4) C dX7_digest_39 (by decide) ?_
    refine b_icmp_ge (tgt := 63) C dX7_digest_40 (by decide) (fun c40 => ?_) (fun c40 => ?_)
    · have hf := iT c40 hf
      refine b_iconst (v := 0) C dX7_digest_63 (by decide) ?_
      refine b_istore_n (lv' := [(1, .int 0), (0, .ref (G.2.2 i0))]) C dX7_digest_64 rfl (by decide) rfl ?_
      refine b_pm [1, 0] (lv' := [(0, .ref (G.2.2 i0)), (1, .int 0)]) rfl ?_
      exact wX7_digest_b65 C  hk0 FU _ _ hf
    · have hf := iF c40 hf
      refine b_aload_n C dX7_digest_43 rfl 0 rfl ?_
      refine b_aload_n C dX7_digest_44 rfl 0 rfl ?_
      refine gfX7_7 C hk0 dX7_digest_45 ?_
      refine b_bipush (v := 111) C dX7_digest_48 (by decide) ?_
      refine b_iload_n C dX7_digest_50 rfl 1 rfl ?_
      refine b_iadd C dX7_digest_51 ?_
      obtain ⟨g52, hf⟩ := iN hf
      refine b_iald C ((kd7 C.cl hk0).1) g52 dX7_digest_52 ?_
      refine b_i2l C dX7_digest_53 ?_
      obtain ⟨r54, c54, hf⟩ := oB hf
      refine b_callVv (K := 7) (As := [.long ((x.1 (i0 + 1) (111 + v1).toNatClampNeg).toInt64)]) (res := r54) C (metX7_digestOne l G _ _ _ _ hk0 c54) hk0 (by decide) rfl gkX7_187 ekX7_187 rfl ⟨rfl, rfl⟩ ⟨Nat.le_of_ble_eq_true rfl, Nat.le_of_ble_eq_true rfl⟩ (by simp [Value.category]) ⟨Nat.zero_le _, Nat.zero_le _⟩ rfl dX7_digest_54 ?_
      refine b_iinc (q := 1) (v' := (v1 + 1)) (lv' := [(1, .int (v1 + 1)), (0, .ref (G.2.2 i0))]) C dX7_digest_57 rfl rfl (by decide) rfl ?_
      refine b_goto (tgt := 38) C dX7_digest_60 (by decide) ?_
      refine b_pm [1, 0] (lv' := [(0, .ref (G.2.2 i0)), (1, .int (v1 + 1))]) rfl ?_
      exact ih _ _ hf
set_option maxHeartbeats 4000000 in
set_option maxRecDepth 100000 in
theorem wX7_digest_b14 (C : CT p s m args meth c cX7_digest 2 RX7 (some (.long)) G (pA G s.heap.size)) {i0 : Nat} {r : (Int64 × xS)} (hk0 : KD G i0 7) : ∀ (n : Nat) (v1 : Int32) (x : xS), fX7_digest_b14 i0 n v1 x = some r → WB p l e rX7_digest s m args below meth c 2 G (pA G s.heap.size) (qJ below G r args s 0 0) 0 0 14 [(0, .ref (G.2.2 i0)), (1, .int v1)] [] x := by
  intro n
  induction n with
  | zero =>
    intro v1 x hf
    cases hf
  | succ n ih =>
    intro v1 x hf
    rw [fX7_digest_b14] at hf
    refine b_iload_n C dX7_digest_14 rfl 1 rfl ?_
    refine b_bipush (v := 12) C dX7_digest_15 (by decide) ?_
    refine b_icmp_ge (tgt := 36) C dX7_digest_17 (by decide) (fun c17 => ?_) (fun c17 => ?_)
    · have hf := iT c17 hf
      refine b_iconst (v := 0) C dX7_digest_36 (by decide) ?_
      refine b_istore_n (lv' := [(1, .int 0), (0, .ref (G.2.2 i0))]) C dX7_digest_37 rfl (by decide) rfl ?_
      refine b_pm [1, 0] (lv' := [(0, .ref (G.2.2 i0)), (1, .int 0)]) rfl ?_
      exact wX7_digest_b38 C  hk0 FU _ _ hf
    · have hf := iF c17 hf
      refine b_aload_n C dX7_digest_20 rfl 0 rfl ?_
      refine b_aload_n C dX7_digest_21 rfl 0 rfl ?_
      refine b_iload_n C dX7_digest_22 rfl 1 rfl ?_
      obtain ⟨r23, c23, hf⟩ := oB hf
      refine b_callVi (K := 7) (As := [.int v1]) (res := (r23, x)) C (metX7_counted l G _ _ _ _ hk0 c23) hk0 (by decide) rfl gkX7_152 ekX7_152 rfl ⟨rfl, rfl⟩ ⟨Nat.le_of_ble_eq_true rfl, Nat.le_of_ble_eq_true rfl⟩ (by simp [Value.category]) ⟨Nat.zero_le _, Nat.zero_le _⟩ rfl dX7_digest_23 ?_
      refine b_i2l C dX7_digest_26 ?_
      obtain ⟨r27, c27, hf⟩ := oB hf
      refine b_callVv (K := 7) (As := [.long (r23.toInt64)]) (res := r27) C (metX7_digestOne l G _ _ _ _ hk0 c27) hk0 (by decide) rfl gkX7_187 ekX7_187 rfl ⟨rfl, rfl⟩ ⟨Nat.le_of_ble_eq_true rfl, Nat.le_of_ble_eq_true rfl⟩ (by simp [Value.category]) ⟨Nat.zero_le _, Nat.zero_le _⟩ rfl dX7_digest_27 ?_
      refine b_iinc (q := 1) (v' := (v1 + 1)) (lv' := [(1, .int (v1 + 1)), (0, .ref (G.2.2 i0))]) C dX7_digest_30 rfl rfl (by decide) rfl ?_
      refine b_goto (tgt := 14) C dX7_digest_33 (by decide) ?_
      refine b_pm [1, 0] (lv' := [(0, .ref (G.2.2 i0)), (1, .int (v1 + 1))]) rfl ?_
      exact ih _ _ hf
set_option maxHeartbeats 4000000 in
set_option maxRecDepth 100000 in
theorem wX7_digest_b0 (C : CT p s m args meth c cX7_digest 2 RX7 (some (.long)) G (pA G s.heap.size)) {i0 : Nat} {x : xS} {r : (Int64 × xS)} (hk0 : KD G i0 7) (hf : fX7_digest_b0 i0 x = some r) : WB p l e rX7_digest s m args below meth c 2 G (pA G s.heap.size) (qJ below G r args s 0 0) 0 0 0 [(0, .ref (G.2.2 i0))] [] x := by
  unfold fX7_digest_b0 at hf
  refine b_aload_n C dX7_digest_0 rfl 0 rfl ?_
  refine b_iconst (v := 0) C dX7_digest_1 (by decide) ?_
  obtain ⟨x2, e2, hf⟩ := lN1 hf
  refine pfX7_29 C hk0 dX7_digest_2 e2 ?_
  refine b_aload_n C dX7_digest_5 rfl 0 rfl ?_
  refine b_ldc2 C w_431 dX7_digest_6 ?_
  obtain ⟨x9, e9, hf⟩ := lN1 hf
  refine pfX7_183 C hk0 dX7_digest_9 e9 ?_
  refine b_iconst (v := 0) C dX7_digest_12 (by decide) ?_
  refine b_istore_n (lv' := [(1, .int 0), (0, .ref (G.2.2 i0))]) C dX7_digest_13 rfl (by decide) rfl ?_
  refine b_pm [1, 0] (lv' := [(0, .ref (G.2.2 i0)), (1, .int 0)]) rfl ?_
  exact wX7_digest_b14 C  hk0 FU _ _ hf
end
theorem metX7_digest (l : Launch) (G : gT) (i0 : Nat) (x : xS) (r : (Int64 × xS)) (hk0 : KD G i0 7) (hf : fX7_digest i0 x = some r) : cJ l yX7_digest cX7_digest 2 rX7_digest [.ref (G.2.2 i0)] G x r :=
  b_body (by decide) (Nat.le_of_ble_eq_true rfl) rfl (fun p e s m args below meth c C => wX7_digest_b0 C hk0 hf)
-- X7_passes
abbrev rX7_passes : Room := { frames := 1, cells := 0, slots := 0, locals := 21 }
def fX7_passes_b120 (i0 : Nat) (v1 : Int32) (x : xS) : Option (Int32 × xS) :=
  some (v1, x)
def fX7_passes_b98 (i0 : Nat) : Nat → Int32 → Int32 → xS → Option (Int32 × xS)
  | 0, _, _, _ => none
  | n + 1, v1, v2, x => (if (48 : Int32) ≤ v2 then
  fX7_passes_b120 i0 v1 x
  else
  (if (60 + v2) < 0 ∨ ln (i0 + 1) ≤ (60 + v2).toNatClampNeg then none else
  lt1 (up1 x (i0 + 1) (60 + v2).toNatClampNeg (-1)) (fun x113 =>
  fX7_passes_b98 i0 n v1 (v2 + 1) x113)))
def fX7_passes_b48 (k4 : Int32 → Int32 → xS → Option (Int32 × xS)) (i0 : Nat) (v1 : Int32) (v2 : Int32) (x : xS) : Option (Int32 × xS) :=
  k4 v1 (v2 + 1) x
def fX7_passes_b4 (i0 : Nat) : Nat → Int32 → Int32 → xS → Option (Int32 × xS)
  | 0, _, _, _ => none
  | n + 1, v1, v2, x => (if (4 : Int32) ≤ v2 then
  (if (108 : Int32) < 0 ∨ ln (i0 + 1) ≤ (108 : Int32).toNatClampNeg then none else
  (if (108 : Int32) < 0 ∨ ln (i0 + 1) ≤ (108 : Int32).toNatClampNeg then none else
  lt1 (up1 x (i0 + 1) (108 : Int32).toNatClampNeg ((x.1 (i0 + 1) (108 : Int32).toNatClampNeg) + 1)) (fun x64 =>
  (if (108 : Int32) < 0 ∨ ln (i0 + 1) ≤ (108 : Int32).toNatClampNeg then none else
  (if (x64.1 (i0 + 1) (108 : Int32).toNatClampNeg) = 12 then
  (if (108 : Int32) < 0 ∨ ln (i0 + 1) ≤ (108 : Int32).toNatClampNeg then none else
  lt1 (up1 x64 (i0 + 1) (108 : Int32).toNatClampNeg 0) (fun x84 =>
  (if (109 : Int32) < 0 ∨ ln (i0 + 1) ≤ (109 : Int32).toNatClampNeg then none else
  (if (109 : Int32) < 0 ∨ ln (i0 + 1) ≤ (109 : Int32).toNatClampNeg then none else
  lt1 (up1 x84 (i0 + 1) (109 : Int32).toNatClampNeg ((x84.1 (i0 + 1) (109 : Int32).toNatClampNeg) + 1)) (fun x95 =>
  fX7_passes_b98 i0 FU v1 0 x95)))))
  else
  fX7_passes_b120 i0 v1 x64)))))
  else
  (if (108 : Int32) < 0 ∨ ln (i0 + 1) ≤ (108 : Int32).toNatClampNeg then none else
  Option.bind (fX7_ofBed v2 (x.1 (i0 + 1) (108 : Int32).toNatClampNeg) x) (fun r21 =>
  (if r21 < 0 ∨ ln (i0 + 1) ≤ r21.toNatClampNeg then none else
  lt1 (x.1 (i0 + 1) r21.toNatClampNeg) (fun y25 => 
  (if y25 = (-1) then
  fX7_passes_b48 (fX7_passes_b4 i0 n) i0 v1 v2 x
  else
  Option.bind (fX7_of y25 3 x) (fun r37 =>
  (if r37 < 0 ∨ ln (i0 + 1) ≤ r37.toNatClampNeg then none else
  (if r37 < 0 ∨ ln (i0 + 1) ≤ r37.toNatClampNeg then none else
  lt1 (up1 x (i0 + 1) r37.toNatClampNeg ((x.1 (i0 + 1) r37.toNatClampNeg) + 1)) (fun x44 =>
  fX7_passes_b48 (fX7_passes_b4 i0 n) i0 (v1 + 1) v2 x44))))))))))
def fX7_passes_b0 (i0 : Nat) (x : xS) : Option (Int32 × xS) :=
  fX7_passes_b4 i0 FU 0 0 x
def fX7_passes (i0 : Nat) (x : xS) : Option (Int32 × xS) := fX7_passes_b0 i0 x
section
variable {p : Program} {l : Launch} {e : Env} {R : Room} {s : State} {m : MethodId} {args : Array Value} {below : List Frame} {meth : Method} {c : Code} {G : gT}
set_option maxHeartbeats 4000000 in
set_option maxRecDepth 100000 in
theorem wX7_passes_b120 (C : CT p s m args meth c cX7_passes 4 RX7 (some (.int)) G (pA G s.heap.size)) {i0 : Nat} {v1 : Int32} {x : xS} {r : (Int32 × xS)} (hk0 : KD G i0 7) (hf : fX7_passes_b120 i0 v1 x = some r) : WB p l e rX7_passes s m args below meth c 4 G (pA G s.heap.size) (qI below G r args s 0 0) 0 0 120 [(0, .ref (G.2.2 i0)), (1, .int v1)] [] x := by
  unfold fX7_passes_b120 at hf
  refine b_iload_n C dX7_passes_120 rfl 1 rfl ?_
  exact b_ireti C dX7_passes_121 hf
set_option maxHeartbeats 4000000 in
set_option maxRecDepth 100000 in
theorem wX7_passes_b98 (C : CT p s m args meth c cX7_passes 4 RX7 (some (.int)) G (pA G s.heap.size)) {i0 : Nat} {r : (Int32 × xS)} (hk0 : KD G i0 7) : ∀ (n : Nat) (v1 : Int32) (v2 : Int32) (x : xS), fX7_passes_b98 i0 n v1 v2 x = some r → WB p l e rX7_passes s m args below meth c 4 G (pA G s.heap.size) (qI below G r args s 0 0) 0 0 98 [(0, .ref (G.2.2 i0)), (1, .int v1), (2, .int v2)] [] x := by
  intro n
  induction n with
  | zero =>
    intro v1 v2 x hf
    cases hf
  | succ n ih =>
    intro v1 v2 x hf
    rw [fX7_passes_b98] at hf
    refine b_iload_n C dX7_passes_98 rfl 2 rfl ?_
    refine b_bipush (v := 48) C dX7_passes_99 (by decide) ?_
    refine b_icmp_ge (tgt := 120) C dX7_passes_101 (by decide) (fun c101 => ?_) (fun c101 => ?_)
    · have hf := iT c101 hf
      refine b_pm [0, 1] (lv' := [(0, .ref (G.2.2 i0)), (1, .int v1)]) rfl ?_
      exact wX7_passes_b120 C  hk0 hf
    · have hf := iF c101 hf
      refine b_aload_n C dX7_passes_104 rfl 0 rfl ?_
      refine gfX7_7 C hk0 dX7_passes_105 ?_
      refine b_bipush (v := 60) C dX7_passes_108 (by decide) ?_
      refine b_iload_n C dX7_passes_110 rfl 2 rfl ?_
      refine b_iadd C dX7_passes_111 ?_
      refine b_iconst (v := (-1)) C dX7_passes_112 (by decide) ?_
      obtain ⟨g113, hf⟩ := iN hf
      obtain ⟨x113, e113, hf⟩ := lN1 hf
      refine b_iast C ((kd7 C.cl hk0).1) g113 dX7_passes_113 ?_
      rw [e113]
      refine b_iinc (q := 2) (v' := (v2 + 1)) (lv' := [(2, .int (v2 + 1)), (0, .ref (G.2.2 i0)), (1, .int v1)]) C dX7_passes_114 rfl rfl (by decide) rfl ?_
      refine b_goto (tgt := 98) C dX7_passes_117 (by decide) ?_
      refine b_pm [1, 2, 0] (lv' := [(0, .ref (G.2.2 i0)), (1, .int v1), (2, .int (v2 + 1))]) rfl ?_
      exact ih _ _ _ hf
set_option maxHeartbeats 4000000 in
set_option maxRecDepth 100000 in
theorem wX7_passes_b48 (C : CT p s m args meth c cX7_passes 4 RX7 (some (.int)) G (pA G s.heap.size)) {k4 : Int32 → Int32 → xS → Option (Int32 × xS)} {i0 : Nat} {v1 : Int32} {v2 : Int32} {x : xS} {r : (Int32 × xS)} (h4 : ∀ (v1 : Int32) (v2 : Int32) (x : xS), k4 v1 v2 x = some r → WB p l e rX7_passes s m args below meth c 4 G (pA G s.heap.size) (qI below G r args s 0 0) 0 0 4 [(0, .ref (G.2.2 i0)), (1, .int v1), (2, .int v2)] [] x) (hk0 : KD G i0 7) (hf : fX7_passes_b48 k4 i0 v1 v2 x = some r) : WB p l e rX7_passes s m args below meth c 4 G (pA G s.heap.size) (qI below G r args s 0 0) 0 0 48 [(0, .ref (G.2.2 i0)), (1, .int v1), (2, .int v2)] [] x := by
  unfold fX7_passes_b48 at hf
  refine b_iinc (q := 2) (v' := (v2 + 1)) (lv' := [(2, .int (v2 + 1)), (0, .ref (G.2.2 i0)), (1, .int v1)]) C dX7_passes_48 rfl rfl (by decide) rfl ?_
  refine b_goto (tgt := 4) C dX7_passes_51 (by decide) ?_
  refine b_pm [1, 2, 0] (lv' := [(0, .ref (G.2.2 i0)), (1, .int v1), (2, .int (v2 + 1))]) rfl ?_
  exact h4 _ _ _ hf
set_option maxHeartbeats 4000000 in
set_option maxRecDepth 100000 in
theorem wX7_passes_b4 (C : CT p s m args meth c cX7_passes 4 RX7 (some (.int)) G (pA G s.heap.size)) {i0 : Nat} {r : (Int32 × xS)} (hk0 : KD G i0 7) : ∀ (n : Nat) (v1 : Int32) (v2 : Int32) (x : xS), fX7_passes_b4 i0 n v1 v2 x = some r → WB p l e rX7_passes s m args below meth c 4 G (pA G s.heap.size) (qI below G r args s 0 0) 0 0 4 [(0, .ref (G.2.2 i0)), (1, .int v1), (2, .int v2)] [] x := by
  intro n
  induction n with
  | zero =>
    intro v1 v2 x hf
    cases hf
  | succ n ih =>
    intro v1 v2 x hf
    rw [fX7_passes_b4] at hf
    refine b_iload_n C dX7_passes_4 rfl 2 rfl ?_
    refine b_iconst (v := 4) C dX7_passes_5 (by decide) ?_
    refine b_icmp_ge (tgt := 54) C dX7_passes_6 (by decide) (fun c6 => ?_) (fun c6 => ?_)
    · have hf := iT c6 hf
      refine b_aload_n C dX7_passes_54 rfl 0 rfl ?_
      refine gfX7_7 C hk0 dX7_passes_55 ?_
      refine b_bipush (v := 108) C dX7_passes_58 (by decide) ?_
      refine b_dup2 C dX7_passes_60 rfl rfl ?_
      obtain ⟨g61, hf⟩ := iN hf
      refine b_iald C ((kd7 C.cl hk0).1) g61 dX7_passes_61 ?_
      refine b_iconst (v := 1) C dX7_passes_62 (by decide) ?_
      refine b_iadd C dX7_passes_63 ?_
      obtain ⟨g64, hf⟩ := iN hf
      obtain ⟨x64, e64, hf⟩ := lN1 hf
      refine b_iast C ((kd7 C.cl hk0).1) g64 dX7_passes_64 ?_
      rw [e64]
      refine b_aload_n C dX7_passes_65 rfl 0 rfl ?_
      refine gfX7_7 C hk0 dX7_passes_66 ?_
      refine b_bipush (v := 108) C dX7_passes_69 (by decide) ?_
      obtain ⟨g71, hf⟩ := iN hf
      refine b_iald C ((kd7 C.cl hk0).1) g71 dX7_passes_71 ?_
      refine b_bipush (v := 12) C dX7_passes_72 (by decide) ?_
      refine b_icmp_ne (tgt := 120) C dX7_passes_74 (by decide) (fun c74 => ?_) (fun c74 => ?_)
      · have hf := iF c74 hf
        refine b_pm [0, 1] (lv' := [(0, .ref (G.2.2 i0)), (1, .int v1)]) rfl ?_
        exact wX7_passes_b120 C  hk0 hf
      · have hf := iT c74 hf
        refine b_aload_n C dX7_passes_77 rfl 0 rfl ?_
        refine gfX7_7 C hk0 dX7_passes_78 ?_
        refine b_bipush (v := 108) C dX7_passes_81 (by decide) ?_
        refine b_iconst (v := 0) C dX7_passes_83 (by decide) ?_
        obtain ⟨g84, hf⟩ := iN hf
        obtain ⟨x84, e84, hf⟩ := lN1 hf
        refine b_iast C ((kd7 C.cl hk0).1) g84 dX7_passes_84 ?_
        rw [e84]
        refine b_aload_n C dX7_passes_85 rfl 0 rfl ?_
        refine gfX7_7 C hk0 dX7_passes_86 ?_
        refine b_bipush (v := 109) C dX7_passes_89 (by decide) ?_
        refine b_dup2 C dX7_passes_91 rfl rfl ?_
        obtain ⟨g92, hf⟩ := iN hf
        refine b_iald C ((kd7 C.cl hk0).1) g92 dX7_passes_92 ?_
        refine b_iconst (v := 1) C dX7_passes_93 (by decide) ?_
        refine b_iadd C dX7_passes_94 ?_
        obtain ⟨g95, hf⟩ := iN hf
        obtain ⟨x95, e95, hf⟩ := lN1 hf
        refine b_iast C ((kd7 C.cl hk0).1) g95 dX7_passes_95 ?_
        rw [e95]
        refine b_iconst (v := 0) C dX7_passes_96 (by decide) ?_
        refine b_istore_n (lv' := [(2, .int 0), (0, .ref (G.2.2 i0)), (1, .int v1)]) C dX7_passes_97 rfl (by decide) rfl ?_
        refine b_pm [1, 2, 0] (lv' := [(0, .ref (G.2.2 i0)), (1, .int v1), (2, .int 0)]) rfl ?_
        exact wX7_passes_b98 C  hk0 FU _ _ _ hf
    · have hf := iF c6 hf
      refine b_aload_n C dX7_passes_9 rfl 0 rfl ?_
      refine gfX7_7 C hk0 dX7_passes_10 ?_
      refine b_iload_n C dX7_passes_13 rfl 2 rfl ?_
      refine b_aload_n C dX7_passes_14 rfl 0 rfl ?_
      refine gfX7_7 C hk0 dX7_passes_15 ?_
      refine b_bipush (v := 108) C dX7_passes_18 (by decide) ?_
      obtain ⟨g20, hf⟩ := iN hf
      refine b_iald C ((kd7 C.cl hk0).1) g20 dX7_passes_20 ?_
      obtain ⟨r21, c21, hf⟩ := oB hf
      refine b_callSi (As := [.int v2, .int (x.1 (i0 + 1) (108 : Int32).toNatClampNeg)]) (res := (r21, x)) C (metX7_ofBed l G _ _ _ _  c21) gkX7_40 ekX7_40 rfl ⟨rfl, rfl⟩ ⟨Nat.le_of_ble_eq_true rfl, Nat.le_of_ble_eq_true rfl⟩ (by simp [Value.category]) ⟨Nat.zero_le _, Nat.zero_le _⟩ rfl dX7_passes_21 ?_
      obtain ⟨g24, hf⟩ := iN hf
      refine b_iald C ((kd7 C.cl hk0).1) g24 dX7_passes_24 ?_
      obtain ⟨y25, e25, hf⟩ := lN1 hf
      rw [e25]
      refine b_istore_n (lv' := [(3, .int y25), (0, .ref (G.2.2 i0)), (1, .int v1), (2, .int v2)]) C dX7_passes_25 rfl (by decide) rfl ?_
      refine b_iload_n C dX7_passes_26 rfl 0 rfl ?_
      refine b_iconst (v := (-1)) C dX7_passes_27 (by decide) ?_
      refine b_icmp_eq (tgt := 48) C dX7_passes_28 (by decide) (fun c28 => ?_) (fun c28 => ?_)
      · have hf := iT c28 hf
        refine b_pm [1, 2, 3] (lv' := [(0, .ref (G.2.2 i0)), (1, .int v1), (2, .int v2)]) rfl ?_
        exact wX7_passes_b48 C ih hk0 hf
      · have hf := iF c28 hf
        refine b_aload_n C dX7_passes_31 rfl 1 rfl ?_
        refine gfX7_7 C hk0 dX7_passes_32 ?_
        refine b_iload_n C dX7_passes_35 rfl 0 rfl ?_
        refine b_iconst (v := 3) C dX7_passes_36 (by decide) ?_
        obtain ⟨r37, c37, hf⟩ := oB hf
        refine b_callSi (As := [.int y25, .int 3]) (res := (r37, x)) C (metX7_of l G _ _ _ _  c37) gkX7_25 ekX7_25 rfl ⟨rfl, rfl⟩ ⟨Nat.le_of_ble_eq_true rfl, Nat.le_of_ble_eq_true rfl⟩ (by simp [Value.category]) ⟨Nat.zero_le _, Nat.zero_le _⟩ rfl dX7_passes_37 ?_
        refine b_dup2 C dX7_passes_40 rfl rfl ?_
        obtain ⟨g41, hf⟩ := iN hf
        refine b_iald C ((kd7 C.cl hk0).1) g41 dX7_passes_41 ?_
        refine b_iconst (v := 1) C dX7_passes_42 (by decide) ?_
        refine b_iadd C dX7_passes_43 ?_
        obtain ⟨g44, hf⟩ := iN hf
        obtain ⟨x44, e44, hf⟩ := lN1 hf
        refine b_iast C ((kd7 C.cl hk0).1) g44 dX7_passes_44 ?_
        rw [e44]
        refine b_iinc (q := 2) (v' := (v1 + 1)) (lv' := [(1, .int (v1 + 1)), (3, .int y25), (0, .ref (G.2.2 i0)), (2, .int v2)]) C dX7_passes_45 rfl rfl (by decide) rfl ?_
        refine b_pm [2, 0, 3] (lv' := [(0, .ref (G.2.2 i0)), (1, .int (v1 + 1)), (2, .int v2)]) rfl ?_
        exact wX7_passes_b48 C ih hk0 hf
set_option maxHeartbeats 4000000 in
set_option maxRecDepth 100000 in
theorem wX7_passes_b0 (C : CT p s m args meth c cX7_passes 4 RX7 (some (.int)) G (pA G s.heap.size)) {i0 : Nat} {x : xS} {r : (Int32 × xS)} (hk0 : KD G i0 7) (hf : fX7_passes_b0 i0 x = some r) : WB p l e rX7_passes s m args below meth c 4 G (pA G s.heap.size) (qI below G r args s 0 0) 0 0 0 [(0, .ref (G.2.2 i0))] [] x := by
  unfold fX7_passes_b0 at hf
  refine b_iconst (v := 0) C dX7_passes_0 (by decide) ?_
  refine b_istore_n (lv' := [(1, .int 0), (0, .ref (G.2.2 i0))]) C dX7_passes_1 rfl (by decide) rfl ?_
  refine b_iconst (v := 0) C dX7_passes_2 (by decide) ?_
  refine b_istore_n (lv' := [(2, .int 0), (1, .int 0), (0, .ref (G.2.2 i0))]) C dX7_passes_3 rfl (by decide) rfl ?_
  refine b_pm [2, 1, 0] (lv' := [(0, .ref (G.2.2 i0)), (1, .int 0), (2, .int 0)]) rfl ?_
  exact wX7_passes_b4 C  hk0 FU _ _ _ hf
end
theorem metX7_passes (l : Launch) (G : gT) (i0 : Nat) (x : xS) (r : (Int32 × xS)) (hk0 : KD G i0 7) (hf : fX7_passes i0 x = some r) : cI l yX7_passes cX7_passes 4 (.int) rX7_passes [.ref (G.2.2 i0)] G x r :=
  b_body (by decide) (Nat.le_of_ble_eq_true rfl) rfl (fun p e s m args below meth c C => wX7_passes_b0 C hk0 hf)
-- X7_does
abbrev rX7_does : Room := { frames := 5, cells := 0, slots := 0, locals := 121 }
def fX7_does_b34 (i0 : Nat) (s0 : Int32) (x : xS) : Option (Int32 × xS) :=
  (if s0 < 10 then
  some (0, x)
  else
  some (1, x))
def fX7_does_b0 (i0 : Nat) (x : xS) : Option (Int32 × xS) :=
  (if (x.1 i0 12) = (-1) then
  Option.bind (fX7_passes i0 x) (fun r11 =>
  fX7_does_b34 i0 (10 + r11.1) r11.2)
  else
  Option.bind (fX7_asks i0 (x.1 i0 12) (x.1 i0 13) (x.1 i0 14) x) (fun r31 =>
  fX7_does_b34 i0 r31.1 r31.2))
def fX7_does (i0 : Nat) (x : xS) : Option (Int32 × xS) := fX7_does_b0 i0 x
section
variable {p : Program} {l : Launch} {e : Env} {R : Room} {s : State} {m : MethodId} {args : Array Value} {below : List Frame} {meth : Method} {c : Code} {G : gT}
set_option maxHeartbeats 4000000 in
set_option maxRecDepth 100000 in
theorem wX7_does_b34 (C : CT p s m args meth c cX7_does 1 RX7 (some (.int)) G (pA G s.heap.size)) {i0 : Nat} {s0 : Int32} {x : xS} {r : (Int32 × xS)} (hk0 : KD G i0 7) (hf : fX7_does_b34 i0 s0 x = some r) : WB p l e rX7_does s m args below meth c 1 G (pA G s.heap.size) (qI below G r args s 0 0) 0 0 34 [(0, .ref (G.2.2 i0))] [.int s0] x := by
  unfold fX7_does_b34 at hf
  refine b_bipush (v := 10) C dX7_does_34 (by decide) ?_
  refine b_icmp_lt (tgt := 43) C dX7_does_36 (by decide) (fun c36 => ?_) (fun c36 => ?_)
  · have hf := iT c36 hf
    refine b_iconst (v := 0) C dX7_does_43 (by decide) ?_
    exact b_ireti C dX7_does_44 hf
  · have hf := iF c36 hf
    refine b_iconst (v := 1) C dX7_does_39 (by decide) ?_
    refine b_goto (tgt := 44) C dX7_does_40 (by decide) ?_
    exact b_ireti C dX7_does_44 hf
set_option maxHeartbeats 4000000 in
set_option maxRecDepth 100000 in
theorem wX7_does_b0 (C : CT p s m args meth c cX7_does 1 RX7 (some (.int)) G (pA G s.heap.size)) {i0 : Nat} {x : xS} {r : (Int32 × xS)} (hk0 : KD G i0 7) (hf : fX7_does_b0 i0 x = some r) : WB p l e rX7_does s m args below meth c 1 G (pA G s.heap.size) (qI below G r args s 0 0) 0 0 0 [(0, .ref (G.2.2 i0))] [] x := by
  unfold fX7_does_b0 at hf
  refine b_aload_n C dX7_does_0 rfl 0 rfl ?_
  refine gfX7_110 C hk0 dX7_does_1 ?_
  refine b_iconst (v := (-1)) C dX7_does_4 (by decide) ?_
  refine b_icmp_ne (tgt := 18) C dX7_does_5 (by decide) (fun c5 => ?_) (fun c5 => ?_)
  · have hf := iF c5 hf
    refine b_aload_n C dX7_does_18 rfl 0 rfl ?_
    refine b_aload_n C dX7_does_19 rfl 0 rfl ?_
    refine gfX7_110 C hk0 dX7_does_20 ?_
    refine b_aload_n C dX7_does_23 rfl 0 rfl ?_
    refine gfX7_116 C hk0 dX7_does_24 ?_
    refine b_aload_n C dX7_does_27 rfl 0 rfl ?_
    refine gfX7_119 C hk0 dX7_does_28 ?_
    obtain ⟨r31, c31, hf⟩ := oB hf
    refine b_callVi (K := 7) (As := [.int (x.1 i0 12), .int (x.1 i0 13), .int (x.1 i0 14)]) (res := r31) C (metX7_asks l G _ _ _ _ _ _ hk0 c31) hk0 (by decide) rfl gkX7_84 ekX7_84 rfl ⟨rfl, rfl⟩ ⟨Nat.le_of_ble_eq_true rfl, Nat.le_of_ble_eq_true rfl⟩ (by simp [Value.category]) ⟨Nat.zero_le _, Nat.zero_le _⟩ rfl dX7_does_31 ?_
    exact wX7_does_b34 C  hk0 hf
  · have hf := iT c5 hf
    refine b_bipush (v := 10) C dX7_does_8 (by decide) ?_
    refine b_aload_n C dX7_does_10 rfl 0 rfl ?_
    obtain ⟨r11, c11, hf⟩ := oB hf
    refine b_callVi (K := 7) (As := []) (res := r11) C (metX7_passes l G _ _ _ hk0 c11) hk0 (by decide) rfl gkX7_94 ekX7_94 rfl ⟨rfl, rfl⟩ ⟨Nat.le_of_ble_eq_true rfl, Nat.le_of_ble_eq_true rfl⟩ (by simp [Value.category]) ⟨Nat.zero_le _, Nat.zero_le _⟩ rfl dX7_does_11 ?_
    refine b_iadd C dX7_does_14 ?_
    refine b_goto (tgt := 34) C dX7_does_15 (by decide) ?_
    exact wX7_does_b34 C  hk0 hf
end
theorem metX7_does (l : Launch) (G : gT) (i0 : Nat) (x : xS) (r : (Int32 × xS)) (hk0 : KD G i0 7) (hf : fX7_does i0 x = some r) : cI l yX7_does cX7_does 1 (.int) rX7_does [.ref (G.2.2 i0)] G x r :=
  b_body (by decide) (Nat.le_of_ble_eq_true rfl) rfl (fun p e s m args below meth c C => wX7_does_b0 C hk0 hf)
-- X7_refuses
abbrev rX7_refuses : Room := { frames := 0, cells := 0, slots := 0, locals := 0 }
def fX7_refuses_b0 (i0 : Nat) (x : xS) : Option (Int32 × xS) :=
  (if (118 : Int32) < 0 ∨ ln (i0 + 1) ≤ (118 : Int32).toNatClampNeg then none else
  (if (118 : Int32) < 0 ∨ ln (i0 + 1) ≤ (118 : Int32).toNatClampNeg then none else
  lt1 (up1 x (i0 + 1) (118 : Int32).toNatClampNeg ((x.1 (i0 + 1) (118 : Int32).toNatClampNeg) + 1)) (fun x10 =>
  some ((-1), x10))))
def fX7_refuses (i0 : Nat) (x : xS) : Option (Int32 × xS) := fX7_refuses_b0 i0 x
section
variable {p : Program} {l : Launch} {e : Env} {R : Room} {s : State} {m : MethodId} {args : Array Value} {below : List Frame} {meth : Method} {c : Code} {G : gT}
set_option maxHeartbeats 4000000 in
set_option maxRecDepth 100000 in
theorem wX7_refuses_b0 (C : CT p s m args meth c cX7_refuses 1 RX7 (some (.int)) G (pA G s.heap.size)) {i0 : Nat} {x : xS} {r : (Int32 × xS)} (hk0 : KD G i0 7) (hf : fX7_refuses_b0 i0 x = some r) : WB p l e rX7_refuses s m args below meth c 1 G (pA G s.heap.size) (qI below G r args s 0 0) 0 0 0 [(0, .ref (G.2.2 i0))] [] x := by
  unfold fX7_refuses_b0 at hf
  refine b_aload_n C dX7_refuses_0 rfl 0 rfl ?_
  refine gfX7_7 C hk0 dX7_refuses_1 ?_
  refine b_bipush (v := 118) C dX7_refuses_4 (by decide) ?_
  refine b_dup2 C dX7_refuses_6 rfl rfl ?_
  obtain ⟨g7, hf⟩ := iN hf
  refine b_iald C ((kd7 C.cl hk0).1) g7 dX7_refuses_7 ?_
  refine b_iconst (v := 1) C dX7_refuses_8 (by decide) ?_
  refine b_iadd C dX7_refuses_9 ?_
  obtain ⟨g10, hf⟩ := iN hf
  obtain ⟨x10, e10, hf⟩ := lN1 hf
  refine b_iast C ((kd7 C.cl hk0).1) g10 dX7_refuses_10 ?_
  rw [e10]
  refine b_iconst (v := (-1)) C dX7_refuses_11 (by decide) ?_
  exact b_ireti C dX7_refuses_12 hf
end
theorem metX7_refuses (l : Launch) (G : gT) (i0 : Nat) (x : xS) (r : (Int32 × xS)) (hk0 : KD G i0 7) (hf : fX7_refuses i0 x = some r) : cI l yX7_refuses cX7_refuses 1 (.int) rX7_refuses [.ref (G.2.2 i0)] G x r :=
  b_body (by decide) (Nat.le_of_ble_eq_true rfl) rfl (fun p e s m args below meth c C => wX7_refuses_b0 C hk0 hf)
-- X7_favour
abbrev rX7_favour : Room := { frames := 2, cells := 0, slots := 0, locals := 42 }
def fX7_favour_b13 (i0 : Nat) (v1 : Int32) (s1 : Int32) (x : xS) : Option (Int32 × xS) :=
  Option.bind (fX7_holds i0 s1 x) (fun r13 =>
  (if r13.1 = 0 then
  some (0, r13.2)
  else
  Option.bind (fX7_save i0 r13.2) (fun r22 =>
  Option.bind (fX7_of v1 2 r22) (fun r31 =>
  (if r31 < 0 ∨ ln (i0 + 1) ≤ r31.toNatClampNeg then none else
  (if (r22.1 (i0 + 1) r31.toNatClampNeg) = 3 then
  Option.bind (fX7_refuses i0 r22) (fun r40 =>
  some (r40.1, r40.2))
  else
  Option.bind (fX7_of v1 2 r22) (fun r50 =>
  (if r50 < 0 ∨ ln (i0 + 1) ≤ r50.toNatClampNeg then none else
  (if r50 < 0 ∨ ln (i0 + 1) ≤ r50.toNatClampNeg then none else
  lt1 (up1 r22 (i0 + 1) r50.toNatClampNeg ((r22.1 (i0 + 1) r50.toNatClampNeg) + 1)) (fun x57 =>
  Option.bind (fX7_of v1 2 x57) (fun r64 =>
  (if r64 < 0 ∨ ln (i0 + 1) ≤ r64.toNatClampNeg then none else
  some ((x57.1 (i0 + 1) r64.toNatClampNeg), x57)))))))))))))
def fX7_favour_b0 (i0 : Nat) (v1 : Int32) (x : xS) : Option (Int32 × xS) :=
  Option.bind (fX7_isLodger v1 x) (fun r2 =>
  (if r2 = 0 then
  fX7_favour_b13 i0 v1 1 x
  else
  fX7_favour_b13 i0 v1 0 x))
def fX7_favour (i0 : Nat) (v1 : Int32) (x : xS) : Option (Int32 × xS) := fX7_favour_b0 i0 v1 x
section
variable {p : Program} {l : Launch} {e : Env} {R : Room} {s : State} {m : MethodId} {args : Array Value} {below : List Frame} {meth : Method} {c : Code} {G : gT}
set_option maxHeartbeats 4000000 in
set_option maxRecDepth 100000 in
theorem wX7_favour_b13 (C : CT p s m args meth c cX7_favour 2 RX7 (some (.int)) G (pA G s.heap.size)) {i0 : Nat} {v1 : Int32} {s1 : Int32} {x : xS} {r : (Int32 × xS)} (hk0 : KD G i0 7) (hf : fX7_favour_b13 i0 v1 s1 x = some r) : WB p l e rX7_favour s m args below meth c 2 G (pA G s.heap.size) (qI below G r args s 0 0) 0 0 13 [(0, .ref (G.2.2 i0)), (1, .int v1)] [.int s1, .ref (G.2.2 i0)] x := by
  unfold fX7_favour_b13 at hf
  obtain ⟨r13, c13, hf⟩ := oB hf
  refine b_callVi (K := 7) (As := [.int s1]) (res := r13) C (metX7_holds l G _ _ _ _ hk0 c13) hk0 (by decide) rfl gkX7_78 ekX7_78 rfl ⟨rfl, rfl⟩ ⟨Nat.le_of_ble_eq_true rfl, Nat.le_of_ble_eq_true rfl⟩ (by simp [Value.category]) ⟨Nat.zero_le _, Nat.zero_le _⟩ rfl dX7_favour_13 ?_
  refine b_if_ne (tgt := 21) C dX7_favour_16 (by decide) (fun c16 => ?_) (fun c16 => ?_)
  · have hf := iF c16 hf
    refine b_aload_n C dX7_favour_21 rfl 0 rfl ?_
    obtain ⟨r22, c22, hf⟩ := oB hf
    refine b_callVv (K := 7) (As := []) (res := r22) C (metX7_save l G _ _ _ hk0 c22) hk0 (by decide) rfl gkX7_81 ekX7_81 rfl ⟨rfl, rfl⟩ ⟨Nat.le_of_ble_eq_true rfl, Nat.le_of_ble_eq_true rfl⟩ (by simp [Value.category]) ⟨Nat.zero_le _, Nat.zero_le _⟩ rfl dX7_favour_22 ?_
    refine b_aload_n C dX7_favour_25 rfl 0 rfl ?_
    refine gfX7_7 C hk0 dX7_favour_26 ?_
    refine b_iload_n C dX7_favour_29 rfl 1 rfl ?_
    refine b_iconst (v := 2) C dX7_favour_30 (by decide) ?_
    obtain ⟨r31, c31, hf⟩ := oB hf
    refine b_callSi (As := [.int v1, .int 2]) (res := (r31, r22)) C (metX7_of l G _ _ _ _  c31) gkX7_25 ekX7_25 rfl ⟨rfl, rfl⟩ ⟨Nat.le_of_ble_eq_true rfl, Nat.le_of_ble_eq_true rfl⟩ (by simp [Value.category]) ⟨Nat.zero_le _, Nat.zero_le _⟩ rfl dX7_favour_31 ?_
    obtain ⟨g34, hf⟩ := iN hf
    refine b_iald C ((kd7 C.cl hk0).1) g34 dX7_favour_34 ?_
    refine b_iconst (v := 3) C dX7_favour_35 (by decide) ?_
    refine b_icmp_ne (tgt := 44) C dX7_favour_36 (by decide) (fun c36 => ?_) (fun c36 => ?_)
    · have hf := iF c36 hf
      refine b_aload_n C dX7_favour_44 rfl 0 rfl ?_
      refine gfX7_7 C hk0 dX7_favour_45 ?_
      refine b_iload_n C dX7_favour_48 rfl 1 rfl ?_
      refine b_iconst (v := 2) C dX7_favour_49 (by decide) ?_
      obtain ⟨r50, c50, hf⟩ := oB hf
      refine b_callSi (As := [.int v1, .int 2]) (res := (r50, r22)) C (metX7_of l G _ _ _ _  c50) gkX7_25 ekX7_25 rfl ⟨rfl, rfl⟩ ⟨Nat.le_of_ble_eq_true rfl, Nat.le_of_ble_eq_true rfl⟩ (by simp [Value.category]) ⟨Nat.zero_le _, Nat.zero_le _⟩ rfl dX7_favour_50 ?_
      refine b_dup2 C dX7_favour_53 rfl rfl ?_
      obtain ⟨g54, hf⟩ := iN hf
      refine b_iald C ((kd7 C.cl hk0).1) g54 dX7_favour_54 ?_
      refine b_iconst (v := 1) C dX7_favour_55 (by decide) ?_
      refine b_iadd C dX7_favour_56 ?_
      obtain ⟨g57, hf⟩ := iN hf
      obtain ⟨x57, e57, hf⟩ := lN1 hf
      refine b_iast C ((kd7 C.cl hk0).1) g57 dX7_favour_57 ?_
      rw [e57]
      refine b_aload_n C dX7_favour_58 rfl 0 rfl ?_
      refine gfX7_7 C hk0 dX7_favour_59 ?_
      refine b_iload_n C dX7_favour_62 rfl 1 rfl ?_
      refine b_iconst (v := 2) C dX7_favour_63 (by decide) ?_
      obtain ⟨r64, c64, hf⟩ := oB hf
      refine b_callSi (As := [.int v1, .int 2]) (res := (r64, x57)) C (metX7_of l G _ _ _ _  c64) gkX7_25 ekX7_25 rfl ⟨rfl, rfl⟩ ⟨Nat.le_of_ble_eq_true rfl, Nat.le_of_ble_eq_true rfl⟩ (by simp [Value.category]) ⟨Nat.zero_le _, Nat.zero_le _⟩ rfl dX7_favour_64 ?_
      obtain ⟨g67, hf⟩ := iN hf
      refine b_iald C ((kd7 C.cl hk0).1) g67 dX7_favour_67 ?_
      exact b_ireti C dX7_favour_68 hf
    · have hf := iT c36 hf
      refine b_aload_n C dX7_favour_39 rfl 0 rfl ?_
      obtain ⟨r40, c40, hf⟩ := oB hf
      refine b_callVi (K := 7) (As := []) (res := r40) C (metX7_refuses l G _ _ _ hk0 c40) hk0 (by decide) rfl gkX7_87 ekX7_87 rfl ⟨rfl, rfl⟩ ⟨Nat.le_of_ble_eq_true rfl, Nat.le_of_ble_eq_true rfl⟩ (by simp [Value.category]) ⟨Nat.zero_le _, Nat.zero_le _⟩ rfl dX7_favour_40 ?_
      exact b_ireti C dX7_favour_43 hf
  · have hf := iT c16 hf
    refine b_iconst (v := 0) C dX7_favour_19 (by decide) ?_
    exact b_ireti C dX7_favour_20 hf
set_option maxHeartbeats 4000000 in
set_option maxRecDepth 100000 in
theorem wX7_favour_b0 (C : CT p s m args meth c cX7_favour 2 RX7 (some (.int)) G (pA G s.heap.size)) {i0 : Nat} {v1 : Int32} {x : xS} {r : (Int32 × xS)} (hk0 : KD G i0 7) (hf : fX7_favour_b0 i0 v1 x = some r) : WB p l e rX7_favour s m args below meth c 2 G (pA G s.heap.size) (qI below G r args s 0 0) 0 0 0 [(0, .ref (G.2.2 i0)), (1, .int v1)] [] x := by
  unfold fX7_favour_b0 at hf
  refine b_aload_n C dX7_favour_0 rfl 0 rfl ?_
  refine b_iload_n C dX7_favour_1 rfl 1 rfl ?_
  obtain ⟨r2, c2, hf⟩ := oB hf
  refine b_callSi (As := [.int v1]) (res := (r2, x)) C (metX7_isLodger l G _ _ _  c2) gkX7_70 ekX7_70 rfl ⟨rfl, rfl⟩ ⟨Nat.le_of_ble_eq_true rfl, Nat.le_of_ble_eq_true rfl⟩ (by simp [Value.category]) ⟨Nat.zero_le _, Nat.zero_le _⟩ rfl dX7_favour_2 ?_
  refine b_if_eq (tgt := 12) C dX7_favour_5 (by decide) (fun c5 => ?_) (fun c5 => ?_)
  · have hf := iT c5 hf
    refine b_iconst (v := 1) C dX7_favour_12 (by decide) ?_
    exact wX7_favour_b13 C  hk0 hf
  · have hf := iF c5 hf
    refine b_iconst (v := 0) C dX7_favour_8 (by decide) ?_
    refine b_goto (tgt := 13) C dX7_favour_9 (by decide) ?_
    exact wX7_favour_b13 C  hk0 hf
end
theorem metX7_favour (l : Launch) (G : gT) (i0 : Nat) (v1 : Int32) (x : xS) (r : (Int32 × xS)) (hk0 : KD G i0 7) (hf : fX7_favour i0 v1 x = some r) : cI l yX7_favour cX7_favour 2 (.int) rX7_favour [.ref (G.2.2 i0), .int v1] G x r :=
  b_body (by decide) (Nat.le_of_ble_eq_true rfl) rfl (fun p e s m args below meth c C => wX7_favour_b0 C hk0 hf)
-- X7_fewestBeds
abbrev rX7_fewestBeds : Room := { frames := 2, cells := 0, slots := 0, locals := 45 }
def fX7_fewestBeds_b15 (i0 : Nat) (s1 : Int32) (x : xS) : Option (Int32 × xS) :=
  Option.bind (fX7_holds i0 s1 x) (fun r15 =>
  (if r15.1 = 0 then
  some (0, r15.2)
  else
  Option.bind (fX7_mostAtOnce i0 r15.2) (fun r22 =>
  some (r22, r15.2))))
def fX7_fewestBeds_b0 (i0 : Nat) (v1 : Int32) (x : xS) : Option (Int32 × xS) :=
  Option.bind (fX7_in v1 0 1 x) (fun r4 =>
  (if r4 = 0 then
  fX7_fewestBeds_b15 i0 1 x
  else
  fX7_fewestBeds_b15 i0 0 x))
def fX7_fewestBeds (i0 : Nat) (v1 : Int32) (x : xS) : Option (Int32 × xS) := fX7_fewestBeds_b0 i0 v1 x
section
variable {p : Program} {l : Launch} {e : Env} {R : Room} {s : State} {m : MethodId} {args : Array Value} {below : List Frame} {meth : Method} {c : Code} {G : gT}
set_option maxHeartbeats 4000000 in
set_option maxRecDepth 100000 in
theorem wX7_fewestBeds_b15 (C : CT p s m args meth c cX7_fewestBeds 2 RX7 (some (.int)) G (pA G s.heap.size)) {i0 : Nat} {s1 : Int32} {x : xS} {r : (Int32 × xS)} (hk0 : KD G i0 7) (hf : fX7_fewestBeds_b15 i0 s1 x = some r) : WB p l e rX7_fewestBeds s m args below meth c 2 G (pA G s.heap.size) (qI below G r args s 0 0) 0 0 15 [(0, .ref (G.2.2 i0))] [.int s1, .ref (G.2.2 i0)] x := by
  unfold fX7_fewestBeds_b15 at hf
  obtain ⟨r15, c15, hf⟩ := oB hf
  refine b_callVi (K := 7) (As := [.int s1]) (res := r15) C (metX7_holds l G _ _ _ _ hk0 c15) hk0 (by decide) rfl gkX7_78 ekX7_78 rfl ⟨rfl, rfl⟩ ⟨Nat.le_of_ble_eq_true rfl, Nat.le_of_ble_eq_true rfl⟩ (by simp [Value.category]) ⟨Nat.zero_le _, Nat.zero_le _⟩ rfl dX7_fewestBeds_15 ?_
  refine b_if_eq (tgt := 28) C dX7_fewestBeds_18 (by decide) (fun c18 => ?_) (fun c18 => ?_)
  · have hf := iT c18 hf
    refine b_iconst (v := 0) C dX7_fewestBeds_28 (by decide) ?_
    exact b_ireti C dX7_fewestBeds_29 hf
  · have hf := iF c18 hf
    refine b_aload_n C dX7_fewestBeds_21 rfl 0 rfl ?_
    obtain ⟨r22, c22, hf⟩ := oB hf
    refine b_callVi (K := 7) (As := []) (res := (r22, r15.2)) C (metX7_mostAtOnce l G _ _ _ hk0 c22) hk0 (by decide) rfl gkX7_158 ekX7_158 rfl ⟨rfl, rfl⟩ ⟨Nat.le_of_ble_eq_true rfl, Nat.le_of_ble_eq_true rfl⟩ (by simp [Value.category]) ⟨Nat.zero_le _, Nat.zero_le _⟩ rfl dX7_fewestBeds_22 ?_
    refine b_goto (tgt := 29) C dX7_fewestBeds_25 (by decide) ?_
    exact b_ireti C dX7_fewestBeds_29 hf
set_option maxHeartbeats 4000000 in
set_option maxRecDepth 100000 in
theorem wX7_fewestBeds_b0 (C : CT p s m args meth c cX7_fewestBeds 2 RX7 (some (.int)) G (pA G s.heap.size)) {i0 : Nat} {v1 : Int32} {x : xS} {r : (Int32 × xS)} (hk0 : KD G i0 7) (hf : fX7_fewestBeds_b0 i0 v1 x = some r) : WB p l e rX7_fewestBeds s m args below meth c 2 G (pA G s.heap.size) (qI below G r args s 0 0) 0 0 0 [(0, .ref (G.2.2 i0)), (1, .int v1)] [] x := by
  unfold fX7_fewestBeds_b0 at hf
  refine b_aload_n C dX7_fewestBeds_0 rfl 0 rfl ?_
  refine b_iload_n C dX7_fewestBeds_1 rfl 1 rfl ?_
  refine b_iconst (v := 0) C dX7_fewestBeds_2 (by decide) ?_
  refine b_iconst (v := 1) C dX7_fewestBeds_3 (by decide) ?_
  obtain ⟨r4, c4, hf⟩ := oB hf
  refine b_callSi (As := [.int v1, .int 0, .int 1]) (res := (r4, x)) C (metX7_in l G _ _ _ _ _  c4) gkX7_33 ekX7_33 rfl ⟨rfl, rfl⟩ ⟨Nat.le_of_ble_eq_true rfl, Nat.le_of_ble_eq_true rfl⟩ (by simp [Value.category]) ⟨Nat.zero_le _, Nat.zero_le _⟩ rfl dX7_fewestBeds_4 ?_
  refine b_if_eq (tgt := 14) C dX7_fewestBeds_7 (by decide) (fun c7 => ?_) (fun c7 => ?_)
  · have hf := iT c7 hf
    refine b_iconst (v := 1) C dX7_fewestBeds_14 (by decide) ?_
    refine b_pm [0] (lv' := [(0, .ref (G.2.2 i0))]) rfl ?_
    exact wX7_fewestBeds_b15 C  hk0 hf
  · have hf := iF c7 hf
    refine b_iconst (v := 0) C dX7_fewestBeds_10 (by decide) ?_
    refine b_goto (tgt := 15) C dX7_fewestBeds_11 (by decide) ?_
    refine b_pm [0] (lv' := [(0, .ref (G.2.2 i0))]) rfl ?_
    exact wX7_fewestBeds_b15 C  hk0 hf
end
theorem metX7_fewestBeds (l : Launch) (G : gT) (i0 : Nat) (v1 : Int32) (x : xS) (r : (Int32 × xS)) (hk0 : KD G i0 7) (hf : fX7_fewestBeds i0 v1 x = some r) : cI l yX7_fewestBeds cX7_fewestBeds 2 (.int) rX7_fewestBeds [.ref (G.2.2 i0), .int v1] G x r :=
  b_body (by decide) (Nat.le_of_ble_eq_true rfl) rfl (fun p e s m args below meth c C => wX7_fewestBeds_b0 C hk0 hf)
-- X7_isNext
abbrev rX7_isNext : Room := { frames := 1, cells := 0, slots := 0, locals := 22 }
def fX7_isNext_b39 (i0 : Nat) (x : xS)  : Option Int32 :=
  some 0
def fX7_isNext_b0 (i0 : Nat) (v1 : Int32) (v2 : Int32) (x : xS)  : Option Int32 :=
  (if (x.1 i0 11) = 0 then
  (if (x.1 i0 8) ≤ (x.1 i0 10) then
  fX7_isNext_b39 i0 x 
  else
  (if (x.1 i0 10) < 0 ∨ ln (i0 + 5) ≤ (x.1 i0 10).toNatClampNeg then none else
  Option.bind (fX7_in (x.1 (i0 + 5) (x.1 i0 10).toNatClampNeg) v1 v2 x) (fun r29 =>
  (if r29 = 0 then
  fX7_isNext_b39 i0 x 
  else
  some 1))))
  else
  fX7_isNext_b39 i0 x )
def fX7_isNext (i0 : Nat) (v1 : Int32) (v2 : Int32) (x : xS) : Option Int32 := fX7_isNext_b0 i0 v1 v2 x
section
variable {p : Program} {l : Launch} {e : Env} {R : Room} {s : State} {m : MethodId} {args : Array Value} {below : List Frame} {meth : Method} {c : Code} {G : gT}
set_option maxHeartbeats 4000000 in
set_option maxRecDepth 100000 in
theorem wX7_isNext_b39 (C : CT p s m args meth c cX7_isNext 3 RX7 (some (.boolean)) G (pA G s.heap.size)) {i0 : Nat} {x : xS}  {r : Int32} (hk0 : KD G i0 7) (hf : fX7_isNext_b39 i0 x  = some r) : WB p l e rX7_isNext s m args below meth c 3 G (pA G s.heap.size) (qI below G (r, x) args s 0 0) 0 0 39 [(0, .ref (G.2.2 i0))] [] x := by
  unfold fX7_isNext_b39 at hf
  refine b_iconst (v := 0) C dX7_isNext_39 (by decide) ?_
  exact b_iretz C (by decide) dX7_isNext_40 (congrArg (Option.map (fun q => (q, x))) hf)
set_option maxHeartbeats 4000000 in
set_option maxRecDepth 100000 in
theorem wX7_isNext_b0 (C : CT p s m args meth c cX7_isNext 3 RX7 (some (.boolean)) G (pA G s.heap.size)) {i0 : Nat} {v1 : Int32} {v2 : Int32} {x : xS}  {r : Int32} (hk0 : KD G i0 7) (hf : fX7_isNext_b0 i0 v1 v2 x  = some r) : WB p l e rX7_isNext s m args below meth c 3 G (pA G s.heap.size) (qI below G (r, x) args s 0 0) 0 0 0 [(0, .ref (G.2.2 i0)), (1, .int v1), (2, .int v2)] [] x := by
  unfold fX7_isNext_b0 at hf
  refine b_aload_n C dX7_isNext_0 rfl 0 rfl ?_
  refine gfX7_100 C hk0 dX7_isNext_1 ?_
  refine b_if_ne (tgt := 39) C dX7_isNext_4 (by decide) (fun c4 => ?_) (fun c4 => ?_)
  · have hf := iF c4 hf
    refine b_pm [0] (lv' := [(0, .ref (G.2.2 i0))]) rfl ?_
    exact wX7_isNext_b39 C  hk0 hf
  · have hf := iT c4 hf
    refine b_aload_n C dX7_isNext_7 rfl 0 rfl ?_
    refine gfX7_104 C hk0 dX7_isNext_8 ?_
    refine b_aload_n C dX7_isNext_11 rfl 0 rfl ?_
    refine gfX7_97 C hk0 dX7_isNext_12 ?_
    refine b_icmp_ge (tgt := 39) C dX7_isNext_15 (by decide) (fun c15 => ?_) (fun c15 => ?_)
    · have hf := iT c15 hf
      refine b_pm [0] (lv' := [(0, .ref (G.2.2 i0))]) rfl ?_
      exact wX7_isNext_b39 C  hk0 hf
    · have hf := iF c15 hf
      refine b_aload_n C dX7_isNext_18 rfl 0 rfl ?_
      refine gfX7_22 C hk0 dX7_isNext_19 ?_
      refine b_aload_n C dX7_isNext_22 rfl 0 rfl ?_
      refine gfX7_104 C hk0 dX7_isNext_23 ?_
      obtain ⟨g26, hf⟩ := iN hf
      refine b_iald C ((kd7 C.cl hk0).2.2.2.2) g26 dX7_isNext_26 ?_
      refine b_iload_n C dX7_isNext_27 rfl 1 rfl ?_
      refine b_iload_n C dX7_isNext_28 rfl 2 rfl ?_
      obtain ⟨r29, c29, hf⟩ := oB hf
      refine b_callSi (As := [.int (x.1 (i0 + 5) (x.1 i0 10).toNatClampNeg), .int v1, .int v2]) (res := (r29, x)) C (metX7_in l G _ _ _ _ _  c29) gkX7_33 ekX7_33 rfl ⟨rfl, rfl⟩ ⟨Nat.le_of_ble_eq_true rfl, Nat.le_of_ble_eq_true rfl⟩ (by simp [Value.category]) ⟨Nat.zero_le _, Nat.zero_le _⟩ rfl dX7_isNext_29 ?_
      refine b_if_eq (tgt := 39) C dX7_isNext_32 (by decide) (fun c32 => ?_) (fun c32 => ?_)
      · have hf := iT c32 hf
        refine b_pm [0] (lv' := [(0, .ref (G.2.2 i0))]) rfl ?_
        exact wX7_isNext_b39 C  hk0 hf
      · have hf := iF c32 hf
        refine b_iconst (v := 1) C dX7_isNext_35 (by decide) ?_
        refine b_goto (tgt := 40) C dX7_isNext_36 (by decide) ?_
        exact b_iretz C (by decide) dX7_isNext_40 (congrArg (Option.map (fun q => (q, x))) hf)
end
theorem metX7_isNext (l : Launch) (G : gT) (i0 : Nat) (v1 : Int32) (v2 : Int32) (x : xS) (r : Int32) (hk0 : KD G i0 7) (hf : fX7_isNext i0 v1 v2 x = some r) : cI l yX7_isNext cX7_isNext 3 (.boolean) rX7_isNext [.ref (G.2.2 i0), .int v1, .int v2] G x (r, x) :=
  b_body (by decide) (Nat.le_of_ble_eq_true rfl) rfl (fun p e s m args below meth c C => wX7_isNext_b0 C hk0 hf)
-- X7_takes
abbrev rX7_takes : Room := { frames := 2, cells := 0, slots := 0, locals := 44 }
def fX7_takes_b63 (i0 : Nat) (v4 : Int32) (s1 : Int32) (x : xS) : Option (Int32 × xS) :=
  (if s1 &&& 1 = s1 then
  lt1 (up1 x i0 11 s1) (fun x63 =>
  some (v4, x63)) else none)
def fX7_takes_b58 (i0 : Nat) (v4 : Int32) (x : xS) : Option (Int32 × xS) :=
  fX7_takes_b63 i0 v4 1 x
def fX7_takes_b42 (i0 : Nat) (v3 : Int32) (v4 : Int32) (s1 : Int32) (s2 : Int32) (x : xS) : Option (Int32 × xS) :=
  lt1 (up1 x i0 10 (s1 + s2)) (fun x43 =>
  (if (x43.1 i0 11) = 0 then
  (if v3 = 0 then
  fX7_takes_b58 i0 v4 x43
  else
  fX7_takes_b63 i0 v4 0 x43)
  else
  fX7_takes_b58 i0 v4 x43))
def fX7_takes_b26 (i0 : Nat) (v3 : Int32) (s0 : Int32) (x : xS) : Option (Int32 × xS) :=
  (if v3 = 0 then
  fX7_takes_b42 i0 v3 s0 (x.1 i0 10) 0 x
  else
  fX7_takes_b42 i0 v3 s0 (x.1 i0 10) 1 x)
def fX7_takes_b0 (i0 : Nat) (v1 : Int32) (v2 : Int32) (x : xS) : Option (Int32 × xS) :=
  Option.bind (fX7_isNext i0 v1 v2 x) (fun r3 =>
  (if r3 = 0 then
  fX7_takes_b26 i0 r3 0 x
  else
  (if (x.1 i0 10) < 0 ∨ ln (i0 + 5) ≤ (x.1 i0 10).toNatClampNeg then none else
  fX7_takes_b26 i0 r3 ((x.1 (i0 + 5) (x.1 i0 10).toNatClampNeg) - v1) x)))
def fX7_takes (i0 : Nat) (v1 : Int32) (v2 : Int32) (x : xS) : Option (Int32 × xS) := fX7_takes_b0 i0 v1 v2 x
section
variable {p : Program} {l : Launch} {e : Env} {R : Room} {s : State} {m : MethodId} {args : Array Value} {below : List Frame} {meth : Method} {c : Code} {G : gT}
set_option maxHeartbeats 4000000 in
set_option maxRecDepth 100000 in
theorem wX7_takes_b63 (C : CT p s m args meth c cX7_takes 5 RX7 (some (.int)) G (pA G s.heap.size)) {i0 : Nat} {v4 : Int32} {s1 : Int32} {x : xS} {r : (Int32 × xS)} (hk0 : KD G i0 7) (hf : fX7_takes_b63 i0 v4 s1 x = some r) : WB p l e rX7_takes s m args below meth c 5 G (pA G s.heap.size) (qI below G r args s 0 0) 0 0 63 [(0, .ref (G.2.2 i0)), (4, .int v4)] [.int s1, .ref (G.2.2 i0)] x := by
  unfold fX7_takes_b63 at hf
  obtain ⟨g63, hf⟩ := iP hf
  obtain ⟨x63, e63, hf⟩ := lN1 hf
  refine pfX7_100 C hk0 g63 dX7_takes_63 e63 ?_
  refine b_iload C dX7_takes_66 1 rfl ?_
  exact b_ireti C dX7_takes_68 hf
set_option maxHeartbeats 4000000 in
set_option maxRecDepth 100000 in
theorem wX7_takes_b58 (C : CT p s m args meth c cX7_takes 5 RX7 (some (.int)) G (pA G s.heap.size)) {i0 : Nat} {v4 : Int32} {x : xS} {r : (Int32 × xS)} (hk0 : KD G i0 7) (hf : fX7_takes_b58 i0 v4 x = some r) : WB p l e rX7_takes s m args below meth c 5 G (pA G s.heap.size) (qI below G r args s 0 0) 0 0 58 [(0, .ref (G.2.2 i0)), (4, .int v4)] [.ref (G.2.2 i0)] x := by
  unfold fX7_takes_b58 at hf
  refine b_iconst (v := 1) C dX7_takes_58 (by decide) ?_
  refine b_goto (tgt := 63) C dX7_takes_59 (by decide) ?_
  exact wX7_takes_b63 C  hk0 hf
set_option maxHeartbeats 4000000 in
set_option maxRecDepth 100000 in
theorem wX7_takes_b42 (C : CT p s m args meth c cX7_takes 5 RX7 (some (.int)) G (pA G s.heap.size)) {i0 : Nat} {v3 : Int32} {v4 : Int32} {s1 : Int32} {s2 : Int32} {x : xS} {r : (Int32 × xS)} (hk0 : KD G i0 7) (hf : fX7_takes_b42 i0 v3 v4 s1 s2 x = some r) : WB p l e rX7_takes s m args below meth c 5 G (pA G s.heap.size) (qI below G r args s 0 0) 0 0 42 [(0, .ref (G.2.2 i0)), (3, .int v3), (4, .int v4)] [.int s2, .int s1, .ref (G.2.2 i0)] x := by
  unfold fX7_takes_b42 at hf
  refine b_iadd C dX7_takes_42 ?_
  obtain ⟨x43, e43, hf⟩ := lN1 hf
  refine pfX7_104 C hk0 dX7_takes_43 e43 ?_
  refine b_aload_n C dX7_takes_46 rfl 0 rfl ?_
  refine b_aload_n C dX7_takes_47 rfl 0 rfl ?_
  refine gfX7_100 C hk0 dX7_takes_48 ?_
  refine b_if_ne (tgt := 58) C dX7_takes_51 (by decide) (fun c51 => ?_) (fun c51 => ?_)
  · have hf := iF c51 hf
    refine b_pm [0, 2] (lv' := [(0, .ref (G.2.2 i0)), (4, .int v4)]) rfl ?_
    exact wX7_takes_b58 C  hk0 hf
  · have hf := iT c51 hf
    refine b_iload_n C dX7_takes_54 rfl 1 rfl ?_
    refine b_if_ne (tgt := 62) C dX7_takes_55 (by decide) (fun c55 => ?_) (fun c55 => ?_)
    · have hf := iF c55 hf
      refine b_iconst (v := 0) C dX7_takes_62 (by decide) ?_
      refine b_pm [0, 2] (lv' := [(0, .ref (G.2.2 i0)), (4, .int v4)]) rfl ?_
      exact wX7_takes_b63 C  hk0 hf
    · have hf := iT c55 hf
      refine b_pm [0, 2] (lv' := [(0, .ref (G.2.2 i0)), (4, .int v4)]) rfl ?_
      exact wX7_takes_b58 C  hk0 hf
set_option maxHeartbeats 4000000 in
set_option maxRecDepth 100000 in
theorem wX7_takes_b26 (C : CT p s m args meth c cX7_takes 5 RX7 (some (.int)) G (pA G s.heap.size)) {i0 : Nat} {v3 : Int32} {s0 : Int32} {x : xS} {r : (Int32 × xS)} (hk0 : KD G i0 7) (hf : fX7_takes_b26 i0 v3 s0 x = some r) : WB p l e rX7_takes s m args below meth c 5 G (pA G s.heap.size) (qI below G r args s 0 0) 0 0 26 [(0, .ref (G.2.2 i0)), (3, .int v3)] [.int s0] x := by
  unfold fX7_takes_b26 at hf
  refine b_istore (lv' := [(4, .int s0), (0, .ref (G.2.2 i0)), (3, .int v3)]) C dX7_takes_26 (by decide) rfl ?_
  refine b_aload_n C dX7_takes_28 rfl 1 rfl ?_
  refine b_dup C dX7_takes_29 rfl ?_
  refine gfX7_104 C hk0 dX7_takes_30 ?_
  refine b_iload_n C dX7_takes_33 rfl 2 rfl ?_
  refine b_if_eq (tgt := 41) C dX7_takes_34 (by decide) (fun c34 => ?_) (fun c34 => ?_)
  · have hf := iT c34 hf
    refine b_iconst (v := 0) C dX7_takes_41 (by decide) ?_
    refine b_pm [1, 2, 0] (lv' := [(0, .ref (G.2.2 i0)), (3, .int v3), (4, .int s0)]) rfl ?_
    exact wX7_takes_b42 C  hk0 hf
  · have hf := iF c34 hf
    refine b_iconst (v := 1) C dX7_takes_37 (by decide) ?_
    refine b_goto (tgt := 42) C dX7_takes_38 (by decide) ?_
    refine b_pm [1, 2, 0] (lv' := [(0, .ref (G.2.2 i0)), (3, .int v3), (4, .int s0)]) rfl ?_
    exact wX7_takes_b42 C  hk0 hf
set_option maxHeartbeats 4000000 in
set_option maxRecDepth 100000 in
theorem wX7_takes_b0 (C : CT p s m args meth c cX7_takes 5 RX7 (some (.int)) G (pA G s.heap.size)) {i0 : Nat} {v1 : Int32} {v2 : Int32} {x : xS} {r : (Int32 × xS)} (hk0 : KD G i0 7) (hf : fX7_takes_b0 i0 v1 v2 x = some r) : WB p l e rX7_takes s m args below meth c 5 G (pA G s.heap.size) (qI below G r args s 0 0) 0 0 0 [(0, .ref (G.2.2 i0)), (1, .int v1), (2, .int v2)] [] x := by
  unfold fX7_takes_b0 at hf
  refine b_aload_n C dX7_takes_0 rfl 0 rfl ?_
  refine b_iload_n C dX7_takes_1 rfl 1 rfl ?_
  refine b_iload_n C dX7_takes_2 rfl 2 rfl ?_
  obtain ⟨r3, c3, hf⟩ := oB hf
  refine b_callVi (K := 7) (As := [.int v1, .int v2]) (res := (r3, x)) C (metX7_isNext l G _ _ _ _ _ hk0 c3) hk0 (by decide) rfl gkX7_107 ekX7_107 rfl ⟨rfl, rfl⟩ ⟨Nat.le_of_ble_eq_true rfl, Nat.le_of_ble_eq_true rfl⟩ (by simp [Value.category]) ⟨Nat.zero_le _, Nat.zero_le _⟩ rfl dX7_takes_3 ?_
  refine b_istore_n (lv' := [(3, .int r3), (0, .ref (G.2.2 i0)), (1, .int v1), (2, .int v2)]) C dX7_takes_6 rfl (by decide) rfl ?_
  refine b_iload_n C dX7_takes_7 rfl 0 rfl ?_
  refine b_if_eq (tgt := 25) C dX7_takes_8 (by decide) (fun c8 => ?_) (fun c8 => ?_)
  · have hf := iT c8 hf
    refine b_iconst (v := 0) C dX7_takes_25 (by decide) ?_
    refine b_pm [1, 0] (lv' := [(0, .ref (G.2.2 i0)), (3, .int r3)]) rfl ?_
    exact wX7_takes_b26 C  hk0 hf
  · have hf := iF c8 hf
    refine b_aload_n C dX7_takes_11 rfl 1 rfl ?_
    refine gfX7_22 C hk0 dX7_takes_12 ?_
    refine b_aload_n C dX7_takes_15 rfl 1 rfl ?_
    refine gfX7_104 C hk0 dX7_takes_16 ?_
    obtain ⟨g19, hf⟩ := iN hf
    refine b_iald C ((kd7 C.cl hk0).2.2.2.2) g19 dX7_takes_19 ?_
    refine b_iload_n C dX7_takes_20 rfl 2 rfl ?_
    refine b_isub C dX7_takes_21 ?_
    refine b_goto (tgt := 26) C dX7_takes_22 (by decide) ?_
    refine b_pm [1, 0] (lv' := [(0, .ref (G.2.2 i0)), (3, .int r3)]) rfl ?_
    exact wX7_takes_b26 C  hk0 hf
end
theorem metX7_takes (l : Launch) (G : gT) (i0 : Nat) (v1 : Int32) (v2 : Int32) (x : xS) (r : (Int32 × xS)) (hk0 : KD G i0 7) (hf : fX7_takes i0 v1 v2 x = some r) : cI l yX7_takes cX7_takes 5 (.int) rX7_takes [.ref (G.2.2 i0), .int v1, .int v2] G x r :=
  b_body (by decide) (Nat.le_of_ble_eq_true rfl) rfl (fun p e s m args below meth c C => wX7_takes_b0 C hk0 hf)
-- X7_readOne
abbrev rX7_readOne : Room := { frames := 3, cells := 0, slots := 0, locals := 68 }
def fX7_readOne_b0 (i0 : Nat) (x : xS) : Option xS :=
  Option.bind (fX7_isNext i0 104 104 x) (fun r5 =>
  (if r5 = 0 then
  Option.bind (fX7_takes i0 48 57 x) (fun r33 =>
  lt1 (up1 r33.2 i0 12 r33.1) (fun x36 =>
  Option.bind (fX7_takes i0 64 64 x36) (fun r44 =>
  Option.bind (fX7_takes i0 97 108 r44.2) (fun r54 =>
  lt1 (up1 r54.2 i0 13 r54.1) (fun x57 =>
  Option.bind (fX7_takes i0 49 57 x57) (fun r67 =>
  lt1 (up1 r67.2 i0 14 (1 + r67.1)) (fun x71 =>
  some x71)))))))
  else
  lt1 (up1 x i0 10 ((x.1 i0 10) + 1)) (fun x18 =>
  lt1 (up1 x18 i0 12 (-1)) (fun x23 =>
  some x23))))
def fX7_readOne (i0 : Nat) (x : xS) : Option xS := fX7_readOne_b0 i0 x
section
variable {p : Program} {l : Launch} {e : Env} {R : Room} {s : State} {m : MethodId} {args : Array Value} {below : List Frame} {meth : Method} {c : Code} {G : gT}
set_option maxHeartbeats 4000000 in
set_option maxRecDepth 100000 in
theorem wX7_readOne_b0 (C : CT p s m args meth c cX7_readOne 2 RX7 none G (pA G s.heap.size)) {i0 : Nat} {x : xS} {r : xS} (hk0 : KD G i0 7) (hf : fX7_readOne_b0 i0 x = some r) : WB p l e rX7_readOne s m args below meth c 2 G (pA G s.heap.size) (qV below G r args s 0 0) 0 0 0 [(0, .ref (G.2.2 i0))] [] x := by
  unfold fX7_readOne_b0 at hf
  refine b_aload_n C dX7_readOne_0 rfl 0 rfl ?_
  refine b_bipush (v := 104) C dX7_readOne_1 (by decide) ?_
  refine b_bipush (v := 104) C dX7_readOne_3 (by decide) ?_
  obtain ⟨r5, c5, hf⟩ := oB hf
  refine b_callVi (K := 7) (As := [.int 104, .int 104]) (res := (r5, x)) C (metX7_isNext l G _ _ _ _ _ hk0 c5) hk0 (by decide) rfl gkX7_107 ekX7_107 rfl ⟨rfl, rfl⟩ ⟨Nat.le_of_ble_eq_true rfl, Nat.le_of_ble_eq_true rfl⟩ (by simp [Value.category]) ⟨Nat.zero_le _, Nat.zero_le _⟩ rfl dX7_readOne_5 ?_
  refine b_if_eq (tgt := 27) C dX7_readOne_8 (by decide) (fun c8 => ?_) (fun c8 => ?_)
  · have hf := iT c8 hf
    refine b_aload_n C dX7_readOne_27 rfl 0 rfl ?_
    refine b_aload_n C dX7_readOne_28 rfl 0 rfl ?_
    refine b_bipush (v := 48) C dX7_readOne_29 (by decide) ?_
    refine b_bipush (v := 57) C dX7_readOne_31 (by decide) ?_
    obtain ⟨r33, c33, hf⟩ := oB hf
    refine b_callVi (K := 7) (As := [.int 48, .int 57]) (res := r33) C (metX7_takes l G _ _ _ _ _ hk0 c33) hk0 (by decide) rfl gkX7_113 ekX7_113 rfl ⟨rfl, rfl⟩ ⟨Nat.le_of_ble_eq_true rfl, Nat.le_of_ble_eq_true rfl⟩ (by simp [Value.category]) ⟨Nat.zero_le _, Nat.zero_le _⟩ rfl dX7_readOne_33 ?_
    obtain ⟨x36, e36, hf⟩ := lN1 hf
    refine pfX7_110 C hk0 dX7_readOne_36 e36 ?_
    refine b_aload_n C dX7_readOne_39 rfl 0 rfl ?_
    refine b_bipush (v := 64) C dX7_readOne_40 (by decide) ?_
    refine b_bipush (v := 64) C dX7_readOne_42 (by decide) ?_
    obtain ⟨r44, c44, hf⟩ := oB hf
    refine b_callVi (K := 7) (As := [.int 64, .int 64]) (res := r44) C (metX7_takes l G _ _ _ _ _ hk0 c44) hk0 (by decide) rfl gkX7_113 ekX7_113 rfl ⟨rfl, rfl⟩ ⟨Nat.le_of_ble_eq_true rfl, Nat.le_of_ble_eq_true rfl⟩ (by simp [Value.category]) ⟨Nat.zero_le _, Nat.zero_le _⟩ rfl dX7_readOne_44 ?_
    refine b_istore_n (lv' := [(1, .int r44.1), (0, .ref (G.2.2 i0))]) C dX7_readOne_47 rfl (by decide) rfl ?_
    refine b_aload_n C dX7_readOne_48 rfl 1 rfl ?_
    refine b_aload_n C dX7_readOne_49 rfl 1 rfl ?_
    refine b_bipush (v := 97) C dX7_readOne_50 (by decide) ?_
    refine b_bipush (v := 108) C dX7_readOne_52 (by decide) ?_
    obtain ⟨r54, c54, hf⟩ := oB hf
    refine b_callVi (K := 7) (As := [.int 97, .int 108]) (res := r54) C (metX7_takes l G _ _ _ _ _ hk0 c54) hk0 (by decide) rfl gkX7_113 ekX7_113 rfl ⟨rfl, rfl⟩ ⟨Nat.le_of_ble_eq_true rfl, Nat.le_of_ble_eq_true rfl⟩ (by simp [Value.category]) ⟨Nat.zero_le _, Nat.zero_le _⟩ rfl dX7_readOne_54 ?_
    obtain ⟨x57, e57, hf⟩ := lN1 hf
    refine pfX7_116 C hk0 dX7_readOne_57 e57 ?_
    refine b_aload_n C dX7_readOne_60 rfl 1 rfl ?_
    refine b_iconst (v := 1) C dX7_readOne_61 (by decide) ?_
    refine b_aload_n C dX7_readOne_62 rfl 1 rfl ?_
    refine b_bipush (v := 49) C dX7_readOne_63 (by decide) ?_
    refine b_bipush (v := 57) C dX7_readOne_65 (by decide) ?_
    obtain ⟨r67, c67, hf⟩ := oB hf
    refine b_callVi (K := 7) (As := [.int 49, .int 57]) (res := r67) C (metX7_takes l G _ _ _ _ _ hk0 c67) hk0 (by decide) rfl gkX7_113 ekX7_113 rfl ⟨rfl, rfl⟩ ⟨Nat.le_of_ble_eq_true rfl, Nat.le_of_ble_eq_true rfl⟩ (by simp [Value.category]) ⟨Nat.zero_le _, Nat.zero_le _⟩ rfl dX7_readOne_67 ?_
    refine b_iadd C dX7_readOne_70 ?_
    obtain ⟨x71, e71, hf⟩ := lN1 hf
    refine pfX7_119 C hk0 dX7_readOne_71 e71 ?_
    exact b_vret C dX7_readOne_74 hf
  · have hf := iF c8 hf
    refine b_aload_n C dX7_readOne_11 rfl 0 rfl ?_
    refine b_dup C dX7_readOne_12 rfl ?_
    refine gfX7_104 C hk0 dX7_readOne_13 ?_
    refine b_iconst (v := 1) C dX7_readOne_16 (by decide) ?_
    refine b_iadd C dX7_readOne_17 ?_
    obtain ⟨x18, e18, hf⟩ := lN1 hf
    refine pfX7_104 C hk0 dX7_readOne_18 e18 ?_
    refine b_aload_n C dX7_readOne_21 rfl 0 rfl ?_
    refine b_iconst (v := (-1)) C dX7_readOne_22 (by decide) ?_
    obtain ⟨x23, e23, hf⟩ := lN1 hf
    refine pfX7_110 C hk0 dX7_readOne_23 e23 ?_
    exact b_vret C dX7_readOne_26 hf
end
theorem metX7_readOne (l : Launch) (G : gT) (i0 : Nat) (x : xS) (r : xS) (hk0 : KD G i0 7) (hf : fX7_readOne i0 x = some r) : cV l yX7_readOne cX7_readOne 2 rX7_readOne [.ref (G.2.2 i0)] G x r :=
  b_body (by decide) (Nat.le_of_ble_eq_true rfl) rfl (fun p e s m args below meth c C => wX7_readOne_b0 C hk0 hf)
-- X7_isPossible
abbrev rX7_isPossible : Room := { frames := 2, cells := 0, slots := 0, locals := 43 }
def fX7_isPossible_b0 (i0 : Nat) (x : xS)  : Option Int32 :=
  (if (x.1 i0 12) = (-1) then
  (if (109 : Int32) < 0 ∨ ln (i0 + 1) ≤ (109 : Int32).toNatClampNeg then none else
  (if (999 : Int32) ≤ (x.1 (i0 + 1) (109 : Int32).toNatClampNeg) then
  some 0
  else
  some 1))
  else
  Option.bind (fX7_isTime (x.1 i0 13) (x.1 i0 14) x) (fun r37 =>
  (if r37 &&& 1 = r37 then some r37 else none)))
def fX7_isPossible (i0 : Nat) (x : xS) : Option Int32 := fX7_isPossible_b0 i0 x
section
variable {p : Program} {l : Launch} {e : Env} {R : Room} {s : State} {m : MethodId} {args : Array Value} {below : List Frame} {meth : Method} {c : Code} {G : gT}
set_option maxHeartbeats 4000000 in
set_option maxRecDepth 100000 in
theorem wX7_isPossible_b0 (C : CT p s m args meth c cX7_isPossible 1 RX7 (some (.boolean)) G (pA G s.heap.size)) {i0 : Nat} {x : xS}  {r : Int32} (hk0 : KD G i0 7) (hf : fX7_isPossible_b0 i0 x  = some r) : WB p l e rX7_isPossible s m args below meth c 1 G (pA G s.heap.size) (qI below G (r, x) args s 0 0) 0 0 0 [(0, .ref (G.2.2 i0))] [] x := by
  unfold fX7_isPossible_b0 at hf
  refine b_aload_n C dX7_isPossible_0 rfl 0 rfl ?_
  refine gfX7_110 C hk0 dX7_isPossible_1 ?_
  refine b_iconst (v := (-1)) C dX7_isPossible_4 (by decide) ?_
  refine b_icmp_ne (tgt := 29) C dX7_isPossible_5 (by decide) (fun c5 => ?_) (fun c5 => ?_)
  · have hf := iF c5 hf
    refine b_aload_n C dX7_isPossible_29 rfl 0 rfl ?_
    refine gfX7_116 C hk0 dX7_isPossible_30 ?_
    refine b_aload_n C dX7_isPossible_33 rfl 0 rfl ?_
    refine gfX7_119 C hk0 dX7_isPossible_34 ?_
    obtain ⟨r37, c37, hf⟩ := oB hf
    refine b_callSi (As := [.int (x.1 i0 13), .int (x.1 i0 14)]) (res := (r37, x)) C (metX7_isTime l G _ _ _ _  c37) gkX7_74 ekX7_74 rfl ⟨rfl, rfl⟩ ⟨Nat.le_of_ble_eq_true rfl, Nat.le_of_ble_eq_true rfl⟩ (by simp [Value.category]) ⟨Nat.zero_le _, Nat.zero_le _⟩ rfl dX7_isPossible_37 ?_
    obtain ⟨g40, hf⟩ := iP hf
    exact b_iretz C g40 dX7_isPossible_40 (congrArg (Option.map (fun q => (q, x))) hf)
  · have hf := iT c5 hf
    refine b_aload_n C dX7_isPossible_8 rfl 0 rfl ?_
    refine gfX7_7 C hk0 dX7_isPossible_9 ?_
    refine b_bipush (v := 109) C dX7_isPossible_12 (by decide) ?_
    obtain ⟨g14, hf⟩ := iN hf
    refine b_iald C ((kd7 C.cl hk0).1) g14 dX7_isPossible_14 ?_
    refine b_sipush (v := 999) C dX7_isPossible_15 (by decide) ?_
    refine b_icmp_ge (tgt := 25) C dX7_isPossible_18 (by decide) (fun c18 => ?_) (fun c18 => ?_)
    · have hf := iT c18 hf
      refine b_iconst (v := 0) C dX7_isPossible_25 (by decide) ?_
      refine b_goto (tgt := 40) C dX7_isPossible_26 (by decide) ?_
      exact b_iretz C (by decide) dX7_isPossible_40 (congrArg (Option.map (fun q => (q, x))) hf)
    · have hf := iF c18 hf
      refine b_iconst (v := 1) C dX7_isPossible_21 (by decide) ?_
      refine b_goto (tgt := 40) C dX7_isPossible_22 (by decide) ?_
      exact b_iretz C (by decide) dX7_isPossible_40 (congrArg (Option.map (fun q => (q, x))) hf)
end
theorem metX7_isPossible (l : Launch) (G : gT) (i0 : Nat) (x : xS) (r : Int32) (hk0 : KD G i0 7) (hf : fX7_isPossible i0 x = some r) : cI l yX7_isPossible cX7_isPossible 1 (.boolean) rX7_isPossible [.ref (G.2.2 i0)] G x (r, x) :=
  b_body (by decide) (Nat.le_of_ble_eq_true rfl) rfl (fun p e s m args below meth c C => wX7_isPossible_b0 C hk0 hf)
-- X7_goesThrough
abbrev rX7_goesThrough : Room := { frames := 6, cells := 0, slots := 0, locals := 141 }
def fX7_goesThrough_b112 (k14 : Int32 → Int32 → xS → Option (Int32 × xS)) (i0 : Nat) (v1 : Int32) (v2 : Int32) (s0 : Int32) (x : xS) : Option (Int32 × xS) :=
  k14 v2 s0 x
def fX7_goesThrough_b85 (k14 : Int32 → Int32 → xS → Option (Int32 × xS)) (i0 : Nat) (v1 : Int32) (v2 : Int32) (s0 : Int32) (x : xS) : Option (Int32 × xS) :=
  (if s0 = 0 then
  k14 v2 s0 x
  else
  Option.bind (fX7_takes i0 59 59 x) (fun r95 =>
  (if (r95.2.1 i0 11) = 0 then
  fX7_goesThrough_b112 k14 i0 v1 v2 1 r95.2
  else
  fX7_goesThrough_b112 k14 i0 v1 v2 0 r95.2)))
def fX7_goesThrough_b84 (k14 : Int32 → Int32 → xS → Option (Int32 × xS)) (i0 : Nat) (v1 : Int32) (v2 : Int32) (x : xS) : Option (Int32 × xS) :=
  fX7_goesThrough_b85 k14 i0 v1 v2 0 x
def fX7_goesThrough_b63 (k14 : Int32 → Int32 → xS → Option (Int32 × xS)) (i0 : Nat) (v1 : Int32) (v3 : Int32) (s0 : Int32) (s1 : Int32) (x : xS) : Option (Int32 × xS) :=
  lt1 (s0 + s1) (fun y64 => 
  (if v3 = 0 then
  fX7_goesThrough_b84 k14 i0 v1 y64 x
  else
  (if (x.1 i0 8) ≤ (x.1 i0 10) then
  fX7_goesThrough_b84 k14 i0 v1 y64 x
  else
  fX7_goesThrough_b85 k14 i0 v1 y64 1 x)))
def fX7_goesThrough_b62 (k14 : Int32 → Int32 → xS → Option (Int32 × xS)) (i0 : Nat) (v1 : Int32) (v3 : Int32) (s0 : Int32) (x : xS) : Option (Int32 × xS) :=
  fX7_goesThrough_b63 k14 i0 v1 v3 s0 0 x
def fX7_goesThrough_b45 (k14 : Int32 → Int32 → xS → Option (Int32 × xS)) (i0 : Nat) (v1 : Int32) (v2 : Int32) (s0 : Int32) (x : xS) : Option (Int32 × xS) :=
  (if s0 = 0 then
  fX7_goesThrough_b62 k14 i0 v1 s0 v2 x
  else
  (if v1 = 0 then
  fX7_goesThrough_b62 k14 i0 v1 s0 v2 x
  else
  Option.bind (fX7_does i0 x) (fun r56 =>
  fX7_goesThrough_b63 k14 i0 v1 s0 v2 r56.1 r56.2)))
def fX7_goesThrough_b44 (k14 : Int32 → Int32 → xS → Option (Int32 × xS)) (i0 : Nat) (v1 : Int32) (v2 : Int32) (x : xS) : Option (Int32 × xS) :=
  fX7_goesThrough_b45 k14 i0 v1 v2 0 x
def fX7_goesThrough_b40 (k14 : Int32 → Int32 → xS → Option (Int32 × xS)) (i0 : Nat) (v1 : Int32) (v2 : Int32) (x : xS) : Option (Int32 × xS) :=
  fX7_goesThrough_b45 k14 i0 v1 v2 1 x
def fX7_goesThrough_b14 (i0 : Nat) (v1 : Int32) : Nat → Int32 → Int32 → xS → Option (Int32 × xS)
  | 0, _, _, _ => none
  | n + 1, v2, v3, x => (if v3 = 0 then
  some (v2, x)
  else
  Option.bind (fX7_readOne i0 x) (fun r19 =>
  (if (r19.1 i0 11) = 0 then
  (if v1 = 0 then
  fX7_goesThrough_b40 (fX7_goesThrough_b14 i0 v1 n) i0 v1 v2 r19
  else
  Option.bind (fX7_isPossible i0 r19) (fun r34 =>
  (if r34 = 0 then
  fX7_goesThrough_b44 (fX7_goesThrough_b14 i0 v1 n) i0 v1 v2 r19
  else
  fX7_goesThrough_b40 (fX7_goesThrough_b14 i0 v1 n) i0 v1 v2 r19)))
  else
  fX7_goesThrough_b44 (fX7_goesThrough_b14 i0 v1 n) i0 v1 v2 r19)))
def fX7_goesThrough_b0 (i0 : Nat) (v1 : Int32) (x : xS) : Option (Int32 × xS) :=
  lt1 (up1 x i0 10 0) (fun x2 =>
  lt1 (up1 x2 i0 11 0) (fun x7 =>
  fX7_goesThrough_b14 i0 v1 FU 0 1 x7))
def fX7_goesThrough (i0 : Nat) (v1 : Int32) (x : xS) : Option (Int32 × xS) := fX7_goesThrough_b0 i0 v1 x
section
variable {p : Program} {l : Launch} {e : Env} {R : Room} {s : State} {m : MethodId} {args : Array Value} {below : List Frame} {meth : Method} {c : Code} {G : gT}
set_option maxHeartbeats 4000000 in
set_option maxRecDepth 100000 in
theorem wX7_goesThrough_b112 (C : CT p s m args meth c cX7_goesThrough 5 RX7 (some (.int)) G (pA G s.heap.size)) {k14 : Int32 → Int32 → xS → Option (Int32 × xS)} {i0 : Nat} {v1 : Int32} {v2 : Int32} {s0 : Int32} {x : xS} {r : (Int32 × xS)} (h14 : ∀ (v2 : Int32) (v3 : Int32) (x : xS), k14 v2 v3 x = some r → WB p l e rX7_goesThrough s m args below meth c 5 G (pA G s.heap.size) (qI below G r args s 0 0) 0 0 14 [(0, .ref (G.2.2 i0)), (1, .int v1), (2, .int v2), (3, .int v3)] [] x) (hk0 : KD G i0 7) (hf : fX7_goesThrough_b112 k14 i0 v1 v2 s0 x = some r) : WB p l e rX7_goesThrough s m args below meth c 5 G (pA G s.heap.size) (qI below G r args s 0 0) 0 0 112 [(0, .ref (G.2.2 i0)), (1, .int v1), (2, .int v2)] [.int s0] x := by
  unfold fX7_goesThrough_b112 at hf
  refine b_istore_n (lv' := [(3, .int s0), (0, .ref (G.2.2 i0)), (1, .int v1), (2, .int v2)]) C dX7_goesThrough_112 rfl (by decide) rfl ?_
  refine b_goto (tgt := 14) C dX7_goesThrough_113 (by decide) ?_
  refine b_pm [1, 2, 3, 0] (lv' := [(0, .ref (G.2.2 i0)), (1, .int v1), (2, .int v2), (3, .int s0)]) rfl ?_
  exact h14 _ _ _ hf
set_option maxHeartbeats 4000000 in
set_option maxRecDepth 100000 in
theorem wX7_goesThrough_b85 (C : CT p s m args meth c cX7_goesThrough 5 RX7 (some (.int)) G (pA G s.heap.size)) {k14 : Int32 → Int32 → xS → Option (Int32 × xS)} {i0 : Nat} {v1 : Int32} {v2 : Int32} {s0 : Int32} {x : xS} {r : (Int32 × xS)} (h14 : ∀ (v2 : Int32) (v3 : Int32) (x : xS), k14 v2 v3 x = some r → WB p l e rX7_goesThrough s m args below meth c 5 G (pA G s.heap.size) (qI below G r args s 0 0) 0 0 14 [(0, .ref (G.2.2 i0)), (1, .int v1), (2, .int v2), (3, .int v3)] [] x) (hk0 : KD G i0 7) (hf : fX7_goesThrough_b85 k14 i0 v1 v2 s0 x = some r) : WB p l e rX7_goesThrough s m args below meth c 5 G (pA G s.heap.size) (qI below G r args s 0 0) 0 0 85 [(0, .ref (G.2.2 i0)), (1, .int v1), (2, .int v2)] [.int s0] x := by
  unfold fX7_goesThrough_b85 at hf
  refine b_istore_n (lv' := [(3, .int s0), (0, .ref (G.2.2 i0)), (1, .int v1), (2, .int v2)]) C dX7_goesThrough_85 rfl (by decide) rfl ?_
  refine b_iload_n C dX7_goesThrough_86 rfl 0 rfl ?_
  refine b_if_eq (tgt := 14) C dX7_goesThrough_87 (by decide) (fun c87 => ?_) (fun c87 => ?_)
  · have hf := iT c87 hf
    refine b_pm [1, 2, 3, 0] (lv' := [(0, .ref (G.2.2 i0)), (1, .int v1), (2, .int v2), (3, .int s0)]) rfl ?_
    exact h14 _ _ _ hf
  · have hf := iF c87 hf
    refine b_aload_n C dX7_goesThrough_90 rfl 1 rfl ?_
    refine b_bipush (v := 59) C dX7_goesThrough_91 (by decide) ?_
    refine b_bipush (v := 59) C dX7_goesThrough_93 (by decide) ?_
    obtain ⟨r95, c95, hf⟩ := oB hf
    refine b_callVi (K := 7) (As := [.int 59, .int 59]) (res := r95) C (metX7_takes l G _ _ _ _ _ hk0 c95) hk0 (by decide) rfl gkX7_113 ekX7_113 rfl ⟨rfl, rfl⟩ ⟨Nat.le_of_ble_eq_true rfl, Nat.le_of_ble_eq_true rfl⟩ (by simp [Value.category]) ⟨Nat.zero_le _, Nat.zero_le _⟩ rfl dX7_goesThrough_95 ?_
    refine b_istore (lv' := [(4, .int r95.1), (3, .int s0), (0, .ref (G.2.2 i0)), (1, .int v1), (2, .int v2)]) C dX7_goesThrough_98 (by decide) rfl ?_
    refine b_aload_n C dX7_goesThrough_100 rfl 2 rfl ?_
    refine gfX7_100 C hk0 dX7_goesThrough_101 ?_
    refine b_if_ne (tgt := 111) C dX7_goesThrough_104 (by decide) (fun c104 => ?_) (fun c104 => ?_)
    · have hf := iF c104 hf
      refine b_iconst (v := 0) C dX7_goesThrough_111 (by decide) ?_
      refine b_pm [2, 3, 4] (lv' := [(0, .ref (G.2.2 i0)), (1, .int v1), (2, .int v2)]) rfl ?_
      exact wX7_goesThrough_b112 C h14 hk0 hf
    · have hf := iT c104 hf
      refine b_iconst (v := 1) C dX7_goesThrough_107 (by decide) ?_
      refine b_goto (tgt := 112) C dX7_goesThrough_108 (by decide) ?_
      refine b_pm [2, 3, 4] (lv' := [(0, .ref (G.2.2 i0)), (1, .int v1), (2, .int v2)]) rfl ?_
      exact wX7_goesThrough_b112 C h14 hk0 hf
set_option maxHeartbeats 4000000 in
set_option maxRecDepth 100000 in
theorem wX7_goesThrough_b84 (C : CT p s m args meth c cX7_goesThrough 5 RX7 (some (.int)) G (pA G s.heap.size)) {k14 : Int32 → Int32 → xS → Option (Int32 × xS)} {i0 : Nat} {v1 : Int32} {v2 : Int32} {x : xS} {r : (Int32 × xS)} (h14 : ∀ (v2 : Int32) (v3 : Int32) (x : xS), k14 v2 v3 x = some r → WB p l e rX7_goesThrough s m args below meth c 5 G (pA G s.heap.size) (qI below G r args s 0 0) 0 0 14 [(0, .ref (G.2.2 i0)), (1, .int v1), (2, .int v2), (3, .int v3)] [] x) (hk0 : KD G i0 7) (hf : fX7_goesThrough_b84 k14 i0 v1 v2 x = some r) : WB p l e rX7_goesThrough s m args below meth c 5 G (pA G s.heap.size) (qI below G r args s 0 0) 0 0 84 [(0, .ref (G.2.2 i0)), (1, .int v1), (2, .int v2)] [] x := by
  unfold fX7_goesThrough_b84 at hf
  refine b_iconst (v := 0) C dX7_goesThrough_84 (by decide) ?_
  exact wX7_goesThrough_b85 C h14 hk0 hf
set_option maxHeartbeats 4000000 in
set_option maxRecDepth 100000 in
theorem wX7_goesThrough_b63 (C : CT p s m args meth c cX7_goesThrough 5 RX7 (some (.int)) G (pA G s.heap.size)) {k14 : Int32 → Int32 → xS → Option (Int32 × xS)} {i0 : Nat} {v1 : Int32} {v3 : Int32} {s0 : Int32} {s1 : Int32} {x : xS} {r : (Int32 × xS)} (h14 : ∀ (v2 : Int32) (v3 : Int32) (x : xS), k14 v2 v3 x = some r → WB p l e rX7_goesThrough s m args below meth c 5 G (pA G s.heap.size) (qI below G r args s 0 0) 0 0 14 [(0, .ref (G.2.2 i0)), (1, .int v1), (2, .int v2), (3, .int v3)] [] x) (hk0 : KD G i0 7) (hf : fX7_goesThrough_b63 k14 i0 v1 v3 s0 s1 x = some r) : WB p l e rX7_goesThrough s m args below meth c 5 G (pA G s.heap.size) (qI below G r args s 0 0) 0 0 63 [(0, .ref (G.2.2 i0)), (1, .int v1), (3, .int v3)] [.int s1, .int s0] x := by
  unfold fX7_goesThrough_b63 at hf
  refine b_iadd C dX7_goesThrough_63 ?_
  obtain ⟨y64, e64, hf⟩ := lN1 hf
  rw [e64]
  refine b_istore_n (lv' := [(2, .int y64), (0, .ref (G.2.2 i0)), (1, .int v1), (3, .int v3)]) C dX7_goesThrough_64 rfl (by decide) rfl ?_
  refine b_iload_n C dX7_goesThrough_65 rfl 3 rfl ?_
  refine b_if_eq (tgt := 84) C dX7_goesThrough_66 (by decide) (fun c66 => ?_) (fun c66 => ?_)
  · have hf := iT c66 hf
    refine b_pm [1, 2, 0] (lv' := [(0, .ref (G.2.2 i0)), (1, .int v1), (2, .int y64)]) rfl ?_
    exact wX7_goesThrough_b84 C h14 hk0 hf
  · have hf := iF c66 hf
    refine b_aload_n C dX7_goesThrough_69 rfl 1 rfl ?_
    refine gfX7_104 C hk0 dX7_goesThrough_70 ?_
    refine b_aload_n C dX7_goesThrough_73 rfl 1 rfl ?_
    refine gfX7_97 C hk0 dX7_goesThrough_74 ?_
    refine b_icmp_ge (tgt := 84) C dX7_goesThrough_77 (by decide) (fun c77 => ?_) (fun c77 => ?_)
    · have hf := iT c77 hf
      refine b_pm [1, 2, 0] (lv' := [(0, .ref (G.2.2 i0)), (1, .int v1), (2, .int y64)]) rfl ?_
      exact wX7_goesThrough_b84 C h14 hk0 hf
    · have hf := iF c77 hf
      refine b_iconst (v := 1) C dX7_goesThrough_80 (by decide) ?_
      refine b_goto (tgt := 85) C dX7_goesThrough_81 (by decide) ?_
      refine b_pm [1, 2, 0] (lv' := [(0, .ref (G.2.2 i0)), (1, .int v1), (2, .int y64)]) rfl ?_
      exact wX7_goesThrough_b85 C h14 hk0 hf
set_option maxHeartbeats 4000000 in
set_option maxRecDepth 100000 in
theorem wX7_goesThrough_b62 (C : CT p s m args meth c cX7_goesThrough 5 RX7 (some (.int)) G (pA G s.heap.size)) {k14 : Int32 → Int32 → xS → Option (Int32 × xS)} {i0 : Nat} {v1 : Int32} {v3 : Int32} {s0 : Int32} {x : xS} {r : (Int32 × xS)} (h14 : ∀ (v2 : Int32) (v3 : Int32) (x : xS), k14 v2 v3 x = some r → WB p l e rX7_goesThrough s m args below meth c 5 G (pA G s.heap.size) (qI below G r args s 0 0) 0 0 14 [(0, .ref (G.2.2 i0)), (1, .int v1), (2, .int v2), (3, .int v3)] [] x) (hk0 : KD G i0 7) (hf : fX7_goesThrough_b62 k14 i0 v1 v3 s0 x = some r) : WB p l e rX7_goesThrough s m args below meth c 5 G (pA G s.heap.size) (qI below G r args s 0 0) 0 0 62 [(0, .ref (G.2.2 i0)), (1, .int v1), (3, .int v3)] [.int s0] x := by
  unfold fX7_goesThrough_b62 at hf
  refine b_iconst (v := 0) C dX7_goesThrough_62 (by decide) ?_
  exact wX7_goesThrough_b63 C h14 hk0 hf
set_option maxHeartbeats 4000000 in
set_option maxRecDepth 100000 in
theorem wX7_goesThrough_b45 (C : CT p s m args meth c cX7_goesThrough 5 RX7 (some (.int)) G (pA G s.heap.size)) {k14 : Int32 → Int32 → xS → Option (Int32 × xS)} {i0 : Nat} {v1 : Int32} {v2 : Int32} {s0 : Int32} {x : xS} {r : (Int32 × xS)} (h14 : ∀ (v2 : Int32) (v3 : Int32) (x : xS), k14 v2 v3 x = some r → WB p l e rX7_goesThrough s m args below meth c 5 G (pA G s.heap.size) (qI below G r args s 0 0) 0 0 14 [(0, .ref (G.2.2 i0)), (1, .int v1), (2, .int v2), (3, .int v3)] [] x) (hk0 : KD G i0 7) (hf : fX7_goesThrough_b45 k14 i0 v1 v2 s0 x = some r) : WB p l e rX7_goesThrough s m args below meth c 5 G (pA G s.heap.size) (qI below G r args s 0 0) 0 0 45 [(0, .ref (G.2.2 i0)), (1, .int v1), (2, .int v2)] [.int s0] x := by
  unfold fX7_goesThrough_b45 at hf
  refine b_istore_n (lv' := [(3, .int s0), (0, .ref (G.2.2 i0)), (1, .int v1), (2, .int v2)]) C dX7_goesThrough_45 rfl (by decide) rfl ?_
  refine b_iload_n C dX7_goesThrough_46 rfl 3 rfl ?_
  refine b_iload_n C dX7_goesThrough_47 rfl 0 rfl ?_
  refine b_if_eq (tgt := 62) C dX7_goesThrough_48 (by decide) (fun c48 => ?_) (fun c48 => ?_)
  · have hf := iT c48 hf
    refine b_pm [1, 2, 0] (lv' := [(0, .ref (G.2.2 i0)), (1, .int v1), (3, .int s0)]) rfl ?_
    exact wX7_goesThrough_b62 C h14 hk0 hf
  · have hf := iF c48 hf
    refine b_iload_n C dX7_goesThrough_51 rfl 2 rfl ?_
    refine b_if_eq (tgt := 62) C dX7_goesThrough_52 (by decide) (fun c52 => ?_) (fun c52 => ?_)
    · have hf := iT c52 hf
      refine b_pm [1, 2, 0] (lv' := [(0, .ref (G.2.2 i0)), (1, .int v1), (3, .int s0)]) rfl ?_
      exact wX7_goesThrough_b62 C h14 hk0 hf
    · have hf := iF c52 hf
      refine b_aload_n C dX7_goesThrough_55 rfl 1 rfl ?_
      obtain ⟨r56, c56, hf⟩ := oB hf
      refine b_callVi (K := 7) (As := []) (res := r56) C (metX7_does l G _ _ _ hk0 c56) hk0 (by decide) rfl gkX7_129 ekX7_129 rfl ⟨rfl, rfl⟩ ⟨Nat.le_of_ble_eq_true rfl, Nat.le_of_ble_eq_true rfl⟩ (by simp [Value.category]) ⟨Nat.zero_le _, Nat.zero_le _⟩ rfl dX7_goesThrough_56 ?_
      refine b_goto (tgt := 63) C dX7_goesThrough_59 (by decide) ?_
      refine b_pm [1, 2, 0] (lv' := [(0, .ref (G.2.2 i0)), (1, .int v1), (3, .int s0)]) rfl ?_
      exact wX7_goesThrough_b63 C h14 hk0 hf
set_option maxHeartbeats 4000000 in
set_option maxRecDepth 100000 in
theorem wX7_goesThrough_b44 (C : CT p s m args meth c cX7_goesThrough 5 RX7 (some (.int)) G (pA G s.heap.size)) {k14 : Int32 → Int32 → xS → Option (Int32 × xS)} {i0 : Nat} {v1 : Int32} {v2 : Int32} {x : xS} {r : (Int32 × xS)} (h14 : ∀ (v2 : Int32) (v3 : Int32) (x : xS), k14 v2 v3 x = some r → WB p l e rX7_goesThrough s m args below meth c 5 G (pA G s.heap.size) (qI below G r args s 0 0) 0 0 14 [(0, .ref (G.2.2 i0)), (1, .int v1), (2, .int v2), (3, .int v3)] [] x) (hk0 : KD G i0 7) (hf : fX7_goesThrough_b44 k14 i0 v1 v2 x = some r) : WB p l e rX7_goesThrough s m args below meth c 5 G (pA G s.heap.size) (qI below G r args s 0 0) 0 0 44 [(0, .ref (G.2.2 i0)), (1, .int v1), (2, .int v2)] [] x := by
  unfold fX7_goesThrough_b44 at hf
  refine b_iconst (v := 0) C dX7_goesThrough_44 (by decide) ?_
  exact wX7_goesThrough_b45 C h14 hk0 hf
set_option maxHeartbeats 4000000 in
set_option maxRecDepth 100000 in
theorem wX7_goesThrough_b40 (C : CT p s m args meth c cX7_goesThrough 5 RX7 (some (.int)) G (pA G s.heap.size)) {k14 : Int32 → Int32 → xS → Option (Int32 × xS)} {i0 : Nat} {v1 : Int32} {v2 : Int32} {x : xS} {r : (Int32 × xS)} (h14 : ∀ (v2 : Int32) (v3 : Int32) (x : xS), k14 v2 v3 x = some r → WB p l e rX7_goesThrough s m args below meth c 5 G (pA G s.heap.size) (qI below G r args s 0 0) 0 0 14 [(0, .ref (G.2.2 i0)), (1, .int v1), (2, .int v2), (3, .int v3)] [] x) (hk0 : KD G i0 7) (hf : fX7_goesThrough_b40 k14 i0 v1 v2 x = some r) : WB p l e rX7_goesThrough s m args below meth c 5 G (pA G s.heap.size) (qI below G r args s 0 0) 0 0 40 [(0, .ref (G.2.2 i0)), (1, .int v1), (2, .int v2)] [] x := by
  unfold fX7_goesThrough_b40 at hf
  refine b_iconst (v := 1) C dX7_goesThrough_40 (by decide) ?_
  refine b_goto (tgt := 45) C dX7_goesThrough_41 (by decide) ?_
  exact wX7_goesThrough_b45 C h14 hk0 hf
set_option maxHeartbeats 4000000 in
set_option maxRecDepth 100000 in
theorem wX7_goesThrough_b14 (C : CT p s m args meth c cX7_goesThrough 5 RX7 (some (.int)) G (pA G s.heap.size)) {i0 : Nat} {v1 : Int32} {r : (Int32 × xS)} (hk0 : KD G i0 7) : ∀ (n : Nat) (v2 : Int32) (v3 : Int32) (x : xS), fX7_goesThrough_b14 i0 v1 n v2 v3 x = some r → WB p l e rX7_goesThrough s m args below meth c 5 G (pA G s.heap.size) (qI below G r args s 0 0) 0 0 14 [(0, .ref (G.2.2 i0)), (1, .int v1), (2, .int v2), (3, .int v3)] [] x := by
  intro n
  induction n with
  | zero =>
    intro v2 v3 x hf
    cases hf
  | succ n ih =>
    intro v2 v3 x hf
    rw [fX7_goesThrough_b14] at hf
    refine b_iload_n C dX7_goesThrough_14 rfl 3 rfl ?_
    refine b_if_eq (tgt := 116) C dX7_goesThrough_15 (by decide) (fun c15 => ?_) (fun c15 => ?_)
    · have hf := iT c15 hf
      refine b_iload_n C dX7_goesThrough_116 rfl 2 rfl ?_
      exact b_ireti C dX7_goesThrough_117 hf
    · have hf := iF c15 hf
      refine b_aload_n C dX7_goesThrough_18 rfl 0 rfl ?_
      obtain ⟨r19, c19, hf⟩ := oB hf
      refine b_callVv (K := 7) (As := []) (res := r19) C (metX7_readOne l G _ _ _ hk0 c19) hk0 (by decide) rfl gkX7_122 ekX7_122 rfl ⟨rfl, rfl⟩ ⟨Nat.le_of_ble_eq_true rfl, Nat.le_of_ble_eq_true rfl⟩ (by simp [Value.category]) ⟨Nat.zero_le _, Nat.zero_le _⟩ rfl dX7_goesThrough_19 ?_
      refine b_aload_n C dX7_goesThrough_22 rfl 0 rfl ?_
      refine gfX7_100 C hk0 dX7_goesThrough_23 ?_
      refine b_if_ne (tgt := 44) C dX7_goesThrough_26 (by decide) (fun c26 => ?_) (fun c26 => ?_)
      · have hf := iF c26 hf
        refine b_pm [0, 1, 2] (lv' := [(0, .ref (G.2.2 i0)), (1, .int v1), (2, .int v2)]) rfl ?_
        exact wX7_goesThrough_b44 C ih hk0 hf
      · have hf := iT c26 hf
        refine b_iload_n C dX7_goesThrough_29 rfl 1 rfl ?_
        refine b_if_eq (tgt := 40) C dX7_goesThrough_30 (by decide) (fun c30 => ?_) (fun c30 => ?_)
        · have hf := iT c30 hf
          refine b_pm [0, 1, 2] (lv' := [(0, .ref (G.2.2 i0)), (1, .int v1), (2, .int v2)]) rfl ?_
          exact wX7_goesThrough_b40 C ih hk0 hf
        · have hf := iF c30 hf
          refine b_aload_n C dX7_goesThrough_33 rfl 0 rfl ?_
          obtain ⟨r34, c34, hf⟩ := oB hf
          refine b_callVi (K := 7) (As := []) (res := (r34, r19)) C (metX7_isPossible l G _ _ _ hk0 c34) hk0 (by decide) rfl gkX7_125 ekX7_125 rfl ⟨rfl, rfl⟩ ⟨Nat.le_of_ble_eq_true rfl, Nat.le_of_ble_eq_true rfl⟩ (by simp [Value.category]) ⟨Nat.zero_le _, Nat.zero_le _⟩ rfl dX7_goesThrough_34 ?_
          refine b_if_eq (tgt := 44) C dX7_goesThrough_37 (by decide) (fun c37 => ?_) (fun c37 => ?_)
          · have hf := iT c37 hf
            refine b_pm [0, 1, 2] (lv' := [(0, .ref (G.2.2 i0)), (1, .int v1), (2, .int v2)]) rfl ?_
            exact wX7_goesThrough_b44 C ih hk0 hf
          · have hf := iF c37 hf
            refine b_pm [0, 1, 2] (lv' := [(0, .ref (G.2.2 i0)), (1, .int v1), (2, .int v2)]) rfl ?_
            exact wX7_goesThrough_b40 C ih hk0 hf
set_option maxHeartbeats 4000000 in
set_option maxRecDepth 100000 in
theorem wX7_goesThrough_b0 (C : CT p s m args meth c cX7_goesThrough 5 RX7 (some (.int)) G (pA G s.heap.size)) {i0 : Nat} {v1 : Int32} {x : xS} {r : (Int32 × xS)} (hk0 : KD G i0 7) (hf : fX7_goesThrough_b0 i0 v1 x = some r) : WB p l e rX7_goesThrough s m args below meth c 5 G (pA G s.heap.size) (qI below G r args s 0 0) 0 0 0 [(0, .ref (G.2.2 i0)), (1, .int v1)] [] x := by
  unfold fX7_goesThrough_b0 at hf
  refine b_aload_n C dX7_goesThrough_0 rfl 0 rfl ?_
  refine b_iconst (v := 0) C dX7_goesThrough_1 (by decide) ?_
  obtain ⟨x2, e2, hf⟩ := lN1 hf
  refine pfX7_104 C hk0 dX7_goesThrough_2 e2 ?_
  refine b_aload_n C dX7_goesThrough_5 rfl 0 rfl ?_
  refine b_iconst (v := 0) C dX7_goesThrough_6 (by decide) ?_
  obtain ⟨x7, e7, hf⟩ := lN1 hf
  refine pfX7_100 C hk0 (by decide) dX7_goesThrough_7 e7 ?_
  refine b_iconst (v := 0) C dX7_goesThrough_10 (by decide) ?_
  refine b_istore_n (lv' := [(2, .int 0), (0, .ref (G.2.2 i0)), (1, .int v1)]) C dX7_goesThrough_11 rfl (by decide) rfl ?_
  refine b_iconst (v := 1) C dX7_goesThrough_12 (by decide) ?_
  refine b_istore_n (lv' := [(3, .int 1), (2, .int 0), (0, .ref (G.2.2 i0)), (1, .int v1)]) C dX7_goesThrough_13 rfl (by decide) rfl ?_
  refine b_pm [2, 3, 1, 0] (lv' := [(0, .ref (G.2.2 i0)), (1, .int v1), (2, .int 0), (3, .int 1)]) rfl ?_
  exact wX7_goesThrough_b14 C  hk0 FU _ _ _ hf
end
theorem metX7_goesThrough (l : Launch) (G : gT) (i0 : Nat) (v1 : Int32) (x : xS) (r : (Int32 × xS)) (hk0 : KD G i0 7) (hf : fX7_goesThrough i0 v1 x = some r) : cI l yX7_goesThrough cX7_goesThrough 5 (.int) rX7_goesThrough [.ref (G.2.2 i0), .int v1] G x r :=
  b_body (by decide) (Nat.le_of_ble_eq_true rfl) rfl (fun p e s m args below meth c C => wX7_goesThrough_b0 C hk0 hf)
-- X7_firstError
abbrev rX7_firstError : Room := { frames := 7, cells := 0, slots := 0, locals := 165 }
def fX7_firstError_b0 (i0 : Nat) (x : xS) : Option (Int32 × xS) :=
  lt1 (up1 x i0 0 0) (fun x2 =>
  Option.bind (fX7_goesThrough i0 0 x2) (fun r7 =>
  (if (r7.2.1 i0 11) = 0 then
  some ((r7.2.1 i0 8), r7.2)
  else
  some ((r7.2.1 i0 10), r7.2))))
def fX7_firstError (i0 : Nat) (x : xS) : Option (Int32 × xS) := fX7_firstError_b0 i0 x
section
variable {p : Program} {l : Launch} {e : Env} {R : Room} {s : State} {m : MethodId} {args : Array Value} {below : List Frame} {meth : Method} {c : Code} {G : gT}
set_option maxHeartbeats 4000000 in
set_option maxRecDepth 100000 in
theorem wX7_firstError_b0 (C : CT p s m args meth c cX7_firstError 2 RX7 (some (.int)) G (pA G s.heap.size)) {i0 : Nat} {x : xS} {r : (Int32 × xS)} (hk0 : KD G i0 7) (hf : fX7_firstError_b0 i0 x = some r) : WB p l e rX7_firstError s m args below meth c 2 G (pA G s.heap.size) (qI below G r args s 0 0) 0 0 0 [(0, .ref (G.2.2 i0))] [] x := by
  unfold fX7_firstError_b0 at hf
  refine b_aload_n C dX7_firstError_0 rfl 0 rfl ?_
  refine b_iconst (v := 0) C dX7_firstError_1 (by decide) ?_
  obtain ⟨x2, e2, hf⟩ := lN1 hf
  refine pfX7_29 C hk0 dX7_firstError_2 e2 ?_
  refine b_aload_n C dX7_firstError_5 rfl 0 rfl ?_
  refine b_iconst (v := 0) C dX7_firstError_6 (by decide) ?_
  obtain ⟨r7, c7, hf⟩ := oB hf
  refine b_callVi (K := 7) (As := [.int 0]) (res := r7) C (metX7_goesThrough l G _ _ _ _ hk0 c7) hk0 (by decide) rfl gkX7_132 ekX7_132 rfl ⟨rfl, rfl⟩ ⟨Nat.le_of_ble_eq_true rfl, Nat.le_of_ble_eq_true rfl⟩ (by simp [Value.category]) ⟨Nat.zero_le _, Nat.zero_le _⟩ rfl dX7_firstError_7 ?_
  refine b_istore_n (lv' := [(1, .int r7.1), (0, .ref (G.2.2 i0))]) C dX7_firstError_10 rfl (by decide) rfl ?_
  refine b_aload_n C dX7_firstError_11 rfl 1 rfl ?_
  refine gfX7_100 C hk0 dX7_firstError_12 ?_
  refine b_if_eq (tgt := 25) C dX7_firstError_15 (by decide) (fun c15 => ?_) (fun c15 => ?_)
  · have hf := iT c15 hf
    refine b_aload_n C dX7_firstError_25 rfl 1 rfl ?_
    refine gfX7_97 C hk0 dX7_firstError_26 ?_
    exact b_ireti C dX7_firstError_29 hf
  · have hf := iF c15 hf
    refine b_aload_n C dX7_firstError_18 rfl 1 rfl ?_
    refine gfX7_104 C hk0 dX7_firstError_19 ?_
    refine b_goto (tgt := 29) C dX7_firstError_22 (by decide) ?_
    exact b_ireti C dX7_firstError_29 hf
end
theorem metX7_firstError (l : Launch) (G : gT) (i0 : Nat) (x : xS) (r : (Int32 × xS)) (hk0 : KD G i0 7) (hf : fX7_firstError i0 x = some r) : cI l yX7_firstError cX7_firstError 2 (.int) rX7_firstError [.ref (G.2.2 i0)] G x r :=
  b_body (by decide) (Nat.le_of_ble_eq_true rfl) rfl (fun p e s m args below meth c C => wX7_firstError_b0 C hk0 hf)
-- X7_fullness
abbrev rX7_fullness : Room := { frames := 2, cells := 0, slots := 0, locals := 42 }
def fX7_fullness_b0 (i0 : Nat) (x : xS) : Option (UInt64 × xS) :=
  lt1 (up1 x i0 0 0) (fun x2 =>
  Option.bind (fX7_share i0 x2) (fun r6 =>
  some (r6, x2)))
def fX7_fullness (i0 : Nat) (x : xS) : Option (UInt64 × xS) := fX7_fullness_b0 i0 x
section
variable {p : Program} {l : Launch} {e : Env} {R : Room} {s : State} {m : MethodId} {args : Array Value} {below : List Frame} {meth : Method} {c : Code} {G : gT}
set_option maxHeartbeats 4000000 in
set_option maxRecDepth 100000 in
theorem wX7_fullness_b0 (C : CT p s m args meth c cX7_fullness 1 RX7 (some (.double)) G (pA G s.heap.size)) {i0 : Nat} {x : xS} {r : (UInt64 × xS)} (hk0 : KD G i0 7) (hf : fX7_fullness_b0 i0 x = some r) : WB p l e rX7_fullness s m args below meth c 1 G (pA G s.heap.size) (qD below G r args s 0 0) 0 0 0 [(0, .ref (G.2.2 i0))] [] x := by
  unfold fX7_fullness_b0 at hf
  refine b_aload_n C dX7_fullness_0 rfl 0 rfl ?_
  refine b_iconst (v := 0) C dX7_fullness_1 (by decide) ?_
  obtain ⟨x2, e2, hf⟩ := lN1 hf
  refine pfX7_29 C hk0 dX7_fullness_2 e2 ?_
  refine b_aload_n C dX7_fullness_5 rfl 0 rfl ?_
  obtain ⟨r6, c6, hf⟩ := oB hf
  refine b_callVd (K := 7) (As := []) (res := (r6, x2)) C (metX7_share l G _ _ _ hk0 c6) hk0 (by decide) rfl gkX7_169 ekX7_169 rfl ⟨rfl, rfl⟩ ⟨Nat.le_of_ble_eq_true rfl, Nat.le_of_ble_eq_true rfl⟩ (by simp [Value.category]) ⟨Nat.zero_le _, Nat.zero_le _⟩ rfl dX7_fullness_6 ?_
  exact b_dret C dX7_fullness_9 hf
end
theorem metX7_fullness (l : Launch) (G : gT) (i0 : Nat) (x : xS) (r : (UInt64 × xS)) (hk0 : KD G i0 7) (hf : fX7_fullness i0 x = some r) : cD l yX7_fullness cX7_fullness 1 rX7_fullness [.ref (G.2.2 i0)] G x r :=
  b_body (by decide) (Nat.le_of_ble_eq_true rfl) rfl (fun p e s m args below meth c C => wX7_fullness_b0 C hk0 hf)
-- X7_giveBack
abbrev rX7_giveBack : Room := { frames := 2, cells := 0, slots := 0, locals := 45 }
def fX7_giveBack_b120 (i0 : Nat) (v4 : Int32) (x : xS) : Option (Int32 × xS) :=
  some (v4, x)
def fX7_giveBack_b74 (i0 : Nat) (v1 : Int32) (v2 : Int32) : Nat → Int32 → Int32 → xS → Option (Int32 × xS)
  | 0, _, _, _ => none
  | n + 1, v3, v4, x => (if (12 : Int32) ≤ (v2 + v4) then
  fX7_giveBack_b120 i0 v4 x
  else
  Option.bind (fX7_ofBed v3 (v2 + v4) x) (fun r92 =>
  (if r92 < 0 ∨ ln (i0 + 1) ≤ r92.toNatClampNeg then none else
  (if (x.1 (i0 + 1) r92.toNatClampNeg) = v1 then
  Option.bind (fX7_ofBed v3 (v2 + v4) x) (fun r109 =>
  (if r109 < 0 ∨ ln (i0 + 1) ≤ r109.toNatClampNeg then none else
  lt1 (up1 x (i0 + 1) r109.toNatClampNeg (-1)) (fun x113 =>
  fX7_giveBack_b74 i0 v1 v2 n v3 (v4 + 1) x113)))
  else
  fX7_giveBack_b120 i0 v4 x))))
def fX7_giveBack_b60 (i0 : Nat) (v1 : Int32) (v2 : Int32) (s0 : Int32) (x : xS) : Option (Int32 × xS) :=
  (if s0 = (-1) then
  Option.bind (fX7_refuses i0 x) (fun r67 =>
  some (r67.1, r67.2))
  else
  fX7_giveBack_b74 i0 v1 v2 FU s0 0 x)
def fX7_giveBack_b27 (i0 : Nat) (v1 : Int32) (v2 : Int32) (s1 : Int32) (x : xS) : Option (Int32 × xS) :=
  Option.bind (fX7_holds i0 s1 x) (fun r27 =>
  (if r27.1 = 0 then
  some (0, r27.2)
  else
  Option.bind (fX7_save i0 r27.2) (fun r36 =>
  (if (108 : Int32) < 0 ∨ ln (i0 + 1) ≤ (108 : Int32).toNatClampNeg then none else
  (if (r36.1 (i0 + 1) (108 : Int32).toNatClampNeg) ≤ v2 then
  Option.bind (fX7_bedOf i0 v1 v2 r36) (fun r57 =>
  fX7_giveBack_b60 i0 v1 v2 r57 r36)
  else
  fX7_giveBack_b60 i0 v1 v2 (-1) r36)))))
def fX7_giveBack_b0 (i0 : Nat) (v1 : Int32) (v2 : Int32) (x : xS) : Option (Int32 × xS) :=
  Option.bind (fX7_isLodger v1 x) (fun r2 =>
  (if r2 = 0 then
  fX7_giveBack_b27 i0 v1 v2 1 x
  else
  Option.bind (fX7_in v2 0 11 x) (fun r16 =>
  (if r16 = 0 then
  fX7_giveBack_b27 i0 v1 v2 2 x
  else
  fX7_giveBack_b27 i0 v1 v2 0 x))))
def fX7_giveBack (i0 : Nat) (v1 : Int32) (v2 : Int32) (x : xS) : Option (Int32 × xS) := fX7_giveBack_b0 i0 v1 v2 x
section
variable {p : Program} {l : Launch} {e : Env} {R : Room} {s : State} {m : MethodId} {args : Array Value} {below : List Frame} {meth : Method} {c : Code} {G : gT}
set_option maxHeartbeats 4000000 in
set_option maxRecDepth 100000 in
theorem wX7_giveBack_b120 (C : CT p s m args meth c cX7_giveBack 5 RX7 (some (.int)) G (pA G s.heap.size)) {i0 : Nat} {v4 : Int32} {x : xS} {r : (Int32 × xS)} (hk0 : KD G i0 7) (hf : fX7_giveBack_b120 i0 v4 x = some r) : WB p l e rX7_giveBack s m args below meth c 5 G (pA G s.heap.size) (qI below G r args s 0 0) 0 0 120 [(0, .ref (G.2.2 i0)), (4, .int v4)] [] x := by
  unfold fX7_giveBack_b120 at hf
  refine b_iload C dX7_giveBack_120 1 rfl ?_
  exact b_ireti C dX7_giveBack_122 hf
set_option maxHeartbeats 4000000 in
set_option maxRecDepth 100000 in
theorem wX7_giveBack_b74 (C : CT p s m args meth c cX7_giveBack 5 RX7 (some (.int)) G (pA G s.heap.size)) {i0 : Nat} {v1 : Int32} {v2 : Int32} {r : (Int32 × xS)} (hk0 : KD G i0 7) : ∀ (n : Nat) (v3 : Int32) (v4 : Int32) (x : xS), fX7_giveBack_b74 i0 v1 v2 n v3 v4 x = some r → WB p l e rX7_giveBack s m args below meth c 5 G (pA G s.heap.size) (qI below G r args s 0 0) 0 0 74 [(0, .ref (G.2.2 i0)), (1, .int v1), (2, .int v2), (3, .int v3), (4, .int v4)] [] x := by
  intro n
  induction n with
  | zero =>
    intro v3 v4 x hf
    cases hf
  | succ n ih =>
    intro v3 v4 x hf
    rw [fX7_giveBack_b74] at hf
    refine b_iload_n C dX7_giveBack_74 rfl 2 rfl ?_
    refine b_iload C dX7_giveBack_75 4 rfl ?_
    refine b_iadd C dX7_giveBack_77 ?_
    refine b_bipush (v := 12) C dX7_giveBack_78 (by decide) ?_
    refine b_icmp_ge (tgt := 120) C dX7_giveBack_80 (by decide) (fun c80 => ?_) (fun c80 => ?_)
    · have hf := iT c80 hf
      refine b_pm [0, 4] (lv' := [(0, .ref (G.2.2 i0)), (4, .int v4)]) rfl ?_
      exact wX7_giveBack_b120 C  hk0 hf
    · have hf := iF c80 hf
      refine b_aload_n C dX7_giveBack_83 rfl 0 rfl ?_
      refine gfX7_7 C hk0 dX7_giveBack_84 ?_
      refine b_iload_n C dX7_giveBack_87 rfl 3 rfl ?_
      refine b_iload_n C dX7_giveBack_88 rfl 2 rfl ?_
      refine b_iload C dX7_giveBack_89 4 rfl ?_
      refine b_iadd C dX7_giveBack_91 ?_
      obtain ⟨r92, c92, hf⟩ := oB hf
      refine b_callSi (As := [.int v3, .int (v2 + v4)]) (res := (r92, x)) C (metX7_ofBed l G _ _ _ _  c92) gkX7_40 ekX7_40 rfl ⟨rfl, rfl⟩ ⟨Nat.le_of_ble_eq_true rfl, Nat.le_of_ble_eq_true rfl⟩ (by simp [Value.category]) ⟨Nat.zero_le _, Nat.zero_le _⟩ rfl dX7_giveBack_92 ?_
      obtain ⟨g95, hf⟩ := iN hf
      refine b_iald C ((kd7 C.cl hk0).1) g95 dX7_giveBack_95 ?_
      refine b_iload_n C dX7_giveBack_96 rfl 1 rfl ?_
      refine b_icmp_ne (tgt := 120) C dX7_giveBack_97 (by decide) (fun c97 => ?_) (fun c97 => ?_)
      · have hf := iF c97 hf
        refine b_pm [0, 4] (lv' := [(0, .ref (G.2.2 i0)), (4, .int v4)]) rfl ?_
        exact wX7_giveBack_b120 C  hk0 hf
      · have hf := iT c97 hf
        refine b_aload_n C dX7_giveBack_100 rfl 0 rfl ?_
        refine gfX7_7 C hk0 dX7_giveBack_101 ?_
        refine b_iload_n C dX7_giveBack_104 rfl 3 rfl ?_
        refine b_iload_n C dX7_giveBack_105 rfl 2 rfl ?_
        refine b_iload C dX7_giveBack_106 4 rfl ?_
        refine b_iadd C dX7_giveBack_108 ?_
        obtain ⟨r109, c109, hf⟩ := oB hf
        refine b_callSi (As := [.int v3, .int (v2 + v4)]) (res := (r109, x)) C (metX7_ofBed l G _ _ _ _  c109) gkX7_40 ekX7_40 rfl ⟨rfl, rfl⟩ ⟨Nat.le_of_ble_eq_true rfl, Nat.le_of_ble_eq_true rfl⟩ (by simp [Value.category]) ⟨Nat.zero_le _, Nat.zero_le _⟩ rfl dX7_giveBack_109 ?_
        refine b_iconst (v := (-1)) C dX7_giveBack_112 (by decide) ?_
        obtain ⟨g113, hf⟩ := iN hf
        obtain ⟨x113, e113, hf⟩ := lN1 hf
        refine b_iast C ((kd7 C.cl hk0).1) g113 dX7_giveBack_113 ?_
        rw [e113]
        refine b_iinc (q := 4) (v' := (v4 + 1)) (lv' := [(4, .int (v4 + 1)), (0, .ref (G.2.2 i0)), (1, .int v1), (2, .int v2), (3, .int v3)]) C dX7_giveBack_114 rfl rfl (by decide) rfl ?_
        refine b_goto (tgt := 74) C dX7_giveBack_117 (by decide) ?_
        refine b_pm [1, 2, 3, 4, 0] (lv' := [(0, .ref (G.2.2 i0)), (1, .int v1), (2, .int v2), (3, .int v3), (4, .int (v4 + 1))]) rfl ?_
        exact ih _ _ _ hf
set_option maxHeartbeats 4000000 in
set_option maxRecDepth 100000 in
theorem wX7_giveBack_b60 (C : CT p s m args meth c cX7_giveBack 5 RX7 (some (.int)) G (pA G s.heap.size)) {i0 : Nat} {v1 : Int32} {v2 : Int32} {s0 : Int32} {x : xS} {r : (Int32 × xS)} (hk0 : KD G i0 7) (hf : fX7_giveBack_b60 i0 v1 v2 s0 x = some r) : WB p l e rX7_giveBack s m args below meth c 5 G (pA G s.heap.size) (qI below G r args s 0 0) 0 0 60 [(0, .ref (G.2.2 i0)), (1, .int v1), (2, .int v2)] [.int s0] x := by
  unfold fX7_giveBack_b60 at hf
  refine b_istore_n (lv' := [(3, .int s0), (0, .ref (G.2.2 i0)), (1, .int v1), (2, .int v2)]) C dX7_giveBack_60 rfl (by decide) rfl ?_
  refine b_iload_n C dX7_giveBack_61 rfl 0 rfl ?_
  refine b_iconst (v := (-1)) C dX7_giveBack_62 (by decide) ?_
  refine b_icmp_ne (tgt := 71) C dX7_giveBack_63 (by decide) (fun c63 => ?_) (fun c63 => ?_)
  · have hf := iF c63 hf
    refine b_iconst (v := 0) C dX7_giveBack_71 (by decide) ?_
    refine b_istore (lv' := [(4, .int 0), (3, .int s0), (0, .ref (G.2.2 i0)), (1, .int v1), (2, .int v2)]) C dX7_giveBack_72 (by decide) rfl ?_
    refine b_pm [2, 3, 4, 1, 0] (lv' := [(0, .ref (G.2.2 i0)), (1, .int v1), (2, .int v2), (3, .int s0), (4, .int 0)]) rfl ?_
    exact wX7_giveBack_b74 C  hk0 FU _ _ _ hf
  · have hf := iT c63 hf
    refine b_aload_n C dX7_giveBack_66 rfl 1 rfl ?_
    obtain ⟨r67, c67, hf⟩ := oB hf
    refine b_callVi (K := 7) (As := []) (res := r67) C (metX7_refuses l G _ _ _ hk0 c67) hk0 (by decide) rfl gkX7_87 ekX7_87 rfl ⟨rfl, rfl⟩ ⟨Nat.le_of_ble_eq_true rfl, Nat.le_of_ble_eq_true rfl⟩ (by simp [Value.category]) ⟨Nat.zero_le _, Nat.zero_le _⟩ rfl dX7_giveBack_67 ?_
    exact b_ireti C dX7_giveBack_70 hf
set_option maxHeartbeats 4000000 in
set_option maxRecDepth 100000 in
theorem wX7_giveBack_b27 (C : CT p s m args meth c cX7_giveBack 5 RX7 (some (.int)) G (pA G s.heap.size)) {i0 : Nat} {v1 : Int32} {v2 : Int32} {s1 : Int32} {x : xS} {r : (Int32 × xS)} (hk0 : KD G i0 7) (hf : fX7_giveBack_b27 i0 v1 v2 s1 x = some r) : WB p l e rX7_giveBack s m args below meth c 5 G (pA G s.heap.size) (qI below G r args s 0 0) 0 0 27 [(0, .ref (G.2.2 i0)), (1, .int v1), (2, .int v2)] [.int s1, .ref (G.2.2 i0)] x := by
  unfold fX7_giveBack_b27 at hf
  obtain ⟨r27, c27, hf⟩ := oB hf
  refine b_callVi (K := 7) (As := [.int s1]) (res := r27) C (metX7_holds l G _ _ _ _ hk0 c27) hk0 (by decide) rfl gkX7_78 ekX7_78 rfl ⟨rfl, rfl⟩ ⟨Nat.le_of_ble_eq_true rfl, Nat.le_of_ble_eq_true rfl⟩ (by simp [Value.category]) ⟨Nat.zero_le _, Nat.zero_le _⟩ rfl dX7_giveBack_27 ?_
  refine b_if_ne (tgt := 35) C dX7_giveBack_30 (by decide) (fun c30 => ?_) (fun c30 => ?_)
  · have hf := iF c30 hf
    refine b_aload_n C dX7_giveBack_35 rfl 0 rfl ?_
    obtain ⟨r36, c36, hf⟩ := oB hf
    refine b_callVv (K := 7) (As := []) (res := r36) C (metX7_save l G _ _ _ hk0 c36) hk0 (by decide) rfl gkX7_81 ekX7_81 rfl ⟨rfl, rfl⟩ ⟨Nat.le_of_ble_eq_true rfl, Nat.le_of_ble_eq_true rfl⟩ (by simp [Value.category]) ⟨Nat.zero_le _, Nat.zero_le _⟩ rfl dX7_giveBack_36 ?_
    refine b_iload_n C dX7_giveBack_39 rfl 2 rfl ?_
    refine b_aload_n C dX7_giveBack_40 rfl 0 rfl ?_
    refine gfX7_7 C hk0 dX7_giveBack_41 ?_
    refine b_bipush (v := 108) C dX7_giveBack_44 (by decide) ?_
    obtain ⟨g46, hf⟩ := iN hf
    refine b_iald C ((kd7 C.cl hk0).1) g46 dX7_giveBack_46 ?_
    refine b_icmp_ge (tgt := 54) C dX7_giveBack_47 (by decide) (fun c47 => ?_) (fun c47 => ?_)
    · have hf := iT c47 hf
      refine b_aload_n C dX7_giveBack_54 rfl 0 rfl ?_
      refine b_iload_n C dX7_giveBack_55 rfl 1 rfl ?_
      refine b_iload_n C dX7_giveBack_56 rfl 2 rfl ?_
      obtain ⟨r57, c57, hf⟩ := oB hf
      refine b_callVi (K := 7) (As := [.int v1, .int v2]) (res := (r57, r36)) C (metX7_bedOf l G _ _ _ _ _ hk0 c57) hk0 (by decide) rfl gkX7_47 ekX7_47 rfl ⟨rfl, rfl⟩ ⟨Nat.le_of_ble_eq_true rfl, Nat.le_of_ble_eq_true rfl⟩ (by simp [Value.category]) ⟨Nat.zero_le _, Nat.zero_le _⟩ rfl dX7_giveBack_57 ?_
      exact wX7_giveBack_b60 C  hk0 hf
    · have hf := iF c47 hf
      refine b_iconst (v := (-1)) C dX7_giveBack_50 (by decide) ?_
      refine b_goto (tgt := 60) C dX7_giveBack_51 (by decide) ?_
      exact wX7_giveBack_b60 C  hk0 hf
  · have hf := iT c30 hf
    refine b_iconst (v := 0) C dX7_giveBack_33 (by decide) ?_
    exact b_ireti C dX7_giveBack_34 hf
set_option maxHeartbeats 4000000 in
set_option maxRecDepth 100000 in
theorem wX7_giveBack_b0 (C : CT p s m args meth c cX7_giveBack 5 RX7 (some (.int)) G (pA G s.heap.size)) {i0 : Nat} {v1 : Int32} {v2 : Int32} {x : xS} {r : (Int32 × xS)} (hk0 : KD G i0 7) (hf : fX7_giveBack_b0 i0 v1 v2 x = some r) : WB p l e rX7_giveBack s m args below meth c 5 G (pA G s.heap.size) (qI below G r args s 0 0) 0 0 0 [(0, .ref (G.2.2 i0)), (1, .int v1), (2, .int v2)] [] x := by
  unfold fX7_giveBack_b0 at hf
  refine b_aload_n C dX7_giveBack_0 rfl 0 rfl ?_
  refine b_iload_n C dX7_giveBack_1 rfl 1 rfl ?_
  obtain ⟨r2, c2, hf⟩ := oB hf
  refine b_callSi (As := [.int v1]) (res := (r2, x)) C (metX7_isLodger l G _ _ _  c2) gkX7_70 ekX7_70 rfl ⟨rfl, rfl⟩ ⟨Nat.le_of_ble_eq_true rfl, Nat.le_of_ble_eq_true rfl⟩ (by simp [Value.category]) ⟨Nat.zero_le _, Nat.zero_le _⟩ rfl dX7_giveBack_2 ?_
  refine b_if_ne (tgt := 12) C dX7_giveBack_5 (by decide) (fun c5 => ?_) (fun c5 => ?_)
  · have hf := iF c5 hf
    refine b_iload_n C dX7_giveBack_12 rfl 2 rfl ?_
    refine b_iconst (v := 0) C dX7_giveBack_13 (by decide) ?_
    refine b_bipush (v := 11) C dX7_giveBack_14 (by decide) ?_
    obtain ⟨r16, c16, hf⟩ := oB hf
    refine b_callSi (As := [.int v2, .int 0, .int 11]) (res := (r16, x)) C (metX7_in l G _ _ _ _ _  c16) gkX7_33 ekX7_33 rfl ⟨rfl, rfl⟩ ⟨Nat.le_of_ble_eq_true rfl, Nat.le_of_ble_eq_true rfl⟩ (by simp [Value.category]) ⟨Nat.zero_le _, Nat.zero_le _⟩ rfl dX7_giveBack_16 ?_
    refine b_if_eq (tgt := 26) C dX7_giveBack_19 (by decide) (fun c19 => ?_) (fun c19 => ?_)
    · have hf := iT c19 hf
      refine b_iconst (v := 2) C dX7_giveBack_26 (by decide) ?_
      exact wX7_giveBack_b27 C  hk0 hf
    · have hf := iF c19 hf
      refine b_iconst (v := 0) C dX7_giveBack_22 (by decide) ?_
      refine b_goto (tgt := 27) C dX7_giveBack_23 (by decide) ?_
      exact wX7_giveBack_b27 C  hk0 hf
  · have hf := iT c5 hf
    refine b_iconst (v := 1) C dX7_giveBack_8 (by decide) ?_
    refine b_goto (tgt := 27) C dX7_giveBack_9 (by decide) ?_
    exact wX7_giveBack_b27 C  hk0 hf
end
theorem metX7_giveBack (l : Launch) (G : gT) (i0 : Nat) (v1 : Int32) (v2 : Int32) (x : xS) (r : (Int32 × xS)) (hk0 : KD G i0 7) (hf : fX7_giveBack i0 v1 v2 x = some r) : cI l yX7_giveBack cX7_giveBack 5 (.int) rX7_giveBack [.ref (G.2.2 i0), .int v1, .int v2] G x r :=
  b_body (by decide) (Nat.le_of_ble_eq_true rfl) rfl (fun p e s m args below meth c C => wX7_giveBack_b0 C hk0 hf)
-- X7_goBack
abbrev rX7_goBack : Room := { frames := 1, cells := 0, slots := 0, locals := 22 }
def fX7_goBack_b44 (i0 : Nat) (v1 : Int32) : Nat → Int32 → xS → Option (Int32 × xS)
  | 0, _, _ => none
  | n + 1, v2, x => (if (120 : Int32) ≤ v2 then
  Option.bind (fX7_lent i0 x) (fun r74 =>
  some (r74, x))
  else
  (if ((120 * v1) + v2) < 0 ∨ ln (i0 + 4) ≤ ((120 * v1) + v2).toNatClampNeg then none else
  (if v2 < 0 ∨ ln (i0 + 1) ≤ v2.toNatClampNeg then none else
  lt1 (up1 x (i0 + 1) v2.toNatClampNeg (x.1 (i0 + 4) ((120 * v1) + v2).toNatClampNeg)) (fun x66 =>
  fX7_goBack_b44 i0 v1 n (v2 + 1) x66))))
def fX7_goBack_b30 (i0 : Nat) (v1 : Int32) (s1 : Int32) (x : xS) : Option (Int32 × xS) :=
  Option.bind (fX7_holds i0 s1 x) (fun r30 =>
  (if r30.1 = 0 then
  some (0, r30.2)
  else
  Option.bind (fX7_save i0 r30.2) (fun r39 =>
  fX7_goBack_b44 i0 v1 FU 0 r39)))
def fX7_goBack_b0 (i0 : Nat) (v1 : Int32) (x : xS) : Option (Int32 × xS) :=
  Option.bind (fX7_in v1 0 1 x) (fun r4 =>
  (if r4 = 0 then
  fX7_goBack_b30 i0 v1 1 x
  else
  (if (((x.1 i0 6) >>> (v1 &&& 31)) &&& 1) = 0 then
  fX7_goBack_b30 i0 v1 2 x
  else
  fX7_goBack_b30 i0 v1 0 x)))
def fX7_goBack (i0 : Nat) (v1 : Int32) (x : xS) : Option (Int32 × xS) := fX7_goBack_b0 i0 v1 x
section
variable {p : Program} {l : Launch} {e : Env} {R : Room} {s : State} {m : MethodId} {args : Array Value} {below : List Frame} {meth : Method} {c : Code} {G : gT}
set_option maxHeartbeats 4000000 in
set_option maxRecDepth 100000 in
theorem wX7_goBack_b44 (C : CT p s m args meth c cX7_goBack 3 RX7 (some (.int)) G (pA G s.heap.size)) {i0 : Nat} {v1 : Int32} {r : (Int32 × xS)} (hk0 : KD G i0 7) : ∀ (n : Nat) (v2 : Int32) (x : xS), fX7_goBack_b44 i0 v1 n v2 x = some r → WB p l e rX7_goBack s m args below meth c 3 G (pA G s.heap.size) (qI below G r args s 0 0) 0 0 44 [(0, .ref (G.2.2 i0)), (1, .int v1), (2, .int v2)] [] x := by
  intro n
  induction n with
  | zero =>
    intro v2 x hf
    cases hf
  | succ n ih =>
    intro v2 x hf
    rw [fX7_goBack_b44] at hf
    refine b_iload_n C dX7_goBack_44 rfl 2 rfl ?_
    refine b_bipush (v := 120) C dX7_goBack_45 (by decide) ?_
    refine b_icmp_ge (tgt := 73) C dX7_goBack_47 (by decide) (fun c47 => ?_) (fun c47 => ?_)
    · have hf := iT c47 hf
      refine b_aload_n C dX7_goBack_73 rfl 0 rfl ?_
      obtain ⟨r74, c74, hf⟩ := oB hf
      refine b_callVi (K := 7) (As := []) (res := (r74, x)) C (metX7_lent l G _ _ _ hk0 c74) hk0 (by decide) rfl gkX7_139 ekX7_139 rfl ⟨rfl, rfl⟩ ⟨Nat.le_of_ble_eq_true rfl, Nat.le_of_ble_eq_true rfl⟩ (by simp [Value.category]) ⟨Nat.zero_le _, Nat.zero_le _⟩ rfl dX7_goBack_74 ?_
      exact b_ireti C dX7_goBack_77 hf
    · have hf := iF c47 hf
      refine b_aload_n C dX7_goBack_50 rfl 0 rfl ?_
      refine gfX7_7 C hk0 dX7_goBack_51 ?_
      refine b_iload_n C dX7_goBack_54 rfl 2 rfl ?_
      refine b_aload_n C dX7_goBack_55 rfl 0 rfl ?_
      refine gfX7_19 C hk0 dX7_goBack_56 ?_
      refine b_bipush (v := 120) C dX7_goBack_59 (by decide) ?_
      refine b_iload_n C dX7_goBack_61 rfl 1 rfl ?_
      refine b_imul C dX7_goBack_62 ?_
      refine b_iload_n C dX7_goBack_63 rfl 2 rfl ?_
      refine b_iadd C dX7_goBack_64 ?_
      obtain ⟨g65, hf⟩ := iN hf
      refine b_iald C ((kd7 C.cl hk0).2.2.2.1) g65 dX7_goBack_65 ?_
      obtain ⟨g66, hf⟩ := iN hf
      obtain ⟨x66, e66, hf⟩ := lN1 hf
      refine b_iast C ((kd7 C.cl hk0).1) g66 dX7_goBack_66 ?_
      rw [e66]
      refine b_iinc (q := 2) (v' := (v2 + 1)) (lv' := [(2, .int (v2 + 1)), (0, .ref (G.2.2 i0)), (1, .int v1)]) C dX7_goBack_67 rfl rfl (by decide) rfl ?_
      refine b_goto (tgt := 44) C dX7_goBack_70 (by decide) ?_
      refine b_pm [1, 2, 0] (lv' := [(0, .ref (G.2.2 i0)), (1, .int v1), (2, .int (v2 + 1))]) rfl ?_
      exact ih _ _ hf
set_option maxHeartbeats 4000000 in
set_option maxRecDepth 100000 in
theorem wX7_goBack_b30 (C : CT p s m args meth c cX7_goBack 3 RX7 (some (.int)) G (pA G s.heap.size)) {i0 : Nat} {v1 : Int32} {s1 : Int32} {x : xS} {r : (Int32 × xS)} (hk0 : KD G i0 7) (hf : fX7_goBack_b30 i0 v1 s1 x = some r) : WB p l e rX7_goBack s m args below meth c 3 G (pA G s.heap.size) (qI below G r args s 0 0) 0 0 30 [(0, .ref (G.2.2 i0)), (1, .int v1)] [.int s1, .ref (G.2.2 i0)] x := by
  unfold fX7_goBack_b30 at hf
  obtain ⟨r30, c30, hf⟩ := oB hf
  refine b_callVi (K := 7) (As := [.int s1]) (res := r30) C (metX7_holds l G _ _ _ _ hk0 c30) hk0 (by decide) rfl gkX7_78 ekX7_78 rfl ⟨rfl, rfl⟩ ⟨Nat.le_of_ble_eq_true rfl, Nat.le_of_ble_eq_true rfl⟩ (by simp [Value.category]) ⟨Nat.zero_le _, Nat.zero_le _⟩ rfl dX7_goBack_30 ?_
  refine b_if_ne (tgt := 38) C dX7_goBack_33 (by decide) (fun c33 => ?_) (fun c33 => ?_)
  · have hf := iF c33 hf
    refine b_aload_n C dX7_goBack_38 rfl 0 rfl ?_
    obtain ⟨r39, c39, hf⟩ := oB hf
    refine b_callVv (K := 7) (As := []) (res := r39) C (metX7_save l G _ _ _ hk0 c39) hk0 (by decide) rfl gkX7_81 ekX7_81 rfl ⟨rfl, rfl⟩ ⟨Nat.le_of_ble_eq_true rfl, Nat.le_of_ble_eq_true rfl⟩ (by simp [Value.category]) ⟨Nat.zero_le _, Nat.zero_le _⟩ rfl dX7_goBack_39 ?_
    refine b_iconst (v := 0) C dX7_goBack_42 (by decide) ?_
    refine b_istore_n (lv' := [(2, .int 0), (0, .ref (G.2.2 i0)), (1, .int v1)]) C dX7_goBack_43 rfl (by decide) rfl ?_
    refine b_pm [1, 2, 0] (lv' := [(0, .ref (G.2.2 i0)), (1, .int v1), (2, .int 0)]) rfl ?_
    exact wX7_goBack_b44 C  hk0 FU _ _ hf
  · have hf := iT c33 hf
    refine b_iconst (v := 0) C dX7_goBack_36 (by decide) ?_
    exact b_ireti C dX7_goBack_37 hf
set_option maxHeartbeats 4000000 in
set_option maxRecDepth 100000 in
theorem wX7_goBack_b0 (C : CT p s m args meth c cX7_goBack 3 RX7 (some (.int)) G (pA G s.heap.size)) {i0 : Nat} {v1 : Int32} {x : xS} {r : (Int32 × xS)} (hk0 : KD G i0 7) (hf : fX7_goBack_b0 i0 v1 x = some r) : WB p l e rX7_goBack s m args below meth c 3 G (pA G s.heap.size) (qI below G r args s 0 0) 0 0 0 [(0, .ref (G.2.2 i0)), (1, .int v1)] [] x := by
  unfold fX7_goBack_b0 at hf
  refine b_aload_n C dX7_goBack_0 rfl 0 rfl ?_
  refine b_iload_n C dX7_goBack_1 rfl 1 rfl ?_
  refine b_iconst (v := 0) C dX7_goBack_2 (by decide) ?_
  refine b_iconst (v := 1) C dX7_goBack_3 (by decide) ?_
  obtain ⟨r4, c4, hf⟩ := oB hf
  refine b_callSi (As := [.int v1, .int 0, .int 1]) (res := (r4, x)) C (metX7_in l G _ _ _ _ _  c4) gkX7_33 ekX7_33 rfl ⟨rfl, rfl⟩ ⟨Nat.le_of_ble_eq_true rfl, Nat.le_of_ble_eq_true rfl⟩ (by simp [Value.category]) ⟨Nat.zero_le _, Nat.zero_le _⟩ rfl dX7_goBack_4 ?_
  refine b_if_ne (tgt := 14) C dX7_goBack_7 (by decide) (fun c7 => ?_) (fun c7 => ?_)
  · have hf := iF c7 hf
    refine b_aload_n C dX7_goBack_14 rfl 0 rfl ?_
    refine gfX7_136 C hk0 dX7_goBack_15 ?_
    refine b_iload_n C dX7_goBack_18 rfl 1 rfl ?_
    refine b_ishr C dX7_goBack_19 ?_
    refine b_iconst (v := 1) C dX7_goBack_20 (by decide) ?_
    refine b_iand C dX7_goBack_21 ?_
    refine b_if_ne (tgt := 29) C dX7_goBack_22 (by decide) (fun c22 => ?_) (fun c22 => ?_)
    · have hf := iF c22 hf
      refine b_iconst (v := 0) C dX7_goBack_29 (by decide) ?_
      exact wX7_goBack_b30 C  hk0 hf
    · have hf := iT c22 hf
      refine b_iconst (v := 2) C dX7_goBack_25 (by decide) ?_
      refine b_goto (tgt := 30) C dX7_goBack_26 (by decide) ?_
      exact wX7_goBack_b30 C  hk0 hf
  · have hf := iT c7 hf
    refine b_iconst (v := 1) C dX7_goBack_10 (by decide) ?_
    refine b_goto (tgt := 30) C dX7_goBack_11 (by decide) ?_
    exact wX7_goBack_b30 C  hk0 hf
end
theorem metX7_goBack (l : Launch) (G : gT) (i0 : Nat) (v1 : Int32) (x : xS) (r : (Int32 × xS)) (hk0 : KD G i0 7) (hf : fX7_goBack i0 v1 x = some r) : cI l yX7_goBack cX7_goBack 3 (.int) rX7_goBack [.ref (G.2.2 i0), .int v1] G x r :=
  b_body (by decide) (Nat.le_of_ble_eq_true rfl) rfl (fun p e s m args below meth c C => wX7_goBack_b0 C hk0 hf)
-- X7_ifAsked
abbrev rX7_ifAsked : Room := { frames := 6, cells := 0, slots := 0, locals := 146 }
def fX7_ifAsked_b25 (i0 : Nat) (v1 : Int32) (v2 : Int32) (v3 : Int32) (s1 : Int32) (x : xS) : Option (Int32 × xS) :=
  Option.bind (fX7_holds i0 s1 x) (fun r25 =>
  (if r25.1 = 0 then
  some (0, r25.2)
  else
  Option.bind (fX7_would i0 v1 v2 v3 r25.2) (fun r35 =>
  some (r35.1, r35.2))))
def fX7_ifAsked_b0 (i0 : Nat) (v1 : Int32) (v2 : Int32) (v3 : Int32) (x : xS) : Option (Int32 × xS) :=
  Option.bind (fX7_isLodger v1 x) (fun r2 =>
  (if r2 = 0 then
  fX7_ifAsked_b25 i0 v1 v2 v3 1 x
  else
  Option.bind (fX7_isTime v2 v3 x) (fun r14 =>
  (if r14 = 0 then
  fX7_ifAsked_b25 i0 v1 v2 v3 2 x
  else
  fX7_ifAsked_b25 i0 v1 v2 v3 0 x))))
def fX7_ifAsked (i0 : Nat) (v1 : Int32) (v2 : Int32) (v3 : Int32) (x : xS) : Option (Int32 × xS) := fX7_ifAsked_b0 i0 v1 v2 v3 x
section
variable {p : Program} {l : Launch} {e : Env} {R : Room} {s : State} {m : MethodId} {args : Array Value} {below : List Frame} {meth : Method} {c : Code} {G : gT}
set_option maxHeartbeats 4000000 in
set_option maxRecDepth 100000 in
theorem wX7_ifAsked_b25 (C : CT p s m args meth c cX7_ifAsked 4 RX7 (some (.int)) G (pA G s.heap.size)) {i0 : Nat} {v1 : Int32} {v2 : Int32} {v3 : Int32} {s1 : Int32} {x : xS} {r : (Int32 × xS)} (hk0 : KD G i0 7) (hf : fX7_ifAsked_b25 i0 v1 v2 v3 s1 x = some r) : WB p l e rX7_ifAsked s m args below meth c 4 G (pA G s.heap.size) (qI below G r args s 0 0) 0 0 25 [(0, .ref (G.2.2 i0)), (1, .int v1), (2, .int v2), (3, .int v3)] [.int s1, .ref (G.2.2 i0)] x := by
  unfold fX7_ifAsked_b25 at hf
  obtain ⟨r25, c25, hf⟩ := oB hf
  refine b_callVi (K := 7) (As := [.int s1]) (res := r25) C (metX7_holds l G _ _ _ _ hk0 c25) hk0 (by decide) rfl gkX7_78 ekX7_78 rfl ⟨rfl, rfl⟩ ⟨Nat.le_of_ble_eq_true rfl, Nat.le_of_ble_eq_true rfl⟩ (by simp [Value.category]) ⟨Nat.zero_le _, Nat.zero_le _⟩ rfl dX7_ifAsked_25 ?_
  refine b_if_eq (tgt := 41) C dX7_ifAsked_28 (by decide) (fun c28 => ?_) (fun c28 => ?_)
  · have hf := iT c28 hf
    refine b_iconst (v := 0) C dX7_ifAsked_41 (by decide) ?_
    exact b_ireti C dX7_ifAsked_42 hf
  · have hf := iF c28 hf
    refine b_aload_n C dX7_ifAsked_31 rfl 0 rfl ?_
    refine b_iload_n C dX7_ifAsked_32 rfl 1 rfl ?_
    refine b_iload_n C dX7_ifAsked_33 rfl 2 rfl ?_
    refine b_iload_n C dX7_ifAsked_34 rfl 3 rfl ?_
    obtain ⟨r35, c35, hf⟩ := oB hf
    refine b_callVi (K := 7) (As := [.int v1, .int v2, .int v3]) (res := r35) C (metX7_would l G _ _ _ _ _ _ hk0 c35) hk0 (by decide) rfl gkX7_155 ekX7_155 rfl ⟨rfl, rfl⟩ ⟨Nat.le_of_ble_eq_true rfl, Nat.le_of_ble_eq_true rfl⟩ (by simp [Value.category]) ⟨Nat.zero_le _, Nat.zero_le _⟩ rfl dX7_ifAsked_35 ?_
    refine b_goto (tgt := 42) C dX7_ifAsked_38 (by decide) ?_
    exact b_ireti C dX7_ifAsked_42 hf
set_option maxHeartbeats 4000000 in
set_option maxRecDepth 100000 in
theorem wX7_ifAsked_b0 (C : CT p s m args meth c cX7_ifAsked 4 RX7 (some (.int)) G (pA G s.heap.size)) {i0 : Nat} {v1 : Int32} {v2 : Int32} {v3 : Int32} {x : xS} {r : (Int32 × xS)} (hk0 : KD G i0 7) (hf : fX7_ifAsked_b0 i0 v1 v2 v3 x = some r) : WB p l e rX7_ifAsked s m args below meth c 4 G (pA G s.heap.size) (qI below G r args s 0 0) 0 0 0 [(0, .ref (G.2.2 i0)), (1, .int v1), (2, .int v2), (3, .int v3)] [] x := by
  unfold fX7_ifAsked_b0 at hf
  refine b_aload_n C dX7_ifAsked_0 rfl 0 rfl ?_
  refine b_iload_n C dX7_ifAsked_1 rfl 1 rfl ?_
  obtain ⟨r2, c2, hf⟩ := oB hf
  refine b_callSi (As := [.int v1]) (res := (r2, x)) C (metX7_isLodger l G _ _ _  c2) gkX7_70 ekX7_70 rfl ⟨rfl, rfl⟩ ⟨Nat.le_of_ble_eq_true rfl, Nat.le_of_ble_eq_true rfl⟩ (by simp [Value.category]) ⟨Nat.zero_le _, Nat.zero_le _⟩ rfl dX7_ifAsked_2 ?_
  refine b_if_ne (tgt := 12) C dX7_ifAsked_5 (by decide) (fun c5 => ?_) (fun c5 => ?_)
  · have hf := iF c5 hf
    refine b_iload_n C dX7_ifAsked_12 rfl 2 rfl ?_
    refine b_iload_n C dX7_ifAsked_13 rfl 3 rfl ?_
    obtain ⟨r14, c14, hf⟩ := oB hf
    refine b_callSi (As := [.int v2, .int v3]) (res := (r14, x)) C (metX7_isTime l G _ _ _ _  c14) gkX7_74 ekX7_74 rfl ⟨rfl, rfl⟩ ⟨Nat.le_of_ble_eq_true rfl, Nat.le_of_ble_eq_true rfl⟩ (by simp [Value.category]) ⟨Nat.zero_le _, Nat.zero_le _⟩ rfl dX7_ifAsked_14 ?_
    refine b_if_eq (tgt := 24) C dX7_ifAsked_17 (by decide) (fun c17 => ?_) (fun c17 => ?_)
    · have hf := iT c17 hf
      refine b_iconst (v := 2) C dX7_ifAsked_24 (by decide) ?_
      exact wX7_ifAsked_b25 C  hk0 hf
    · have hf := iF c17 hf
      refine b_iconst (v := 0) C dX7_ifAsked_20 (by decide) ?_
      refine b_goto (tgt := 25) C dX7_ifAsked_21 (by decide) ?_
      exact wX7_ifAsked_b25 C  hk0 hf
  · have hf := iT c5 hf
    refine b_iconst (v := 1) C dX7_ifAsked_8 (by decide) ?_
    refine b_goto (tgt := 25) C dX7_ifAsked_9 (by decide) ?_
    exact wX7_ifAsked_b25 C  hk0 hf
end
theorem metX7_ifAsked (l : Launch) (G : gT) (i0 : Nat) (v1 : Int32) (v2 : Int32) (v3 : Int32) (x : xS) (r : (Int32 × xS)) (hk0 : KD G i0 7) (hf : fX7_ifAsked i0 v1 v2 v3 x = some r) : cI l yX7_ifAsked cX7_ifAsked 4 (.int) rX7_ifAsked [.ref (G.2.2 i0), .int v1, .int v2, .int v3] G x r :=
  b_body (by decide) (Nat.le_of_ble_eq_true rfl) rfl (fun p e s m args below meth c C => wX7_ifAsked_b0 C hk0 hf)
-- X7_ifPutOut
abbrev rX7_ifPutOut : Room := { frames := 6, cells := 0, slots := 0, locals := 146 }
def fX7_ifPutOut_b25 (i0 : Nat) (v1 : Int32) (v2 : Int32) (v3 : Int32) (s1 : Int32) (x : xS) : Option (Int32 × xS) :=
  Option.bind (fX7_holds i0 s1 x) (fun r25 =>
  (if r25.1 = 0 then
  some (0, r25.2)
  else
  Option.bind (fX7_would i0 v1 v2 v3 r25.2) (fun r37 =>
  some ((r37.2.1 i0 9), r37.2))))
def fX7_ifPutOut_b0 (i0 : Nat) (v1 : Int32) (v2 : Int32) (v3 : Int32) (x : xS) : Option (Int32 × xS) :=
  Option.bind (fX7_isLodger v1 x) (fun r2 =>
  (if r2 = 0 then
  fX7_ifPutOut_b25 i0 v1 v2 v3 1 x
  else
  Option.bind (fX7_isTime v2 v3 x) (fun r14 =>
  (if r14 = 0 then
  fX7_ifPutOut_b25 i0 v1 v2 v3 2 x
  else
  fX7_ifPutOut_b25 i0 v1 v2 v3 0 x))))
def fX7_ifPutOut (i0 : Nat) (v1 : Int32) (v2 : Int32) (v3 : Int32) (x : xS) : Option (Int32 × xS) := fX7_ifPutOut_b0 i0 v1 v2 v3 x
section
variable {p : Program} {l : Launch} {e : Env} {R : Room} {s : State} {m : MethodId} {args : Array Value} {below : List Frame} {meth : Method} {c : Code} {G : gT}
set_option maxHeartbeats 4000000 in
set_option maxRecDepth 100000 in
theorem wX7_ifPutOut_b25 (C : CT p s m args meth c cX7_ifPutOut 5 RX7 (some (.int)) G (pA G s.heap.size)) {i0 : Nat} {v1 : Int32} {v2 : Int32} {v3 : Int32} {s1 : Int32} {x : xS} {r : (Int32 × xS)} (hk0 : KD G i0 7) (hf : fX7_ifPutOut_b25 i0 v1 v2 v3 s1 x = some r) : WB p l e rX7_ifPutOut s m args below meth c 5 G (pA G s.heap.size) (qI below G r args s 0 0) 0 0 25 [(0, .ref (G.2.2 i0)), (1, .int v1), (2, .int v2), (3, .int v3)] [.int s1, .ref (G.2.2 i0)] x := by
  unfold fX7_ifPutOut_b25 at hf
  obtain ⟨r25, c25, hf⟩ := oB hf
  refine b_callVi (K := 7) (As := [.int s1]) (res := r25) C (metX7_holds l G _ _ _ _ hk0 c25) hk0 (by decide) rfl gkX7_78 ekX7_78 rfl ⟨rfl, rfl⟩ ⟨Nat.le_of_ble_eq_true rfl, Nat.le_of_ble_eq_true rfl⟩ (by simp [Value.category]) ⟨Nat.zero_le _, Nat.zero_le _⟩ rfl dX7_ifPutOut_25 ?_
  refine b_if_ne (tgt := 33) C dX7_ifPutOut_28 (by decide) (fun c28 => ?_) (fun c28 => ?_)
  · have hf := iF c28 hf
    refine b_aload_n C dX7_ifPutOut_33 rfl 0 rfl ?_
    refine b_iload_n C dX7_ifPutOut_34 rfl 1 rfl ?_
    refine b_iload_n C dX7_ifPutOut_35 rfl 2 rfl ?_
    refine b_iload_n C dX7_ifPutOut_36 rfl 3 rfl ?_
    obtain ⟨r37, c37, hf⟩ := oB hf
    refine b_callVi (K := 7) (As := [.int v1, .int v2, .int v3]) (res := r37) C (metX7_would l G _ _ _ _ _ _ hk0 c37) hk0 (by decide) rfl gkX7_155 ekX7_155 rfl ⟨rfl, rfl⟩ ⟨Nat.le_of_ble_eq_true rfl, Nat.le_of_ble_eq_true rfl⟩ (by simp [Value.category]) ⟨Nat.zero_le _, Nat.zero_le _⟩ rfl dX7_ifPutOut_37 ?_
    refine b_istore (lv' := [(4, .int r37.1), (0, .ref (G.2.2 i0)), (1, .int v1), (2, .int v2), (3, .int v3)]) C dX7_ifPutOut_40 (by decide) rfl ?_
    refine b_aload_n C dX7_ifPutOut_42 rfl 1 rfl ?_
    refine gfX7_60 C hk0 dX7_ifPutOut_43 ?_
    exact b_ireti C dX7_ifPutOut_46 hf
  · have hf := iT c28 hf
    refine b_iconst (v := 0) C dX7_ifPutOut_31 (by decide) ?_
    exact b_ireti C dX7_ifPutOut_32 hf
set_option maxHeartbeats 4000000 in
set_option maxRecDepth 100000 in
theorem wX7_ifPutOut_b0 (C : CT p s m args meth c cX7_ifPutOut 5 RX7 (some (.int)) G (pA G s.heap.size)) {i0 : Nat} {v1 : Int32} {v2 : Int32} {v3 : Int32} {x : xS} {r : (Int32 × xS)} (hk0 : KD G i0 7) (hf : fX7_ifPutOut_b0 i0 v1 v2 v3 x = some r) : WB p l e rX7_ifPutOut s m args below meth c 5 G (pA G s.heap.size) (qI below G r args s 0 0) 0 0 0 [(0, .ref (G.2.2 i0)), (1, .int v1), (2, .int v2), (3, .int v3)] [] x := by
  unfold fX7_ifPutOut_b0 at hf
  refine b_aload_n C dX7_ifPutOut_0 rfl 0 rfl ?_
  refine b_iload_n C dX7_ifPutOut_1 rfl 1 rfl ?_
  obtain ⟨r2, c2, hf⟩ := oB hf
  refine b_callSi (As := [.int v1]) (res := (r2, x)) C (metX7_isLodger l G _ _ _  c2) gkX7_70 ekX7_70 rfl ⟨rfl, rfl⟩ ⟨Nat.le_of_ble_eq_true rfl, Nat.le_of_ble_eq_true rfl⟩ (by simp [Value.category]) ⟨Nat.zero_le _, Nat.zero_le _⟩ rfl dX7_ifPutOut_2 ?_
  refine b_if_ne (tgt := 12) C dX7_ifPutOut_5 (by decide) (fun c5 => ?_) (fun c5 => ?_)
  · have hf := iF c5 hf
    refine b_iload_n C dX7_ifPutOut_12 rfl 2 rfl ?_
    refine b_iload_n C dX7_ifPutOut_13 rfl 3 rfl ?_
    obtain ⟨r14, c14, hf⟩ := oB hf
    refine b_callSi (As := [.int v2, .int v3]) (res := (r14, x)) C (metX7_isTime l G _ _ _ _  c14) gkX7_74 ekX7_74 rfl ⟨rfl, rfl⟩ ⟨Nat.le_of_ble_eq_true rfl, Nat.le_of_ble_eq_true rfl⟩ (by simp [Value.category]) ⟨Nat.zero_le _, Nat.zero_le _⟩ rfl dX7_ifPutOut_14 ?_
    refine b_if_eq (tgt := 24) C dX7_ifPutOut_17 (by decide) (fun c17 => ?_) (fun c17 => ?_)
    · have hf := iT c17 hf
      refine b_iconst (v := 2) C dX7_ifPutOut_24 (by decide) ?_
      exact wX7_ifPutOut_b25 C  hk0 hf
    · have hf := iF c17 hf
      refine b_iconst (v := 0) C dX7_ifPutOut_20 (by decide) ?_
      refine b_goto (tgt := 25) C dX7_ifPutOut_21 (by decide) ?_
      exact wX7_ifPutOut_b25 C  hk0 hf
  · have hf := iT c5 hf
    refine b_iconst (v := 1) C dX7_ifPutOut_8 (by decide) ?_
    refine b_goto (tgt := 25) C dX7_ifPutOut_9 (by decide) ?_
    exact wX7_ifPutOut_b25 C  hk0 hf
end
theorem metX7_ifPutOut (l : Launch) (G : gT) (i0 : Nat) (v1 : Int32) (v2 : Int32) (v3 : Int32) (x : xS) (r : (Int32 × xS)) (hk0 : KD G i0 7) (hf : fX7_ifPutOut i0 v1 v2 v3 x = some r) : cI l yX7_ifPutOut cX7_ifPutOut 5 (.int) rX7_ifPutOut [.ref (G.2.2 i0), .int v1, .int v2, .int v3] G x r :=
  b_body (by decide) (Nat.le_of_ble_eq_true rfl) rfl (fun p e s m args below meth c C => wX7_ifPutOut_b0 C hk0 hf)
-- X7_keep
abbrev rX7_keep : Room := { frames := 1, cells := 0, slots := 0, locals := 22 }
def fX7_keep_b25 (i0 : Nat) (v1 : Int32) : Nat → Int32 → xS → Option (Int32 × xS)
  | 0, _, _ => none
  | n + 1, v2, x => (if (120 : Int32) ≤ v2 then
  lt1 (up1 x i0 6 ((x.1 i0 6) ||| ((1 : Int32) <<< (v1 &&& 31)))) (fun x63 =>
  Option.bind (fX7_lent i0 x63) (fun r67 =>
  some (r67, x63)))
  else
  (if v2 < 0 ∨ ln (i0 + 1) ≤ v2.toNatClampNeg then none else
  (if ((120 * v1) + v2) < 0 ∨ ln (i0 + 4) ≤ ((120 * v1) + v2).toNatClampNeg then none else
  lt1 (up1 x (i0 + 4) ((120 * v1) + v2).toNatClampNeg (x.1 (i0 + 1) v2.toNatClampNeg)) (fun x47 =>
  fX7_keep_b25 i0 v1 n (v2 + 1) x47))))
def fX7_keep_b15 (i0 : Nat) (v1 : Int32) (s1 : Int32) (x : xS) : Option (Int32 × xS) :=
  Option.bind (fX7_holds i0 s1 x) (fun r15 =>
  (if r15.1 = 0 then
  some (0, r15.2)
  else
  fX7_keep_b25 i0 v1 FU 0 r15.2))
def fX7_keep_b0 (i0 : Nat) (v1 : Int32) (x : xS) : Option (Int32 × xS) :=
  Option.bind (fX7_in v1 0 1 x) (fun r4 =>
  (if r4 = 0 then
  fX7_keep_b15 i0 v1 1 x
  else
  fX7_keep_b15 i0 v1 0 x))
def fX7_keep (i0 : Nat) (v1 : Int32) (x : xS) : Option (Int32 × xS) := fX7_keep_b0 i0 v1 x
section
variable {p : Program} {l : Launch} {e : Env} {R : Room} {s : State} {m : MethodId} {args : Array Value} {below : List Frame} {meth : Method} {c : Code} {G : gT}
set_option maxHeartbeats 4000000 in
set_option maxRecDepth 100000 in
theorem wX7_keep_b25 (C : CT p s m args meth c cX7_keep 3 RX7 (some (.int)) G (pA G s.heap.size)) {i0 : Nat} {v1 : Int32} {r : (Int32 × xS)} (hk0 : KD G i0 7) : ∀ (n : Nat) (v2 : Int32) (x : xS), fX7_keep_b25 i0 v1 n v2 x = some r → WB p l e rX7_keep s m args below meth c 3 G (pA G s.heap.size) (qI below G r args s 0 0) 0 0 25 [(0, .ref (G.2.2 i0)), (1, .int v1), (2, .int v2)] [] x := by
  intro n
  induction n with
  | zero =>
    intro v2 x hf
    cases hf
  | succ n ih =>
    intro v2 x hf
    rw [fX7_keep_b25] at hf
    refine b_iload_n C dX7_keep_25 rfl 2 rfl ?_
    refine b_bipush (v := 120) C dX7_keep_26 (by decide) ?_
    refine b_icmp_ge (tgt := 54) C dX7_keep_28 (by decide) (fun c28 => ?_) (fun c28 => ?_)
    · have hf := iT c28 hf
      refine b_aload_n C dX7_keep_54 rfl 0 rfl ?_
      refine b_dup C dX7_keep_55 rfl ?_
      refine gfX7_136 C hk0 dX7_keep_56 ?_
      refine b_iconst (v := 1) C dX7_keep_59 (by decide) ?_
      refine b_iload_n C dX7_keep_60 rfl 1 rfl ?_
      refine b_ishl C dX7_keep_61 ?_
      refine b_ior C dX7_keep_62 ?_
      obtain ⟨x63, e63, hf⟩ := lN1 hf
      refine pfX7_136 C hk0 dX7_keep_63 e63 ?_
      refine b_aload_n C dX7_keep_66 rfl 0 rfl ?_
      obtain ⟨r67, c67, hf⟩ := oB hf
      refine b_callVi (K := 7) (As := []) (res := (r67, x63)) C (metX7_lent l G _ _ _ hk0 c67) hk0 (by decide) rfl gkX7_139 ekX7_139 rfl ⟨rfl, rfl⟩ ⟨Nat.le_of_ble_eq_true rfl, Nat.le_of_ble_eq_true rfl⟩ (by simp [Value.category]) ⟨Nat.zero_le _, Nat.zero_le _⟩ rfl dX7_keep_67 ?_
      exact b_ireti C dX7_keep_70 hf
    · have hf := iF c28 hf
      refine b_aload_n C dX7_keep_31 rfl 0 rfl ?_
      refine gfX7_19 C hk0 dX7_keep_32 ?_
      refine b_bipush (v := 120) C dX7_keep_35 (by decide) ?_
      refine b_iload_n C dX7_keep_37 rfl 1 rfl ?_
      refine b_imul C dX7_keep_38 ?_
      refine b_iload_n C dX7_keep_39 rfl 2 rfl ?_
      refine b_iadd C dX7_keep_40 ?_
      refine b_aload_n C dX7_keep_41 rfl 0 rfl ?_
      refine gfX7_7 C hk0 dX7_keep_42 ?_
      refine b_iload_n C dX7_keep_45 rfl 2 rfl ?_
      obtain ⟨g46, hf⟩ := iN hf
      refine b_iald C ((kd7 C.cl hk0).1) g46 dX7_keep_46 ?_
      obtain ⟨g47, hf⟩ := iN hf
      obtain ⟨x47, e47, hf⟩ := lN1 hf
      refine b_iast C ((kd7 C.cl hk0).2.2.2.1) g47 dX7_keep_47 ?_
      rw [e47]
      refine b_iinc (q := 2) (v' := (v2 + 1)) (lv' := [(2, .int (v2 + 1)), (0, .ref (G.2.2 i0)), (1, .int v1)]) C dX7_keep_48 rfl rfl (by decide) rfl ?_
      refine b_goto (tgt := 25) C dX7_keep_51 (by decide) ?_
      refine b_pm [1, 2, 0] (lv' := [(0, .ref (G.2.2 i0)), (1, .int v1), (2, .int (v2 + 1))]) rfl ?_
      exact ih _ _ hf
set_option maxHeartbeats 4000000 in
set_option maxRecDepth 100000 in
theorem wX7_keep_b15 (C : CT p s m args meth c cX7_keep 3 RX7 (some (.int)) G (pA G s.heap.size)) {i0 : Nat} {v1 : Int32} {s1 : Int32} {x : xS} {r : (Int32 × xS)} (hk0 : KD G i0 7) (hf : fX7_keep_b15 i0 v1 s1 x = some r) : WB p l e rX7_keep s m args below meth c 3 G (pA G s.heap.size) (qI below G r args s 0 0) 0 0 15 [(0, .ref (G.2.2 i0)), (1, .int v1)] [.int s1, .ref (G.2.2 i0)] x := by
  unfold fX7_keep_b15 at hf
  obtain ⟨r15, c15, hf⟩ := oB hf
  refine b_callVi (K := 7) (As := [.int s1]) (res := r15) C (metX7_holds l G _ _ _ _ hk0 c15) hk0 (by decide) rfl gkX7_78 ekX7_78 rfl ⟨rfl, rfl⟩ ⟨Nat.le_of_ble_eq_true rfl, Nat.le_of_ble_eq_true rfl⟩ (by simp [Value.category]) ⟨Nat.zero_le _, Nat.zero_le _⟩ rfl dX7_keep_15 ?_
  refine b_if_ne (tgt := 23) C dX7_keep_18 (by decide) (fun c18 => ?_) (fun c18 => ?_)
  · have hf := iF c18 hf
    refine b_iconst (v := 0) C dX7_keep_23 (by decide) ?_
    refine b_istore_n (lv' := [(2, .int 0), (0, .ref (G.2.2 i0)), (1, .int v1)]) C dX7_keep_24 rfl (by decide) rfl ?_
    refine b_pm [1, 2, 0] (lv' := [(0, .ref (G.2.2 i0)), (1, .int v1), (2, .int 0)]) rfl ?_
    exact wX7_keep_b25 C  hk0 FU _ _ hf
  · have hf := iT c18 hf
    refine b_iconst (v := 0) C dX7_keep_21 (by decide) ?_
    exact b_ireti C dX7_keep_22 hf
set_option maxHeartbeats 4000000 in
set_option maxRecDepth 100000 in
theorem wX7_keep_b0 (C : CT p s m args meth c cX7_keep 3 RX7 (some (.int)) G (pA G s.heap.size)) {i0 : Nat} {v1 : Int32} {x : xS} {r : (Int32 × xS)} (hk0 : KD G i0 7) (hf : fX7_keep_b0 i0 v1 x = some r) : WB p l e rX7_keep s m args below meth c 3 G (pA G s.heap.size) (qI below G r args s 0 0) 0 0 0 [(0, .ref (G.2.2 i0)), (1, .int v1)] [] x := by
  unfold fX7_keep_b0 at hf
  refine b_aload_n C dX7_keep_0 rfl 0 rfl ?_
  refine b_iload_n C dX7_keep_1 rfl 1 rfl ?_
  refine b_iconst (v := 0) C dX7_keep_2 (by decide) ?_
  refine b_iconst (v := 1) C dX7_keep_3 (by decide) ?_
  obtain ⟨r4, c4, hf⟩ := oB hf
  refine b_callSi (As := [.int v1, .int 0, .int 1]) (res := (r4, x)) C (metX7_in l G _ _ _ _ _  c4) gkX7_33 ekX7_33 rfl ⟨rfl, rfl⟩ ⟨Nat.le_of_ble_eq_true rfl, Nat.le_of_ble_eq_true rfl⟩ (by simp [Value.category]) ⟨Nat.zero_le _, Nat.zero_le _⟩ rfl dX7_keep_4 ?_
  refine b_if_eq (tgt := 14) C dX7_keep_7 (by decide) (fun c7 => ?_) (fun c7 => ?_)
  · have hf := iT c7 hf
    refine b_iconst (v := 1) C dX7_keep_14 (by decide) ?_
    exact wX7_keep_b15 C  hk0 hf
  · have hf := iF c7 hf
    refine b_iconst (v := 0) C dX7_keep_10 (by decide) ?_
    refine b_goto (tgt := 15) C dX7_keep_11 (by decide) ?_
    exact wX7_keep_b15 C  hk0 hf
end
theorem metX7_keep (l : Launch) (G : gT) (i0 : Nat) (v1 : Int32) (x : xS) (r : (Int32 × xS)) (hk0 : KD G i0 7) (hf : fX7_keep i0 v1 x = some r) : cI l yX7_keep cX7_keep 3 (.int) rX7_keep [.ref (G.2.2 i0), .int v1] G x r :=
  b_body (by decide) (Nat.le_of_ble_eq_true rfl) rfl (fun p e s m args below meth c C => wX7_keep_b0 C hk0 hf)
-- X7_lodgerOf
abbrev rX7_lodgerOf : Room := { frames := 2, cells := 0, slots := 0, locals := 45 }
def fX7_lodgerOf_b27 (i0 : Nat) (v1 : Int32) (v2 : Int32) (s1 : Int32) (x : xS) : Option (Int32 × xS) :=
  Option.bind (fX7_holds i0 s1 x) (fun r27 =>
  (if r27.1 = 0 then
  some (0, r27.2)
  else
  Option.bind (fX7_ofLodger i0 v1 v2 r27.2) (fun r36 =>
  some (r36, r27.2))))
def fX7_lodgerOf_b0 (i0 : Nat) (v1 : Int32) (v2 : Int32) (x : xS) : Option (Int32 × xS) :=
  Option.bind (fX7_isLodger v1 x) (fun r2 =>
  (if r2 = 0 then
  fX7_lodgerOf_b27 i0 v1 v2 1 x
  else
  Option.bind (fX7_in v2 0 6 x) (fun r16 =>
  (if r16 = 0 then
  fX7_lodgerOf_b27 i0 v1 v2 2 x
  else
  fX7_lodgerOf_b27 i0 v1 v2 0 x))))
def fX7_lodgerOf (i0 : Nat) (v1 : Int32) (v2 : Int32) (x : xS) : Option (Int32 × xS) := fX7_lodgerOf_b0 i0 v1 v2 x
section
variable {p : Program} {l : Launch} {e : Env} {R : Room} {s : State} {m : MethodId} {args : Array Value} {below : List Frame} {meth : Method} {c : Code} {G : gT}
set_option maxHeartbeats 4000000 in
set_option maxRecDepth 100000 in
theorem wX7_lodgerOf_b27 (C : CT p s m args meth c cX7_lodgerOf 3 RX7 (some (.int)) G (pA G s.heap.size)) {i0 : Nat} {v1 : Int32} {v2 : Int32} {s1 : Int32} {x : xS} {r : (Int32 × xS)} (hk0 : KD G i0 7) (hf : fX7_lodgerOf_b27 i0 v1 v2 s1 x = some r) : WB p l e rX7_lodgerOf s m args below meth c 3 G (pA G s.heap.size) (qI below G r args s 0 0) 0 0 27 [(0, .ref (G.2.2 i0)), (1, .int v1), (2, .int v2)] [.int s1, .ref (G.2.2 i0)] x := by
  unfold fX7_lodgerOf_b27 at hf
  obtain ⟨r27, c27, hf⟩ := oB hf
  refine b_callVi (K := 7) (As := [.int s1]) (res := r27) C (metX7_holds l G _ _ _ _ hk0 c27) hk0 (by decide) rfl gkX7_78 ekX7_78 rfl ⟨rfl, rfl⟩ ⟨Nat.le_of_ble_eq_true rfl, Nat.le_of_ble_eq_true rfl⟩ (by simp [Value.category]) ⟨Nat.zero_le _, Nat.zero_le _⟩ rfl dX7_lodgerOf_27 ?_
  refine b_if_eq (tgt := 42) C dX7_lodgerOf_30 (by decide) (fun c30 => ?_) (fun c30 => ?_)
  · have hf := iT c30 hf
    refine b_iconst (v := 0) C dX7_lodgerOf_42 (by decide) ?_
    exact b_ireti C dX7_lodgerOf_43 hf
  · have hf := iF c30 hf
    refine b_aload_n C dX7_lodgerOf_33 rfl 0 rfl ?_
    refine b_iload_n C dX7_lodgerOf_34 rfl 1 rfl ?_
    refine b_iload_n C dX7_lodgerOf_35 rfl 2 rfl ?_
    obtain ⟨r36, c36, hf⟩ := oB hf
    refine b_callVi (K := 7) (As := [.int v1, .int v2]) (res := (r36, r27.2)) C (metX7_ofLodger l G _ _ _ _ _ hk0 c36) hk0 (by decide) rfl gkX7_146 ekX7_146 rfl ⟨rfl, rfl⟩ ⟨Nat.le_of_ble_eq_true rfl, Nat.le_of_ble_eq_true rfl⟩ (by simp [Value.category]) ⟨Nat.zero_le _, Nat.zero_le _⟩ rfl dX7_lodgerOf_36 ?_
    refine b_goto (tgt := 43) C dX7_lodgerOf_39 (by decide) ?_
    exact b_ireti C dX7_lodgerOf_43 hf
set_option maxHeartbeats 4000000 in
set_option maxRecDepth 100000 in
theorem wX7_lodgerOf_b0 (C : CT p s m args meth c cX7_lodgerOf 3 RX7 (some (.int)) G (pA G s.heap.size)) {i0 : Nat} {v1 : Int32} {v2 : Int32} {x : xS} {r : (Int32 × xS)} (hk0 : KD G i0 7) (hf : fX7_lodgerOf_b0 i0 v1 v2 x = some r) : WB p l e rX7_lodgerOf s m args below meth c 3 G (pA G s.heap.size) (qI below G r args s 0 0) 0 0 0 [(0, .ref (G.2.2 i0)), (1, .int v1), (2, .int v2)] [] x := by
  unfold fX7_lodgerOf_b0 at hf
  refine b_aload_n C dX7_lodgerOf_0 rfl 0 rfl ?_
  refine b_iload_n C dX7_lodgerOf_1 rfl 1 rfl ?_
  obtain ⟨r2, c2, hf⟩ := oB hf
  refine b_callSi (As := [.int v1]) (res := (r2, x)) C (metX7_isLodger l G _ _ _  c2) gkX7_70 ekX7_70 rfl ⟨rfl, rfl⟩ ⟨Nat.le_of_ble_eq_true rfl, Nat.le_of_ble_eq_true rfl⟩ (by simp [Value.category]) ⟨Nat.zero_le _, Nat.zero_le _⟩ rfl dX7_lodgerOf_2 ?_
  refine b_if_ne (tgt := 12) C dX7_lodgerOf_5 (by decide) (fun c5 => ?_) (fun c5 => ?_)
  · have hf := iF c5 hf
    refine b_iload_n C dX7_lodgerOf_12 rfl 2 rfl ?_
    refine b_iconst (v := 0) C dX7_lodgerOf_13 (by decide) ?_
    refine b_bipush (v := 6) C dX7_lodgerOf_14 (by decide) ?_
    obtain ⟨r16, c16, hf⟩ := oB hf
    refine b_callSi (As := [.int v2, .int 0, .int 6]) (res := (r16, x)) C (metX7_in l G _ _ _ _ _  c16) gkX7_33 ekX7_33 rfl ⟨rfl, rfl⟩ ⟨Nat.le_of_ble_eq_true rfl, Nat.le_of_ble_eq_true rfl⟩ (by simp [Value.category]) ⟨Nat.zero_le _, Nat.zero_le _⟩ rfl dX7_lodgerOf_16 ?_
    refine b_if_eq (tgt := 26) C dX7_lodgerOf_19 (by decide) (fun c19 => ?_) (fun c19 => ?_)
    · have hf := iT c19 hf
      refine b_iconst (v := 2) C dX7_lodgerOf_26 (by decide) ?_
      exact wX7_lodgerOf_b27 C  hk0 hf
    · have hf := iF c19 hf
      refine b_iconst (v := 0) C dX7_lodgerOf_22 (by decide) ?_
      refine b_goto (tgt := 27) C dX7_lodgerOf_23 (by decide) ?_
      exact wX7_lodgerOf_b27 C  hk0 hf
  · have hf := iT c5 hf
    refine b_iconst (v := 1) C dX7_lodgerOf_8 (by decide) ?_
    refine b_goto (tgt := 27) C dX7_lodgerOf_9 (by decide) ?_
    exact wX7_lodgerOf_b27 C  hk0 hf
end
theorem metX7_lodgerOf (l : Launch) (G : gT) (i0 : Nat) (v1 : Int32) (v2 : Int32) (x : xS) (r : (Int32 × xS)) (hk0 : KD G i0 7) (hf : fX7_lodgerOf i0 v1 v2 x = some r) : cI l yX7_lodgerOf cX7_lodgerOf 3 (.int) rX7_lodgerOf [.ref (G.2.2 i0), .int v1, .int v2] G x r :=
  b_body (by decide) (Nat.le_of_ble_eq_true rfl) rfl (fun p e s m args below meth c C => wX7_lodgerOf_b0 C hk0 hf)
-- X7_longest
abbrev rX7_longest : Room := { frames := 4, cells := 0, slots := 0, locals := 95 }
def fX7_longest_b27 (i0 : Nat) (v1 : Int32) (v2 : Int32) (s1 : Int32) (x : xS) : Option (Int32 × xS) :=
  Option.bind (fX7_holds i0 s1 x) (fun r27 =>
  (if r27.1 = 0 then
  some (0, r27.2)
  else
  Option.bind (fX7_longestFor i0 v1 v2 r27.2) (fun r36 =>
  some (r36, r27.2))))
def fX7_longest_b0 (i0 : Nat) (v1 : Int32) (v2 : Int32) (x : xS) : Option (Int32 × xS) :=
  Option.bind (fX7_isLodger v1 x) (fun r2 =>
  (if r2 = 0 then
  fX7_longest_b27 i0 v1 v2 1 x
  else
  Option.bind (fX7_in v2 0 11 x) (fun r16 =>
  (if r16 = 0 then
  fX7_longest_b27 i0 v1 v2 2 x
  else
  fX7_longest_b27 i0 v1 v2 0 x))))
def fX7_longest (i0 : Nat) (v1 : Int32) (v2 : Int32) (x : xS) : Option (Int32 × xS) := fX7_longest_b0 i0 v1 v2 x
section
variable {p : Program} {l : Launch} {e : Env} {R : Room} {s : State} {m : MethodId} {args : Array Value} {below : List Frame} {meth : Method} {c : Code} {G : gT}
set_option maxHeartbeats 4000000 in
set_option maxRecDepth 100000 in
theorem wX7_longest_b27 (C : CT p s m args meth c cX7_longest 3 RX7 (some (.int)) G (pA G s.heap.size)) {i0 : Nat} {v1 : Int32} {v2 : Int32} {s1 : Int32} {x : xS} {r : (Int32 × xS)} (hk0 : KD G i0 7) (hf : fX7_longest_b27 i0 v1 v2 s1 x = some r) : WB p l e rX7_longest s m args below meth c 3 G (pA G s.heap.size) (qI below G r args s 0 0) 0 0 27 [(0, .ref (G.2.2 i0)), (1, .int v1), (2, .int v2)] [.int s1, .ref (G.2.2 i0)] x := by
  unfold fX7_longest_b27 at hf
  obtain ⟨r27, c27, hf⟩ := oB hf
  refine b_callVi (K := 7) (As := [.int s1]) (res := r27) C (metX7_holds l G _ _ _ _ hk0 c27) hk0 (by decide) rfl gkX7_78 ekX7_78 rfl ⟨rfl, rfl⟩ ⟨Nat.le_of_ble_eq_true rfl, Nat.le_of_ble_eq_true rfl⟩ (by simp [Value.category]) ⟨Nat.zero_le _, Nat.zero_le _⟩ rfl dX7_longest_27 ?_
  refine b_if_eq (tgt := 42) C dX7_longest_30 (by decide) (fun c30 => ?_) (fun c30 => ?_)
  · have hf := iT c30 hf
    refine b_iconst (v := 0) C dX7_longest_42 (by decide) ?_
    exact b_ireti C dX7_longest_43 hf
  · have hf := iF c30 hf
    refine b_aload_n C dX7_longest_33 rfl 0 rfl ?_
    refine b_iload_n C dX7_longest_34 rfl 1 rfl ?_
    refine b_iload_n C dX7_longest_35 rfl 2 rfl ?_
    obtain ⟨r36, c36, hf⟩ := oB hf
    refine b_callVi (K := 7) (As := [.int v1, .int v2]) (res := (r36, r27.2)) C (metX7_longestFor l G _ _ _ _ _ hk0 c36) hk0 (by decide) rfl gkX7_161 ekX7_161 rfl ⟨rfl, rfl⟩ ⟨Nat.le_of_ble_eq_true rfl, Nat.le_of_ble_eq_true rfl⟩ (by simp [Value.category]) ⟨Nat.zero_le _, Nat.zero_le _⟩ rfl dX7_longest_36 ?_
    refine b_goto (tgt := 43) C dX7_longest_39 (by decide) ?_
    exact b_ireti C dX7_longest_43 hf
set_option maxHeartbeats 4000000 in
set_option maxRecDepth 100000 in
theorem wX7_longest_b0 (C : CT p s m args meth c cX7_longest 3 RX7 (some (.int)) G (pA G s.heap.size)) {i0 : Nat} {v1 : Int32} {v2 : Int32} {x : xS} {r : (Int32 × xS)} (hk0 : KD G i0 7) (hf : fX7_longest_b0 i0 v1 v2 x = some r) : WB p l e rX7_longest s m args below meth c 3 G (pA G s.heap.size) (qI below G r args s 0 0) 0 0 0 [(0, .ref (G.2.2 i0)), (1, .int v1), (2, .int v2)] [] x := by
  unfold fX7_longest_b0 at hf
  refine b_aload_n C dX7_longest_0 rfl 0 rfl ?_
  refine b_iload_n C dX7_longest_1 rfl 1 rfl ?_
  obtain ⟨r2, c2, hf⟩ := oB hf
  refine b_callSi (As := [.int v1]) (res := (r2, x)) C (metX7_isLodger l G _ _ _  c2) gkX7_70 ekX7_70 rfl ⟨rfl, rfl⟩ ⟨Nat.le_of_ble_eq_true rfl, Nat.le_of_ble_eq_true rfl⟩ (by simp [Value.category]) ⟨Nat.zero_le _, Nat.zero_le _⟩ rfl dX7_longest_2 ?_
  refine b_if_ne (tgt := 12) C dX7_longest_5 (by decide) (fun c5 => ?_) (fun c5 => ?_)
  · have hf := iF c5 hf
    refine b_iload_n C dX7_longest_12 rfl 2 rfl ?_
    refine b_iconst (v := 0) C dX7_longest_13 (by decide) ?_
    refine b_bipush (v := 11) C dX7_longest_14 (by decide) ?_
    obtain ⟨r16, c16, hf⟩ := oB hf
    refine b_callSi (As := [.int v2, .int 0, .int 11]) (res := (r16, x)) C (metX7_in l G _ _ _ _ _  c16) gkX7_33 ekX7_33 rfl ⟨rfl, rfl⟩ ⟨Nat.le_of_ble_eq_true rfl, Nat.le_of_ble_eq_true rfl⟩ (by simp [Value.category]) ⟨Nat.zero_le _, Nat.zero_le _⟩ rfl dX7_longest_16 ?_
    refine b_if_eq (tgt := 26) C dX7_longest_19 (by decide) (fun c19 => ?_) (fun c19 => ?_)
    · have hf := iT c19 hf
      refine b_iconst (v := 2) C dX7_longest_26 (by decide) ?_
      exact wX7_longest_b27 C  hk0 hf
    · have hf := iF c19 hf
      refine b_iconst (v := 0) C dX7_longest_22 (by decide) ?_
      refine b_goto (tgt := 27) C dX7_longest_23 (by decide) ?_
      exact wX7_longest_b27 C  hk0 hf
  · have hf := iT c5 hf
    refine b_iconst (v := 1) C dX7_longest_8 (by decide) ?_
    refine b_goto (tgt := 27) C dX7_longest_9 (by decide) ?_
    exact wX7_longest_b27 C  hk0 hf
end
theorem metX7_longest (l : Launch) (G : gT) (i0 : Nat) (v1 : Int32) (v2 : Int32) (x : xS) (r : (Int32 × xS)) (hk0 : KD G i0 7) (hf : fX7_longest i0 v1 v2 x = some r) : cI l yX7_longest cX7_longest 3 (.int) rX7_longest [.ref (G.2.2 i0), .int v1, .int v2] G x r :=
  b_body (by decide) (Nat.le_of_ble_eq_true rfl) rfl (fun p e s m args below meth c C => wX7_longest_b0 C hk0 hf)
-- X7_need
abbrev rX7_need : Room := { frames := 2, cells := 0, slots := 0, locals := 44 }
def fX7_need_b27 (i0 : Nat) (v1 : Int32) (v2 : Int32) (s1 : Int32) (x : xS) : Option (Int32 × xS) :=
  Option.bind (fX7_holds i0 s1 x) (fun r27 =>
  (if r27.1 = 0 then
  some (0, r27.2)
  else
  Option.bind (fX7_of v1 0 r27.2) (fun r36 =>
  Option.bind (fX7_becomes i0 r36 v2 r27.2) (fun r40 =>
  some (r40.1, r40.2)))))
def fX7_need_b0 (i0 : Nat) (v1 : Int32) (v2 : Int32) (x : xS) : Option (Int32 × xS) :=
  Option.bind (fX7_isLodger v1 x) (fun r2 =>
  (if r2 = 0 then
  fX7_need_b27 i0 v1 v2 1 x
  else
  Option.bind (fX7_in v2 0 9 x) (fun r16 =>
  (if r16 = 0 then
  fX7_need_b27 i0 v1 v2 2 x
  else
  fX7_need_b27 i0 v1 v2 0 x))))
def fX7_need (i0 : Nat) (v1 : Int32) (v2 : Int32) (x : xS) : Option (Int32 × xS) := fX7_need_b0 i0 v1 v2 x
section
variable {p : Program} {l : Launch} {e : Env} {R : Room} {s : State} {m : MethodId} {args : Array Value} {below : List Frame} {meth : Method} {c : Code} {G : gT}
set_option maxHeartbeats 4000000 in
set_option maxRecDepth 100000 in
theorem wX7_need_b27 (C : CT p s m args meth c cX7_need 3 RX7 (some (.int)) G (pA G s.heap.size)) {i0 : Nat} {v1 : Int32} {v2 : Int32} {s1 : Int32} {x : xS} {r : (Int32 × xS)} (hk0 : KD G i0 7) (hf : fX7_need_b27 i0 v1 v2 s1 x = some r) : WB p l e rX7_need s m args below meth c 3 G (pA G s.heap.size) (qI below G r args s 0 0) 0 0 27 [(0, .ref (G.2.2 i0)), (1, .int v1), (2, .int v2)] [.int s1, .ref (G.2.2 i0)] x := by
  unfold fX7_need_b27 at hf
  obtain ⟨r27, c27, hf⟩ := oB hf
  refine b_callVi (K := 7) (As := [.int s1]) (res := r27) C (metX7_holds l G _ _ _ _ hk0 c27) hk0 (by decide) rfl gkX7_78 ekX7_78 rfl ⟨rfl, rfl⟩ ⟨Nat.le_of_ble_eq_true rfl, Nat.le_of_ble_eq_true rfl⟩ (by simp [Value.category]) ⟨Nat.zero_le _, Nat.zero_le _⟩ rfl dX7_need_27 ?_
  refine b_if_eq (tgt := 46) C dX7_need_30 (by decide) (fun c30 => ?_) (fun c30 => ?_)
  · have hf := iT c30 hf
    refine b_iconst (v := 0) C dX7_need_46 (by decide) ?_
    exact b_ireti C dX7_need_47 hf
  · have hf := iF c30 hf
    refine b_aload_n C dX7_need_33 rfl 0 rfl ?_
    refine b_iload_n C dX7_need_34 rfl 1 rfl ?_
    refine b_iconst (v := 0) C dX7_need_35 (by decide) ?_
    obtain ⟨r36, c36, hf⟩ := oB hf
    refine b_callSi (As := [.int v1, .int 0]) (res := (r36, r27.2)) C (metX7_of l G _ _ _ _  c36) gkX7_25 ekX7_25 rfl ⟨rfl, rfl⟩ ⟨Nat.le_of_ble_eq_true rfl, Nat.le_of_ble_eq_true rfl⟩ (by simp [Value.category]) ⟨Nat.zero_le _, Nat.zero_le _⟩ rfl dX7_need_36 ?_
    refine b_iload_n C dX7_need_39 rfl 2 rfl ?_
    obtain ⟨r40, c40, hf⟩ := oB hf
    refine b_callVi (K := 7) (As := [.int r36, .int v2]) (res := r40) C (metX7_becomes l G _ _ _ _ _ hk0 c40) hk0 (by decide) rfl gkX7_91 ekX7_91 rfl ⟨rfl, rfl⟩ ⟨Nat.le_of_ble_eq_true rfl, Nat.le_of_ble_eq_true rfl⟩ (by simp [Value.category]) ⟨Nat.zero_le _, Nat.zero_le _⟩ rfl dX7_need_40 ?_
    refine b_goto (tgt := 47) C dX7_need_43 (by decide) ?_
    exact b_ireti C dX7_need_47 hf
set_option maxHeartbeats 4000000 in
set_option maxRecDepth 100000 in
theorem wX7_need_b0 (C : CT p s m args meth c cX7_need 3 RX7 (some (.int)) G (pA G s.heap.size)) {i0 : Nat} {v1 : Int32} {v2 : Int32} {x : xS} {r : (Int32 × xS)} (hk0 : KD G i0 7) (hf : fX7_need_b0 i0 v1 v2 x = some r) : WB p l e rX7_need s m args below meth c 3 G (pA G s.heap.size) (qI below G r args s 0 0) 0 0 0 [(0, .ref (G.2.2 i0)), (1, .int v1), (2, .int v2)] [] x := by
  unfold fX7_need_b0 at hf
  refine b_aload_n C dX7_need_0 rfl 0 rfl ?_
  refine b_iload_n C dX7_need_1 rfl 1 rfl ?_
  obtain ⟨r2, c2, hf⟩ := oB hf
  refine b_callSi (As := [.int v1]) (res := (r2, x)) C (metX7_isLodger l G _ _ _  c2) gkX7_70 ekX7_70 rfl ⟨rfl, rfl⟩ ⟨Nat.le_of_ble_eq_true rfl, Nat.le_of_ble_eq_true rfl⟩ (by simp [Value.category]) ⟨Nat.zero_le _, Nat.zero_le _⟩ rfl dX7_need_2 ?_
  refine b_if_ne (tgt := 12) C dX7_need_5 (by decide) (fun c5 => ?_) (fun c5 => ?_)
  · have hf := iF c5 hf
    refine b_iload_n C dX7_need_12 rfl 2 rfl ?_
    refine b_iconst (v := 0) C dX7_need_13 (by decide) ?_
    refine b_bipush (v := 9) C dX7_need_14 (by decide) ?_
    obtain ⟨r16, c16, hf⟩ := oB hf
    refine b_callSi (As := [.int v2, .int 0, .int 9]) (res := (r16, x)) C (metX7_in l G _ _ _ _ _  c16) gkX7_33 ekX7_33 rfl ⟨rfl, rfl⟩ ⟨Nat.le_of_ble_eq_true rfl, Nat.le_of_ble_eq_true rfl⟩ (by simp [Value.category]) ⟨Nat.zero_le _, Nat.zero_le _⟩ rfl dX7_need_16 ?_
    refine b_if_eq (tgt := 26) C dX7_need_19 (by decide) (fun c19 => ?_) (fun c19 => ?_)
    · have hf := iT c19 hf
      refine b_iconst (v := 2) C dX7_need_26 (by decide) ?_
      exact wX7_need_b27 C  hk0 hf
    · have hf := iF c19 hf
      refine b_iconst (v := 0) C dX7_need_22 (by decide) ?_
      refine b_goto (tgt := 27) C dX7_need_23 (by decide) ?_
      exact wX7_need_b27 C  hk0 hf
  · have hf := iT c5 hf
    refine b_iconst (v := 1) C dX7_need_8 (by decide) ?_
    refine b_goto (tgt := 27) C dX7_need_9 (by decide) ?_
    exact wX7_need_b27 C  hk0 hf
end
theorem metX7_need (l : Launch) (G : gT) (i0 : Nat) (v1 : Int32) (v2 : Int32) (x : xS) (r : (Int32 × xS)) (hk0 : KD G i0 7) (hf : fX7_need i0 v1 v2 x = some r) : cI l yX7_need cX7_need 3 (.int) rX7_need [.ref (G.2.2 i0), .int v1, .int v2] G x r :=
  b_body (by decide) (Nat.le_of_ble_eq_true rfl) rfl (fun p e s m args below meth c C => wX7_need_b0 C hk0 hf)
-- X7_pass
abbrev rX7_pass : Room := { frames := 2, cells := 0, slots := 0, locals := 44 }
def fX7_pass_b19 (i0 : Nat) (s1 : Int32) (x : xS) : Option (Int32 × xS) :=
  Option.bind (fX7_holds i0 s1 x) (fun r19 =>
  (if r19.1 = 0 then
  some (0, r19.2)
  else
  Option.bind (fX7_save i0 r19.2) (fun r28 =>
  Option.bind (fX7_passes i0 r28) (fun r32 =>
  some (r32.1, r32.2)))))
def fX7_pass_b0 (i0 : Nat) (x : xS) : Option (Int32 × xS) :=
  (if (109 : Int32) < 0 ∨ ln (i0 + 1) ≤ (109 : Int32).toNatClampNeg then none else
  (if (x.1 (i0 + 1) (109 : Int32).toNatClampNeg) = 999 then
  fX7_pass_b19 i0 1 x
  else
  fX7_pass_b19 i0 0 x))
def fX7_pass (i0 : Nat) (x : xS) : Option (Int32 × xS) := fX7_pass_b0 i0 x
section
variable {p : Program} {l : Launch} {e : Env} {R : Room} {s : State} {m : MethodId} {args : Array Value} {below : List Frame} {meth : Method} {c : Code} {G : gT}
set_option maxHeartbeats 4000000 in
set_option maxRecDepth 100000 in
theorem wX7_pass_b19 (C : CT p s m args meth c cX7_pass 1 RX7 (some (.int)) G (pA G s.heap.size)) {i0 : Nat} {s1 : Int32} {x : xS} {r : (Int32 × xS)} (hk0 : KD G i0 7) (hf : fX7_pass_b19 i0 s1 x = some r) : WB p l e rX7_pass s m args below meth c 1 G (pA G s.heap.size) (qI below G r args s 0 0) 0 0 19 [(0, .ref (G.2.2 i0))] [.int s1, .ref (G.2.2 i0)] x := by
  unfold fX7_pass_b19 at hf
  obtain ⟨r19, c19, hf⟩ := oB hf
  refine b_callVi (K := 7) (As := [.int s1]) (res := r19) C (metX7_holds l G _ _ _ _ hk0 c19) hk0 (by decide) rfl gkX7_78 ekX7_78 rfl ⟨rfl, rfl⟩ ⟨Nat.le_of_ble_eq_true rfl, Nat.le_of_ble_eq_true rfl⟩ (by simp [Value.category]) ⟨Nat.zero_le _, Nat.zero_le _⟩ rfl dX7_pass_19 ?_
  refine b_if_ne (tgt := 27) C dX7_pass_22 (by decide) (fun c22 => ?_) (fun c22 => ?_)
  · have hf := iF c22 hf
    refine b_aload_n C dX7_pass_27 rfl 0 rfl ?_
    obtain ⟨r28, c28, hf⟩ := oB hf
    refine b_callVv (K := 7) (As := []) (res := r28) C (metX7_save l G _ _ _ hk0 c28) hk0 (by decide) rfl gkX7_81 ekX7_81 rfl ⟨rfl, rfl⟩ ⟨Nat.le_of_ble_eq_true rfl, Nat.le_of_ble_eq_true rfl⟩ (by simp [Value.category]) ⟨Nat.zero_le _, Nat.zero_le _⟩ rfl dX7_pass_28 ?_
    refine b_aload_n C dX7_pass_31 rfl 0 rfl ?_
    obtain ⟨r32, c32, hf⟩ := oB hf
    refine b_callVi (K := 7) (As := []) (res := r32) C (metX7_passes l G _ _ _ hk0 c32) hk0 (by decide) rfl gkX7_94 ekX7_94 rfl ⟨rfl, rfl⟩ ⟨Nat.le_of_ble_eq_true rfl, Nat.le_of_ble_eq_true rfl⟩ (by simp [Value.category]) ⟨Nat.zero_le _, Nat.zero_le _⟩ rfl dX7_pass_32 ?_
    exact b_ireti C dX7_pass_35 hf
  · have hf := iT c22 hf
    refine b_iconst (v := 0) C dX7_pass_25 (by decide) ?_
    exact b_ireti C dX7_pass_26 hf
set_option maxHeartbeats 4000000 in
set_option maxRecDepth 100000 in
theorem wX7_pass_b0 (C : CT p s m args meth c cX7_pass 1 RX7 (some (.int)) G (pA G s.heap.size)) {i0 : Nat} {x : xS} {r : (Int32 × xS)} (hk0 : KD G i0 7) (hf : fX7_pass_b0 i0 x = some r) : WB p l e rX7_pass s m args below meth c 1 G (pA G s.heap.size) (qI below G r args s 0 0) 0 0 0 [(0, .ref (G.2.2 i0))] [] x := by
  unfold fX7_pass_b0 at hf
  refine b_aload_n C dX7_pass_0 rfl 0 rfl ?_
  refine b_aload_n C dX7_pass_1 rfl 0 rfl ?_
  refine gfX7_7 C hk0 dX7_pass_2 ?_
  refine b_bipush (v := 109) C dX7_pass_5 (by decide) ?_
  obtain ⟨g7, hf⟩ := iN hf
  refine b_iald C ((kd7 C.cl hk0).1) g7 dX7_pass_7 ?_
  refine b_sipush (v := 999) C dX7_pass_8 (by decide) ?_
  refine b_icmp_ne (tgt := 18) C dX7_pass_11 (by decide) (fun c11 => ?_) (fun c11 => ?_)
  · have hf := iF c11 hf
    refine b_iconst (v := 0) C dX7_pass_18 (by decide) ?_
    exact wX7_pass_b19 C  hk0 hf
  · have hf := iT c11 hf
    refine b_iconst (v := 1) C dX7_pass_14 (by decide) ?_
    refine b_goto (tgt := 19) C dX7_pass_15 (by decide) ?_
    exact wX7_pass_b19 C  hk0 hf
end
theorem metX7_pass (l : Launch) (G : gT) (i0 : Nat) (x : xS) (r : (Int32 × xS)) (hk0 : KD G i0 7) (hf : fX7_pass i0 x = some r) : cI l yX7_pass cX7_pass 1 (.int) rX7_pass [.ref (G.2.2 i0)] G x r :=
  b_body (by decide) (Nat.le_of_ble_eq_true rfl) rfl (fun p e s m args below meth c C => wX7_pass_b0 C hk0 hf)
-- X7_poorest
abbrev rX7_poorest : Room := { frames := 2, cells := 0, slots := 0, locals := 44 }
def fX7_poorest_b0 (i0 : Nat) (x : xS) : Option (Int32 × xS) :=
  lt1 (up1 x i0 0 0) (fun x2 =>
  Option.bind (fX7_refusedMost i0 x2) (fun r6 =>
  some (r6, x2)))
def fX7_poorest (i0 : Nat) (x : xS) : Option (Int32 × xS) := fX7_poorest_b0 i0 x
section
variable {p : Program} {l : Launch} {e : Env} {R : Room} {s : State} {m : MethodId} {args : Array Value} {below : List Frame} {meth : Method} {c : Code} {G : gT}
set_option maxHeartbeats 4000000 in
set_option maxRecDepth 100000 in
theorem wX7_poorest_b0 (C : CT p s m args meth c cX7_poorest 1 RX7 (some (.int)) G (pA G s.heap.size)) {i0 : Nat} {x : xS} {r : (Int32 × xS)} (hk0 : KD G i0 7) (hf : fX7_poorest_b0 i0 x = some r) : WB p l e rX7_poorest s m args below meth c 1 G (pA G s.heap.size) (qI below G r args s 0 0) 0 0 0 [(0, .ref (G.2.2 i0))] [] x := by
  unfold fX7_poorest_b0 at hf
  refine b_aload_n C dX7_poorest_0 rfl 0 rfl ?_
  refine b_iconst (v := 0) C dX7_poorest_1 (by decide) ?_
  obtain ⟨x2, e2, hf⟩ := lN1 hf
  refine pfX7_29 C hk0 dX7_poorest_2 e2 ?_
  refine b_aload_n C dX7_poorest_5 rfl 0 rfl ?_
  obtain ⟨r6, c6, hf⟩ := oB hf
  refine b_callVi (K := 7) (As := []) (res := (r6, x2)) C (metX7_refusedMost l G _ _ _ hk0 c6) hk0 (by decide) rfl gkX7_164 ekX7_164 rfl ⟨rfl, rfl⟩ ⟨Nat.le_of_ble_eq_true rfl, Nat.le_of_ble_eq_true rfl⟩ (by simp [Value.category]) ⟨Nat.zero_le _, Nat.zero_le _⟩ rfl dX7_poorest_6 ?_
  exact b_ireti C dX7_poorest_9 hf
end
theorem metX7_poorest (l : Launch) (G : gT) (i0 : Nat) (x : xS) (r : (Int32 × xS)) (hk0 : KD G i0 7) (hf : fX7_poorest i0 x = some r) : cI l yX7_poorest cX7_poorest 1 (.int) rX7_poorest [.ref (G.2.2 i0)] G x r :=
  b_body (by decide) (Nat.le_of_ble_eq_true rfl) rfl (fun p e s m args below meth c C => wX7_poorest_b0 C hk0 hf)
-- X7_refused
abbrev rX7_refused : Room := { frames := 1, cells := 0, slots := 0, locals := 22 }
def fX7_refused_b15 (i0 : Nat) (v1 : Int32) (s1 : Int32) (x : xS) : Option (Int32 × xS) :=
  Option.bind (fX7_holds i0 s1 x) (fun r15 =>
  (if r15.1 = 0 then
  some (0, r15.2)
  else
  (if ((111 + v1) - 1) < 0 ∨ ln (i0 + 1) ≤ ((111 + v1) - 1).toNatClampNeg then none else
  some ((r15.2.1 (i0 + 1) ((111 + v1) - 1).toNatClampNeg), r15.2))))
def fX7_refused_b0 (i0 : Nat) (v1 : Int32) (x : xS) : Option (Int32 × xS) :=
  Option.bind (fX7_in v1 1 4 x) (fun r4 =>
  (if r4 = 0 then
  fX7_refused_b15 i0 v1 1 x
  else
  fX7_refused_b15 i0 v1 0 x))
def fX7_refused (i0 : Nat) (v1 : Int32) (x : xS) : Option (Int32 × xS) := fX7_refused_b0 i0 v1 x
section
variable {p : Program} {l : Launch} {e : Env} {R : Room} {s : State} {m : MethodId} {args : Array Value} {below : List Frame} {meth : Method} {c : Code} {G : gT}
set_option maxHeartbeats 4000000 in
set_option maxRecDepth 100000 in
theorem wX7_refused_b15 (C : CT p s m args meth c cX7_refused 2 RX7 (some (.int)) G (pA G s.heap.size)) {i0 : Nat} {v1 : Int32} {s1 : Int32} {x : xS} {r : (Int32 × xS)} (hk0 : KD G i0 7) (hf : fX7_refused_b15 i0 v1 s1 x = some r) : WB p l e rX7_refused s m args below meth c 2 G (pA G s.heap.size) (qI below G r args s 0 0) 0 0 15 [(0, .ref (G.2.2 i0)), (1, .int v1)] [.int s1, .ref (G.2.2 i0)] x := by
  unfold fX7_refused_b15 at hf
  obtain ⟨r15, c15, hf⟩ := oB hf
  refine b_callVi (K := 7) (As := [.int s1]) (res := r15) C (metX7_holds l G _ _ _ _ hk0 c15) hk0 (by decide) rfl gkX7_78 ekX7_78 rfl ⟨rfl, rfl⟩ ⟨Nat.le_of_ble_eq_true rfl, Nat.le_of_ble_eq_true rfl⟩ (by simp [Value.category]) ⟨Nat.zero_le _, Nat.zero_le _⟩ rfl dX7_refused_15 ?_
  refine b_if_eq (tgt := 35) C dX7_refused_18 (by decide) (fun c18 => ?_) (fun c18 => ?_)
  · have hf := iT c18 hf
    refine b_iconst (v := 0) C dX7_refused_35 (by decide) ?_
    exact b_ireti C dX7_refused_36 hf
  · have hf := iF c18 hf
    refine b_aload_n C dX7_refused_21 rfl 0 rfl ?_
    refine gfX7_7 C hk0 dX7_refused_22 ?_
    refine b_bipush (v := 111) C dX7_refused_25 (by decide) ?_
    refine b_iload_n C dX7_refused_27 rfl 1 rfl ?_
    refine b_iadd C dX7_refused_28 ?_
    refine b_iconst (v := 1) C dX7_refused_29 (by decide) ?_
    refine b_isub C dX7_refused_30 ?_
    obtain ⟨g31, hf⟩ := iN hf
    refine b_iald C ((kd7 C.cl hk0).1) g31 dX7_refused_31 ?_
    refine b_goto (tgt := 36) C dX7_refused_32 (by decide) ?_
    exact b_ireti C dX7_refused_36 hf
set_option maxHeartbeats 4000000 in
set_option maxRecDepth 100000 in
theorem wX7_refused_b0 (C : CT p s m args meth c cX7_refused 2 RX7 (some (.int)) G (pA G s.heap.size)) {i0 : Nat} {v1 : Int32} {x : xS} {r : (Int32 × xS)} (hk0 : KD G i0 7) (hf : fX7_refused_b0 i0 v1 x = some r) : WB p l e rX7_refused s m args below meth c 2 G (pA G s.heap.size) (qI below G r args s 0 0) 0 0 0 [(0, .ref (G.2.2 i0)), (1, .int v1)] [] x := by
  unfold fX7_refused_b0 at hf
  refine b_aload_n C dX7_refused_0 rfl 0 rfl ?_
  refine b_iload_n C dX7_refused_1 rfl 1 rfl ?_
  refine b_iconst (v := 1) C dX7_refused_2 (by decide) ?_
  refine b_iconst (v := 4) C dX7_refused_3 (by decide) ?_
  obtain ⟨r4, c4, hf⟩ := oB hf
  refine b_callSi (As := [.int v1, .int 1, .int 4]) (res := (r4, x)) C (metX7_in l G _ _ _ _ _  c4) gkX7_33 ekX7_33 rfl ⟨rfl, rfl⟩ ⟨Nat.le_of_ble_eq_true rfl, Nat.le_of_ble_eq_true rfl⟩ (by simp [Value.category]) ⟨Nat.zero_le _, Nat.zero_le _⟩ rfl dX7_refused_4 ?_
  refine b_if_eq (tgt := 14) C dX7_refused_7 (by decide) (fun c7 => ?_) (fun c7 => ?_)
  · have hf := iT c7 hf
    refine b_iconst (v := 1) C dX7_refused_14 (by decide) ?_
    exact wX7_refused_b15 C  hk0 hf
  · have hf := iF c7 hf
    refine b_iconst (v := 0) C dX7_refused_10 (by decide) ?_
    refine b_goto (tgt := 15) C dX7_refused_11 (by decide) ?_
    exact wX7_refused_b15 C  hk0 hf
end
theorem metX7_refused (l : Launch) (G : gT) (i0 : Nat) (v1 : Int32) (x : xS) (r : (Int32 × xS)) (hk0 : KD G i0 7) (hf : fX7_refused i0 v1 x = some r) : cI l yX7_refused cX7_refused 2 (.int) rX7_refused [.ref (G.2.2 i0), .int v1] G x r :=
  b_body (by decide) (Nat.le_of_ble_eq_true rfl) rfl (fun p e s m args below meth c C => wX7_refused_b0 C hk0 hf)
-- X7_run
abbrev rX7_run : Room := { frames := 7, cells := 0, slots := 0, locals := 165 }
def fX7_run_b19 (i0 : Nat) (s1 : Int32) (x : xS) : Option (Int32 × xS) :=
  Option.bind (fX7_holds i0 s1 x) (fun r19 =>
  (if r19.1 = 0 then
  some (0, r19.2)
  else
  Option.bind (fX7_save i0 r19.2) (fun r28 =>
  Option.bind (fX7_goesThrough i0 1 r28) (fun r33 =>
  lt1 (up1 r33.2 i0 8 0) (fun x39 =>
  some (r33.1, x39))))))
def fX7_run_b0 (i0 : Nat) (x : xS) : Option (Int32 × xS) :=
  Option.bind (fX7_goesThrough i0 0 x) (fun r2 =>
  (if (r2.2.1 i0 11) = 0 then
  fX7_run_b19 i0 0 r2.2
  else
  fX7_run_b19 i0 1 r2.2))
def fX7_run (i0 : Nat) (x : xS) : Option (Int32 × xS) := fX7_run_b0 i0 x
section
variable {p : Program} {l : Launch} {e : Env} {R : Room} {s : State} {m : MethodId} {args : Array Value} {below : List Frame} {meth : Method} {c : Code} {G : gT}
set_option maxHeartbeats 4000000 in
set_option maxRecDepth 100000 in
theorem wX7_run_b19 (C : CT p s m args meth c cX7_run 2 RX7 (some (.int)) G (pA G s.heap.size)) {i0 : Nat} {s1 : Int32} {x : xS} {r : (Int32 × xS)} (hk0 : KD G i0 7) (hf : fX7_run_b19 i0 s1 x = some r) : WB p l e rX7_run s m args below meth c 2 G (pA G s.heap.size) (qI below G r args s 0 0) 0 0 19 [(0, .ref (G.2.2 i0))] [.int s1, .ref (G.2.2 i0)] x := by
  unfold fX7_run_b19 at hf
  obtain ⟨r19, c19, hf⟩ := oB hf
  refine b_callVi (K := 7) (As := [.int s1]) (res := r19) C (metX7_holds l G _ _ _ _ hk0 c19) hk0 (by decide) rfl gkX7_78 ekX7_78 rfl ⟨rfl, rfl⟩ ⟨Nat.le_of_ble_eq_true rfl, Nat.le_of_ble_eq_true rfl⟩ (by simp [Value.category]) ⟨Nat.zero_le _, Nat.zero_le _⟩ rfl dX7_run_19 ?_
  refine b_if_ne (tgt := 27) C dX7_run_22 (by decide) (fun c22 => ?_) (fun c22 => ?_)
  · have hf := iF c22 hf
    refine b_aload_n C dX7_run_27 rfl 0 rfl ?_
    obtain ⟨r28, c28, hf⟩ := oB hf
    refine b_callVv (K := 7) (As := []) (res := r28) C (metX7_save l G _ _ _ hk0 c28) hk0 (by decide) rfl gkX7_81 ekX7_81 rfl ⟨rfl, rfl⟩ ⟨Nat.le_of_ble_eq_true rfl, Nat.le_of_ble_eq_true rfl⟩ (by simp [Value.category]) ⟨Nat.zero_le _, Nat.zero_le _⟩ rfl dX7_run_28 ?_
    refine b_aload_n C dX7_run_31 rfl 0 rfl ?_
    refine b_iconst (v := 1) C dX7_run_32 (by decide) ?_
    obtain ⟨r33, c33, hf⟩ := oB hf
    refine b_callVi (K := 7) (As := [.int 1]) (res := r33) C (metX7_goesThrough l G _ _ _ _ hk0 c33) hk0 (by decide) rfl gkX7_132 ekX7_132 rfl ⟨rfl, rfl⟩ ⟨Nat.le_of_ble_eq_true rfl, Nat.le_of_ble_eq_true rfl⟩ (by simp [Value.category]) ⟨Nat.zero_le _, Nat.zero_le _⟩ rfl dX7_run_33 ?_
    refine b_istore_n (lv' := [(1, .int r33.1), (0, .ref (G.2.2 i0))]) C dX7_run_36 rfl (by decide) rfl ?_
    refine b_aload_n C dX7_run_37 rfl 1 rfl ?_
    refine b_iconst (v := 0) C dX7_run_38 (by decide) ?_
    obtain ⟨x39, e39, hf⟩ := lN1 hf
    refine pfX7_97 C hk0 dX7_run_39 e39 ?_
    refine b_iload_n C dX7_run_42 rfl 0 rfl ?_
    exact b_ireti C dX7_run_43 hf
  · have hf := iT c22 hf
    refine b_iconst (v := 0) C dX7_run_25 (by decide) ?_
    exact b_ireti C dX7_run_26 hf
set_option maxHeartbeats 4000000 in
set_option maxRecDepth 100000 in
theorem wX7_run_b0 (C : CT p s m args meth c cX7_run 2 RX7 (some (.int)) G (pA G s.heap.size)) {i0 : Nat} {x : xS} {r : (Int32 × xS)} (hk0 : KD G i0 7) (hf : fX7_run_b0 i0 x = some r) : WB p l e rX7_run s m args below meth c 2 G (pA G s.heap.size) (qI below G r args s 0 0) 0 0 0 [(0, .ref (G.2.2 i0))] [] x := by
  unfold fX7_run_b0 at hf
  refine b_aload_n C dX7_run_0 rfl 0 rfl ?_
  refine b_iconst (v := 0) C dX7_run_1 (by decide) ?_
  obtain ⟨r2, c2, hf⟩ := oB hf
  refine b_callVi (K := 7) (As := [.int 0]) (res := r2) C (metX7_goesThrough l G _ _ _ _ hk0 c2) hk0 (by decide) rfl gkX7_132 ekX7_132 rfl ⟨rfl, rfl⟩ ⟨Nat.le_of_ble_eq_true rfl, Nat.le_of_ble_eq_true rfl⟩ (by simp [Value.category]) ⟨Nat.zero_le _, Nat.zero_le _⟩ rfl dX7_run_2 ?_
  refine b_istore_n (lv' := [(1, .int r2.1), (0, .ref (G.2.2 i0))]) C dX7_run_5 rfl (by decide) rfl ?_
  refine b_aload_n C dX7_run_6 rfl 1 rfl ?_
  refine b_aload_n C dX7_run_7 rfl 1 rfl ?_
  refine gfX7_100 C hk0 dX7_run_8 ?_
  refine b_if_eq (tgt := 18) C dX7_run_11 (by decide) (fun c11 => ?_) (fun c11 => ?_)
  · have hf := iT c11 hf
    refine b_iconst (v := 0) C dX7_run_18 (by decide) ?_
    refine b_pm [1] (lv' := [(0, .ref (G.2.2 i0))]) rfl ?_
    exact wX7_run_b19 C  hk0 hf
  · have hf := iF c11 hf
    refine b_iconst (v := 1) C dX7_run_14 (by decide) ?_
    refine b_goto (tgt := 19) C dX7_run_15 (by decide) ?_
    refine b_pm [1] (lv' := [(0, .ref (G.2.2 i0))]) rfl ?_
    exact wX7_run_b19 C  hk0 hf
end
theorem metX7_run (l : Launch) (G : gT) (i0 : Nat) (x : xS) (r : (Int32 × xS)) (hk0 : KD G i0 7) (hf : fX7_run i0 x = some r) : cI l yX7_run cX7_run 2 (.int) rX7_run [.ref (G.2.2 i0)] G x r :=
  b_body (by decide) (Nat.le_of_ble_eq_true rfl) rfl (fun p e s m args below meth c C => wX7_run_b0 C hk0 hf)
-- X7_set
abbrev rX7_set : Room := { frames := 2, cells := 0, slots := 0, locals := 44 }
def fX7_set_b16 (i0 : Nat) (v1 : Int32) (s1 : Int32) (x : xS) : Option (Int32 × xS) :=
  Option.bind (fX7_holds i0 s1 x) (fun r16 =>
  (if r16.1 = 0 then
  some (0, r16.2)
  else
  Option.bind (fX7_becomes i0 119 v1 r16.2) (fun r26 =>
  some (r26.1, r26.2))))
def fX7_set_b0 (i0 : Nat) (v1 : Int32) (x : xS) : Option (Int32 × xS) :=
  Option.bind (fX7_in v1 0 9 x) (fun r5 =>
  (if r5 = 0 then
  fX7_set_b16 i0 v1 1 x
  else
  fX7_set_b16 i0 v1 0 x))
def fX7_set (i0 : Nat) (v1 : Int32) (x : xS) : Option (Int32 × xS) := fX7_set_b0 i0 v1 x
section
variable {p : Program} {l : Launch} {e : Env} {R : Room} {s : State} {m : MethodId} {args : Array Value} {below : List Frame} {meth : Method} {c : Code} {G : gT}
set_option maxHeartbeats 4000000 in
set_option maxRecDepth 100000 in
theorem wX7_set_b16 (C : CT p s m args meth c cX7_set 2 RX7 (some (.int)) G (pA G s.heap.size)) {i0 : Nat} {v1 : Int32} {s1 : Int32} {x : xS} {r : (Int32 × xS)} (hk0 : KD G i0 7) (hf : fX7_set_b16 i0 v1 s1 x = some r) : WB p l e rX7_set s m args below meth c 2 G (pA G s.heap.size) (qI below G r args s 0 0) 0 0 16 [(0, .ref (G.2.2 i0)), (1, .int v1)] [.int s1, .ref (G.2.2 i0)] x := by
  unfold fX7_set_b16 at hf
  obtain ⟨r16, c16, hf⟩ := oB hf
  refine b_callVi (K := 7) (As := [.int s1]) (res := r16) C (metX7_holds l G _ _ _ _ hk0 c16) hk0 (by decide) rfl gkX7_78 ekX7_78 rfl ⟨rfl, rfl⟩ ⟨Nat.le_of_ble_eq_true rfl, Nat.le_of_ble_eq_true rfl⟩ (by simp [Value.category]) ⟨Nat.zero_le _, Nat.zero_le _⟩ rfl dX7_set_16 ?_
  refine b_if_eq (tgt := 32) C dX7_set_19 (by decide) (fun c19 => ?_) (fun c19 => ?_)
  · have hf := iT c19 hf
    refine b_iconst (v := 0) C dX7_set_32 (by decide) ?_
    exact b_ireti C dX7_set_33 hf
  · have hf := iF c19 hf
    refine b_aload_n C dX7_set_22 rfl 0 rfl ?_
    refine b_bipush (v := 119) C dX7_set_23 (by decide) ?_
    refine b_iload_n C dX7_set_25 rfl 1 rfl ?_
    obtain ⟨r26, c26, hf⟩ := oB hf
    refine b_callVi (K := 7) (As := [.int 119, .int v1]) (res := r26) C (metX7_becomes l G _ _ _ _ _ hk0 c26) hk0 (by decide) rfl gkX7_91 ekX7_91 rfl ⟨rfl, rfl⟩ ⟨Nat.le_of_ble_eq_true rfl, Nat.le_of_ble_eq_true rfl⟩ (by simp [Value.category]) ⟨Nat.zero_le _, Nat.zero_le _⟩ rfl dX7_set_26 ?_
    refine b_goto (tgt := 33) C dX7_set_29 (by decide) ?_
    exact b_ireti C dX7_set_33 hf
set_option maxHeartbeats 4000000 in
set_option maxRecDepth 100000 in
theorem wX7_set_b0 (C : CT p s m args meth c cX7_set 2 RX7 (some (.int)) G (pA G s.heap.size)) {i0 : Nat} {v1 : Int32} {x : xS} {r : (Int32 × xS)} (hk0 : KD G i0 7) (hf : fX7_set_b0 i0 v1 x = some r) : WB p l e rX7_set s m args below meth c 2 G (pA G s.heap.size) (qI below G r args s 0 0) 0 0 0 [(0, .ref (G.2.2 i0)), (1, .int v1)] [] x := by
  unfold fX7_set_b0 at hf
  refine b_aload_n C dX7_set_0 rfl 0 rfl ?_
  refine b_iload_n C dX7_set_1 rfl 1 rfl ?_
  refine b_iconst (v := 0) C dX7_set_2 (by decide) ?_
  refine b_bipush (v := 9) C dX7_set_3 (by decide) ?_
  obtain ⟨r5, c5, hf⟩ := oB hf
  refine b_callSi (As := [.int v1, .int 0, .int 9]) (res := (r5, x)) C (metX7_in l G _ _ _ _ _  c5) gkX7_33 ekX7_33 rfl ⟨rfl, rfl⟩ ⟨Nat.le_of_ble_eq_true rfl, Nat.le_of_ble_eq_true rfl⟩ (by simp [Value.category]) ⟨Nat.zero_le _, Nat.zero_le _⟩ rfl dX7_set_5 ?_
  refine b_if_eq (tgt := 15) C dX7_set_8 (by decide) (fun c8 => ?_) (fun c8 => ?_)
  · have hf := iT c8 hf
    refine b_iconst (v := 1) C dX7_set_15 (by decide) ?_
    exact wX7_set_b16 C  hk0 hf
  · have hf := iF c8 hf
    refine b_iconst (v := 0) C dX7_set_11 (by decide) ?_
    refine b_goto (tgt := 16) C dX7_set_12 (by decide) ?_
    exact wX7_set_b16 C  hk0 hf
end
theorem metX7_set (l : Launch) (G : gT) (i0 : Nat) (v1 : Int32) (x : xS) (r : (Int32 × xS)) (hk0 : KD G i0 7) (hf : fX7_set i0 v1 x = some r) : cI l yX7_set cX7_set 2 (.int) rX7_set [.ref (G.2.2 i0), .int v1] G x r :=
  b_body (by decide) (Nat.le_of_ble_eq_true rfl) rfl (fun p e s m args below meth c C => wX7_set_b0 C hk0 hf)
-- X7_thrown
abbrev rX7_thrown : Room := { frames := 0, cells := 0, slots := 0, locals := 0 }
def fX7_thrown_b0 (i0 : Nat) (x : xS)  : Option Int32 :=
  some (x.1 i0 0)
def fX7_thrown (i0 : Nat) (x : xS) : Option Int32 := fX7_thrown_b0 i0 x
section
variable {p : Program} {l : Launch} {e : Env} {R : Room} {s : State} {m : MethodId} {args : Array Value} {below : List Frame} {meth : Method} {c : Code} {G : gT}
set_option maxHeartbeats 4000000 in
set_option maxRecDepth 100000 in
theorem wX7_thrown_b0 (C : CT p s m args meth c cX7_thrown 1 RX7 (some (.int)) G (pA G s.heap.size)) {i0 : Nat} {x : xS}  {r : Int32} (hk0 : KD G i0 7) (hf : fX7_thrown_b0 i0 x  = some r) : WB p l e rX7_thrown s m args below meth c 1 G (pA G s.heap.size) (qI below G (r, x) args s 0 0) 0 0 0 [(0, .ref (G.2.2 i0))] [] x := by
  unfold fX7_thrown_b0 at hf
  refine b_aload_n C dX7_thrown_0 rfl 0 rfl ?_
  refine gfX7_29 C hk0 dX7_thrown_1 ?_
  exact b_ireti C dX7_thrown_4 (congrArg (Option.map (fun q => (q, x))) hf)
end
theorem metX7_thrown (l : Launch) (G : gT) (i0 : Nat) (x : xS) (r : Int32) (hk0 : KD G i0 7) (hf : fX7_thrown i0 x = some r) : cI l yX7_thrown cX7_thrown 1 (.int) rX7_thrown [.ref (G.2.2 i0)] G x (r, x) :=
  b_body (by decide) (Nat.le_of_ble_eq_true rfl) rfl (fun p e s m args below meth c C => wX7_thrown_b0 C hk0 hf)
-- X7_undo
abbrev rX7_undo : Room := { frames := 1, cells := 0, slots := 0, locals := 21 }
def fX7_undo_b33 (i0 : Nat) : Nat → Int32 → xS → Option (Int32 × xS)
  | 0, _, _ => none
  | n + 1, v1, x => (if (120 : Int32) ≤ v1 then
  some ((x.1 i0 4), x)
  else
  (if ((120 * (x.1 i0 4)) + v1) < 0 ∨ ln (i0 + 3) ≤ ((120 * (x.1 i0 4)) + v1).toNatClampNeg then none else
  (if v1 < 0 ∨ ln (i0 + 1) ≤ v1.toNatClampNeg then none else
  lt1 (up1 x (i0 + 1) v1.toNatClampNeg (x.1 (i0 + 3) ((120 * (x.1 i0 4)) + v1).toNatClampNeg)) (fun x58 =>
  fX7_undo_b33 i0 n (v1 + 1) x58))))
def fX7_undo_b13 (i0 : Nat) (s1 : Int32) (x : xS) : Option (Int32 × xS) :=
  Option.bind (fX7_holds i0 s1 x) (fun r13 =>
  (if r13.1 = 0 then
  some (0, r13.2)
  else
  lt1 (up1 r13.2 i0 4 ((r13.2.1 i0 4) - 1)) (fun x28 =>
  fX7_undo_b33 i0 FU 0 x28)))
def fX7_undo_b0 (i0 : Nat) (x : xS) : Option (Int32 × xS) :=
  (if (x.1 i0 4) ≤ 0 then
  fX7_undo_b13 i0 1 x
  else
  fX7_undo_b13 i0 0 x)
def fX7_undo (i0 : Nat) (x : xS) : Option (Int32 × xS) := fX7_undo_b0 i0 x
section
variable {p : Program} {l : Launch} {e : Env} {R : Room} {s : State} {m : MethodId} {args : Array Value} {below : List Frame} {meth : Method} {c : Code} {G : gT}
set_option maxHeartbeats 4000000 in
set_option maxRecDepth 100000 in
theorem wX7_undo_b33 (C : CT p s m args meth c cX7_undo 2 RX7 (some (.int)) G (pA G s.heap.size)) {i0 : Nat} {r : (Int32 × xS)} (hk0 : KD G i0 7) : ∀ (n : Nat) (v1 : Int32) (x : xS), fX7_undo_b33 i0 n v1 x = some r → WB p l e rX7_undo s m args below meth c 2 G (pA G s.heap.size) (qI below G r args s 0 0) 0 0 33 [(0, .ref (G.2.2 i0)), (1, .int v1)] [] x := by
  intro n
  induction n with
  | zero =>
    intro v1 x hf
    cases hf
  | succ n ih =>
    intro v1 x hf
    rw [fX7_undo_b33] at hf
    refine b_iload_n C dX7_undo_33 rfl 1 rfl ?_
    refine b_bipush (v := 120) C dX7_undo_34 (by decide) ?_
    refine b_icmp_ge (tgt := 65) C dX7_undo_36 (by decide) (fun c36 => ?_) (fun c36 => ?_)
    · have hf := iT c36 hf
      refine b_aload_n C dX7_undo_65 rfl 0 rfl ?_
      refine gfX7_37 C hk0 dX7_undo_66 ?_
      exact b_ireti C dX7_undo_69 hf
    · have hf := iF c36 hf
      refine b_aload_n C dX7_undo_39 rfl 0 rfl ?_
      refine gfX7_7 C hk0 dX7_undo_40 ?_
      refine b_iload_n C dX7_undo_43 rfl 1 rfl ?_
      refine b_aload_n C dX7_undo_44 rfl 0 rfl ?_
      refine gfX7_16 C hk0 dX7_undo_45 ?_
      refine b_bipush (v := 120) C dX7_undo_48 (by decide) ?_
      refine b_aload_n C dX7_undo_50 rfl 0 rfl ?_
      refine gfX7_37 C hk0 dX7_undo_51 ?_
      refine b_imul C dX7_undo_54 ?_
      refine b_iload_n C dX7_undo_55 rfl 1 rfl ?_
      refine b_iadd C dX7_undo_56 ?_
      obtain ⟨g57, hf⟩ := iN hf
      refine b_iald C ((kd7 C.cl hk0).2.2.1) g57 dX7_undo_57 ?_
      obtain ⟨g58, hf⟩ := iN hf
      obtain ⟨x58, e58, hf⟩ := lN1 hf
      refine b_iast C ((kd7 C.cl hk0).1) g58 dX7_undo_58 ?_
      rw [e58]
      refine b_iinc (q := 1) (v' := (v1 + 1)) (lv' := [(1, .int (v1 + 1)), (0, .ref (G.2.2 i0))]) C dX7_undo_59 rfl rfl (by decide) rfl ?_
      refine b_goto (tgt := 33) C dX7_undo_62 (by decide) ?_
      refine b_pm [1, 0] (lv' := [(0, .ref (G.2.2 i0)), (1, .int (v1 + 1))]) rfl ?_
      exact ih _ _ hf
set_option maxHeartbeats 4000000 in
set_option maxRecDepth 100000 in
theorem wX7_undo_b13 (C : CT p s m args meth c cX7_undo 2 RX7 (some (.int)) G (pA G s.heap.size)) {i0 : Nat} {s1 : Int32} {x : xS} {r : (Int32 × xS)} (hk0 : KD G i0 7) (hf : fX7_undo_b13 i0 s1 x = some r) : WB p l e rX7_undo s m args below meth c 2 G (pA G s.heap.size) (qI below G r args s 0 0) 0 0 13 [(0, .ref (G.2.2 i0))] [.int s1, .ref (G.2.2 i0)] x := by
  unfold fX7_undo_b13 at hf
  obtain ⟨r13, c13, hf⟩ := oB hf
  refine b_callVi (K := 7) (As := [.int s1]) (res := r13) C (metX7_holds l G _ _ _ _ hk0 c13) hk0 (by decide) rfl gkX7_78 ekX7_78 rfl ⟨rfl, rfl⟩ ⟨Nat.le_of_ble_eq_true rfl, Nat.le_of_ble_eq_true rfl⟩ (by simp [Value.category]) ⟨Nat.zero_le _, Nat.zero_le _⟩ rfl dX7_undo_13 ?_
  refine b_if_ne (tgt := 21) C dX7_undo_16 (by decide) (fun c16 => ?_) (fun c16 => ?_)
  · have hf := iF c16 hf
    refine b_aload_n C dX7_undo_21 rfl 0 rfl ?_
    refine b_dup C dX7_undo_22 rfl ?_
    refine gfX7_37 C hk0 dX7_undo_23 ?_
    refine b_iconst (v := 1) C dX7_undo_26 (by decide) ?_
    refine b_isub C dX7_undo_27 ?_
    obtain ⟨x28, e28, hf⟩ := lN1 hf
    refine pfX7_37 C hk0 dX7_undo_28 e28 ?_
    refine b_iconst (v := 0) C dX7_undo_31 (by decide) ?_
    refine b_istore_n (lv' := [(1, .int 0), (0, .ref (G.2.2 i0))]) C dX7_undo_32 rfl (by decide) rfl ?_
    refine b_pm [1, 0] (lv' := [(0, .ref (G.2.2 i0)), (1, .int 0)]) rfl ?_
    exact wX7_undo_b33 C  hk0 FU _ _ hf
  · have hf := iT c16 hf
    refine b_iconst (v := 0) C dX7_undo_19 (by decide) ?_
    exact b_ireti C dX7_undo_20 hf
set_option maxHeartbeats 4000000 in
set_option maxRecDepth 100000 in
theorem wX7_undo_b0 (C : CT p s m args meth c cX7_undo 2 RX7 (some (.int)) G (pA G s.heap.size)) {i0 : Nat} {x : xS} {r : (Int32 × xS)} (hk0 : KD G i0 7) (hf : fX7_undo_b0 i0 x = some r) : WB p l e rX7_undo s m args below meth c 2 G (pA G s.heap.size) (qI below G r args s 0 0) 0 0 0 [(0, .ref (G.2.2 i0))] [] x := by
  unfold fX7_undo_b0 at hf
  refine b_aload_n C dX7_undo_0 rfl 0 rfl ?_
  refine b_aload_n C dX7_undo_1 rfl 0 rfl ?_
  refine gfX7_37 C hk0 dX7_undo_2 ?_
  refine b_if_le (tgt := 12) C dX7_undo_5 (by decide) (fun c5 => ?_) (fun c5 => ?_)
  · have hf := iT c5 hf
    refine b_iconst (v := 1) C dX7_undo_12 (by decide) ?_
    exact wX7_undo_b13 C  hk0 hf
  · have hf := iF c5 hf
    refine b_iconst (v := 0) C dX7_undo_8 (by decide) ?_
    refine b_goto (tgt := 13) C dX7_undo_9 (by decide) ?_
    exact wX7_undo_b13 C  hk0 hf
end
theorem metX7_undo (l : Launch) (G : gT) (i0 : Nat) (x : xS) (r : (Int32 × xS)) (hk0 : KD G i0 7) (hf : fX7_undo i0 x = some r) : cI l yX7_undo cX7_undo 2 (.int) rX7_undo [.ref (G.2.2 i0)] G x r :=
  b_body (by decide) (Nat.le_of_ble_eq_true rfl) rfl (fun p e s m args below meth c C => wX7_undo_b0 C hk0 hf)
