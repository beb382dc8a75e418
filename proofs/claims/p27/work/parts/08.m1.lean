-- J6_bitCount_0f7a4
abbrev rJ6_bitCount_0f7a4 : Room := { frames := 0, cells := 0, slots := 0, locals := 0 }
def fJ6_bitCount_0f7a4_b0 (x : xS) (v0 : Int32) : Option Int32 :=
  lt1 (v0 - (((v0.toUInt32 >>> ((1 : Int32).toUInt32 &&& Int32.toUInt32 31)).toInt32) &&& 1431655765)) (fun y9 => 
  lt1 ((y9 &&& 858993459) + (((y9.toUInt32 >>> ((2 : Int32).toUInt32 &&& Int32.toUInt32 31)).toInt32) &&& 858993459)) (fun y23 => 
  lt1 ((y23 + ((y23.toUInt32 >>> ((4 : Int32).toUInt32 &&& Int32.toUInt32 31)).toInt32)) &&& 252645135) (fun y33 => 
  lt1 (y33 + ((y33.toUInt32 >>> ((8 : Int32).toUInt32 &&& Int32.toUInt32 31)).toInt32)) (fun y40 => 
  lt1 (y40 + ((y40.toUInt32 >>> ((16 : Int32).toUInt32 &&& Int32.toUInt32 31)).toInt32)) (fun y47 => 
  some (y47 &&& 63))))))
def fJ6_bitCount_0f7a4 (v0 : Int32) (x : xS) : Option Int32 := fJ6_bitCount_0f7a4_b0 x v0
section
variable {p : Program} {l : Launch} {e : Env} {R : Room} {s : State} {m : MethodId} {args : Array Value} {below : List Frame} {meth : Method} {c : Code} {G : gT}
set_option maxHeartbeats 4000000 in
set_option maxRecDepth 100000 in
theorem wJ6_bitCount_0f7a4_b0 (C : CT p s m args meth c cJ6_bitCount_0f7a4 1 RJ6 (some (.int)) G (pA G s.heap.size)) {x : xS} {v0 : Int32} {r : Int32}  (hf : fJ6_bitCount_0f7a4_b0 x v0 = some r) : WB p l e rJ6_bitCount_0f7a4 s m args below meth c 1 G (pA G s.heap.size) (qI below G (r, x) args s 0 0) 0 0 0 [(0, .int v0)] [] x := by
  unfold fJ6_bitCount_0f7a4_b0 at hf
  refine b_iload_n C dJ6_bitCount_0f7a4_0 rfl 0 rfl ?_
  refine b_iload_n C dJ6_bitCount_0f7a4_1 rfl 0 rfl ?_
  refine b_iconst (v := 1) C dJ6_bitCount_0f7a4_2 (by decide) ?_
  refine b_iushr C dJ6_bitCount_0f7a4_3 ?_
  refine b_ldcw C w_0 dJ6_bitCount_0f7a4_4 ?_
  refine b_iand C dJ6_bitCount_0f7a4_7 ?_
  refine b_isub C dJ6_bitCount_0f7a4_8 ?_
  obtain ⟨y9, e9, hf⟩ := lN1 hf
  rw [e9]
  refine b_istore_n (lv' := [(0, .int y9)]) C dJ6_bitCount_0f7a4_9 rfl (by decide) rfl ?_
  refine b_iload_n C dJ6_bitCount_0f7a4_10 rfl 0 rfl ?_
  refine b_ldcw C w_1 dJ6_bitCount_0f7a4_11 ?_
  refine b_iand C dJ6_bitCount_0f7a4_14 ?_
  refine b_iload_n C dJ6_bitCount_0f7a4_15 rfl 0 rfl ?_
  refine b_iconst (v := 2) C dJ6_bitCount_0f7a4_16 (by decide) ?_
  refine b_iushr C dJ6_bitCount_0f7a4_17 ?_
  refine b_ldcw C w_1 dJ6_bitCount_0f7a4_18 ?_
  refine b_iand C dJ6_bitCount_0f7a4_21 ?_
  refine b_iadd C dJ6_bitCount_0f7a4_22 ?_
  obtain ⟨y23, e23, hf⟩ := lN1 hf
  rw [e23]
  refine b_istore_n (lv' := [(0, .int y23)]) C dJ6_bitCount_0f7a4_23 rfl (by decide) rfl ?_
  refine b_iload_n C dJ6_bitCount_0f7a4_24 rfl 0 rfl ?_
  refine b_iload_n C dJ6_bitCount_0f7a4_25 rfl 0 rfl ?_
  refine b_iconst (v := 4) C dJ6_bitCount_0f7a4_26 (by decide) ?_
  refine b_iushr C dJ6_bitCount_0f7a4_27 ?_
  refine b_iadd C dJ6_bitCount_0f7a4_28 ?_
  refine b_ldcw C w_2 dJ6_bitCount_0f7a4_29 ?_
  refine b_iand C dJ6_bitCount_0f7a4_32 ?_
  obtain ⟨y33, e33, hf⟩ := lN1 hf
  rw [e33]
  refine b_istore_n (lv' := [(0, .int y33)]) C dJ6_bitCount_0f7a4_33 rfl (by decide) rfl ?_
  refine b_iload_n C dJ6_bitCount_0f7a4_34 rfl 0 rfl ?_
  refine b_iload_n C dJ6_bitCount_0f7a4_35 rfl 0 rfl ?_
  refine b_bipush (v := 8) C dJ6_bitCount_0f7a4_36 (by decide) ?_
  refine b_iushr C dJ6_bitCount_0f7a4_38 ?_
  refine b_iadd C dJ6_bitCount_0f7a4_39 ?_
  obtain ⟨y40, e40, hf⟩ := lN1 hf
  rw [e40]
  refine b_istore_n (lv' := [(0, .int y40)]) C dJ6_bitCount_0f7a4_40 rfl (by decide) rfl ?_
  refine b_iload_n C dJ6_bitCount_0f7a4_41 rfl 0 rfl ?_
  refine b_iload_n C dJ6_bitCount_0f7a4_42 rfl 0 rfl ?_
  refine b_bipush (v := 16) C dJ6_bitCount_0f7a4_43 (by decide) ?_
  refine b_iushr C dJ6_bitCount_0f7a4_45 ?_
  refine b_iadd C dJ6_bitCount_0f7a4_46 ?_
  obtain ⟨y47, e47, hf⟩ := lN1 hf
  rw [e47]
  refine b_istore_n (lv' := [(0, .int y47)]) C dJ6_bitCount_0f7a4_47 rfl (by decide) rfl ?_
  refine b_iload_n C dJ6_bitCount_0f7a4_48 rfl 0 rfl ?_
  refine b_bipush (v := 63) C dJ6_bitCount_0f7a4_49 (by decide) ?_
  refine b_iand C dJ6_bitCount_0f7a4_51 ?_
  exact b_ireti C dJ6_bitCount_0f7a4_52 (congrArg (Option.map (fun q => (q, x))) hf)
end
theorem metJ6_bitCount_0f7a4 (l : Launch) (G : gT) (v0 : Int32) (x : xS) (r : Int32)  (hf : fJ6_bitCount_0f7a4 v0 x = some r) : cI l yJ6_bitCount_0f7a4 cJ6_bitCount_0f7a4 1 (.int) rJ6_bitCount_0f7a4 [.int v0] G x (r, x) :=
  b_body (by decide) (Nat.le_of_ble_eq_true rfl) rfl (fun p e s m args below meth c C => wJ6_bitCount_0f7a4_b0 C  hf)
-- J7_fill_53178
abbrev rJ7_fill_53178 : Room := { frames := 0, cells := 0, slots := 0, locals := 0 }
def fJ7_fill_53178_b5 (i0 : Nat) (v1 : Int32) : Nat → Int32 → Int32 → xS → Option xS
  | 0, _, _, _ => none
  | n + 1, v2, v3, x => (if v3 ≤ v2 then
  some x
  else
  (if v2 < 0 ∨ ln i0 ≤ v2.toNatClampNeg then none else
  lt1 (up1 x i0 v2.toNatClampNeg v1) (fun x13 =>
  fJ7_fill_53178_b5 i0 v1 n (v2 + 1) v3 x13)))
def fJ7_fill_53178_b0 (i0 : Nat) (v1 : Int32) (x : xS) : Option xS :=
  lt1 (Int32.ofNat (ln i0)) (fun y4 => 
  fJ7_fill_53178_b5 i0 v1 FU 0 y4 x)
def fJ7_fill_53178 (i0 : Nat) (v1 : Int32) (x : xS) : Option xS := fJ7_fill_53178_b0 i0 v1 x
section
variable {p : Program} {l : Launch} {e : Env} {R : Room} {s : State} {m : MethodId} {args : Array Value} {below : List Frame} {meth : Method} {c : Code} {G : gT}
set_option maxHeartbeats 4000000 in
set_option maxRecDepth 100000 in
theorem wJ7_fill_53178_b5 (C : CT p s m args meth c cJ7_fill_53178 4 RJ7 none G (pA G s.heap.size)) {i0 : Nat} {v1 : Int32} {r : xS} (hk0 : KD G i0 8) : ∀ (n : Nat) (v2 : Int32) (v3 : Int32) (x : xS), fJ7_fill_53178_b5 i0 v1 n v2 v3 x = some r → WB p l e rJ7_fill_53178 s m args below meth c 4 G (pA G s.heap.size) (qV below G r args s 0 0) 0 0 5 [(0, .ref (G.2.2 i0)), (1, .int v1), (2, .int v2), (3, .int v3)] [] x := by
  intro n
  induction n with
  | zero =>
    intro v2 v3 x hf
    cases hf
  | succ n ih =>
    intro v2 v3 x hf
    rw [fJ7_fill_53178_b5] at hf
    refine b_iload_n C dJ7_fill_53178_5 rfl 2 rfl ?_
    refine b_iload_n C dJ7_fill_53178_6 rfl 3 rfl ?_
    refine b_icmp_ge (tgt := 20) C dJ7_fill_53178_7 (by decide) (fun c7 => ?_) (fun c7 => ?_)
    · have hf := iT c7 hf
      exact b_vret C dJ7_fill_53178_20 hf
    · have hf := iF c7 hf
      refine b_aload_n C dJ7_fill_53178_10 rfl 0 rfl ?_
      refine b_iload_n C dJ7_fill_53178_11 rfl 2 rfl ?_
      refine b_iload_n C dJ7_fill_53178_12 rfl 1 rfl ?_
      obtain ⟨g13, hf⟩ := iN hf
      obtain ⟨x13, e13, hf⟩ := lN1 hf
      refine b_iast C hk0 g13 dJ7_fill_53178_13 ?_
      rw [e13]
      refine b_iinc (q := 2) (v' := (v2 + 1)) (lv' := [(2, .int (v2 + 1)), (0, .ref (G.2.2 i0)), (1, .int v1), (3, .int v3)]) C dJ7_fill_53178_14 rfl rfl (by decide) rfl ?_
      refine b_goto (tgt := 5) C dJ7_fill_53178_17 (by decide) ?_
      refine b_pm [1, 2, 0, 3] (lv' := [(0, .ref (G.2.2 i0)), (1, .int v1), (2, .int (v2 + 1)), (3, .int v3)]) rfl ?_
      exact ih _ _ _ hf
set_option maxHeartbeats 4000000 in
set_option maxRecDepth 100000 in
theorem wJ7_fill_53178_b0 (C : CT p s m args meth c cJ7_fill_53178 4 RJ7 none G (pA G s.heap.size)) {i0 : Nat} {v1 : Int32} {x : xS} {r : xS} (hk0 : KD G i0 8) (hf : fJ7_fill_53178_b0 i0 v1 x = some r) : WB p l e rJ7_fill_53178 s m args below meth c 4 G (pA G s.heap.size) (qV below G r args s 0 0) 0 0 0 [(0, .ref (G.2.2 i0)), (1, .int v1)] [] x := by
  unfold fJ7_fill_53178_b0 at hf
  refine b_iconst (v := 0) C dJ7_fill_53178_0 (by decide) ?_
  refine b_istore_n (lv' := [(2, .int 0), (0, .ref (G.2.2 i0)), (1, .int v1)]) C dJ7_fill_53178_1 rfl (by decide) rfl ?_
  refine b_aload_n C dJ7_fill_53178_2 rfl 1 rfl ?_
  refine b_alen8 C hk0 dJ7_fill_53178_3 ?_
  obtain ⟨y4, e4, hf⟩ := lN1 hf
  rw [e4]
  refine b_istore_n (lv' := [(3, .int y4), (2, .int 0), (0, .ref (G.2.2 i0)), (1, .int v1)]) C dJ7_fill_53178_4 rfl (by decide) rfl ?_
  refine b_pm [2, 3, 1, 0] (lv' := [(0, .ref (G.2.2 i0)), (1, .int v1), (2, .int 0), (3, .int y4)]) rfl ?_
  exact wJ7_fill_53178_b5 C  hk0 FU _ _ _ hf
end
theorem metJ7_fill_53178 (l : Launch) (G : gT) (i0 : Nat) (v1 : Int32) (x : xS) (r : xS) (hk0 : KD G i0 8) (hf : fJ7_fill_53178 i0 v1 x = some r) : cV l yJ7_fill_53178 cJ7_fill_53178 4 rJ7_fill_53178 [.ref (G.2.2 i0), .int v1] G x r :=
  b_body (by decide) (Nat.le_of_ble_eq_true rfl) rfl (fun p e s m args below meth c C => wJ7_fill_53178_b0 C hk0 hf)
-- X2_get
abbrev rX2_get : Room := { frames := 0, cells := 0, slots := 0, locals := 0 }
def fX2_get_b24 (i0 : Nat) (x : xS)  : Option Int32 :=
  some (-1)
def fX2_get_b0 (i0 : Nat) (v1 : Int32) (v2 : Int32) (x : xS)  : Option Int32 :=
  (if v1 < 0 then
  fX2_get_b24 i0 x 
  else
  (if (gR i0) ≤ v1 then
  fX2_get_b24 i0 x 
  else
  (if v2 < 0 then
  fX2_get_b24 i0 x 
  else
  (if v2 < (gC i0) then
  (if ((v1 * (gC i0)) + v2) < 0 ∨ ln (i0 + 1) ≤ ((v1 * (gC i0)) + v2).toNatClampNeg then none else
  some (x.1 (i0 + 1) ((v1 * (gC i0)) + v2).toNatClampNeg))
  else
  fX2_get_b24 i0 x ))))
def fX2_get (i0 : Nat) (v1 : Int32) (v2 : Int32) (x : xS) : Option Int32 := fX2_get_b0 i0 v1 v2 x
section
variable {p : Program} {l : Launch} {e : Env} {R : Room} {s : State} {m : MethodId} {args : Array Value} {below : List Frame} {meth : Method} {c : Code} {G : gT}
set_option maxHeartbeats 4000000 in
set_option maxRecDepth 100000 in
theorem wX2_get_b24 (C : CT p s m args meth c cX2_get 3 RX2 (some (.int)) G (pA G s.heap.size)) {i0 : Nat} {x : xS}  {r : Int32} (hk0 : KD G i0 2) (hf : fX2_get_b24 i0 x  = some r) : WB p l e rX2_get s m args below meth c 3 G (pA G s.heap.size) (qI below G (r, x) args s 0 0) 0 0 24 [(0, .ref (G.2.2 i0))] [] x := by
  unfold fX2_get_b24 at hf
  refine b_iconst (v := (-1)) C dX2_get_24 (by decide) ?_
  exact b_ireti C dX2_get_25 (congrArg (Option.map (fun q => (q, x))) hf)
set_option maxHeartbeats 4000000 in
set_option maxRecDepth 100000 in
theorem wX2_get_b0 (C : CT p s m args meth c cX2_get 3 RX2 (some (.int)) G (pA G s.heap.size)) {i0 : Nat} {v1 : Int32} {v2 : Int32} {x : xS}  {r : Int32} (hk0 : KD G i0 2) (hf : fX2_get_b0 i0 v1 v2 x  = some r) : WB p l e rX2_get s m args below meth c 3 G (pA G s.heap.size) (qI below G (r, x) args s 0 0) 0 0 0 [(0, .ref (G.2.2 i0)), (1, .int v1), (2, .int v2)] [] x := by
  unfold fX2_get_b0 at hf
  refine b_iload_n C dX2_get_0 rfl 1 rfl ?_
  refine b_if_lt (tgt := 24) C dX2_get_1 (by decide) (fun c1 => ?_) (fun c1 => ?_)
  · have hf := iT c1 hf
    refine b_pm [0] (lv' := [(0, .ref (G.2.2 i0))]) rfl ?_
    exact wX2_get_b24 C  hk0 hf
  · have hf := iF c1 hf
    refine b_iload_n C dX2_get_4 rfl 1 rfl ?_
    refine b_aload_n C dX2_get_5 rfl 0 rfl ?_
    refine gfX2_15 C hk0 dX2_get_6 ?_
    refine b_icmp_ge (tgt := 24) C dX2_get_9 (by decide) (fun c9 => ?_) (fun c9 => ?_)
    · have hf := iT c9 hf
      refine b_pm [0] (lv' := [(0, .ref (G.2.2 i0))]) rfl ?_
      exact wX2_get_b24 C  hk0 hf
    · have hf := iF c9 hf
      refine b_iload_n C dX2_get_12 rfl 2 rfl ?_
      refine b_if_lt (tgt := 24) C dX2_get_13 (by decide) (fun c13 => ?_) (fun c13 => ?_)
      · have hf := iT c13 hf
        refine b_pm [0] (lv' := [(0, .ref (G.2.2 i0))]) rfl ?_
        exact wX2_get_b24 C  hk0 hf
      · have hf := iF c13 hf
        refine b_iload_n C dX2_get_16 rfl 2 rfl ?_
        refine b_aload_n C dX2_get_17 rfl 0 rfl ?_
        refine gfX2_21 C hk0 dX2_get_18 ?_
        refine b_icmp_lt (tgt := 26) C dX2_get_21 (by decide) (fun c21 => ?_) (fun c21 => ?_)
        · have hf := iT c21 hf
          refine b_aload_n C dX2_get_26 rfl 0 rfl ?_
          refine gfX2_24 C hk0 dX2_get_27 ?_
          refine b_iload_n C dX2_get_30 rfl 1 rfl ?_
          refine b_aload_n C dX2_get_31 rfl 0 rfl ?_
          refine gfX2_21 C hk0 dX2_get_32 ?_
          refine b_imul C dX2_get_35 ?_
          refine b_iload_n C dX2_get_36 rfl 2 rfl ?_
          refine b_iadd C dX2_get_37 ?_
          obtain ⟨g38, hf⟩ := iN hf
          refine b_iald C (kd2 C.cl hk0) g38 dX2_get_38 ?_
          exact b_ireti C dX2_get_39 (congrArg (Option.map (fun q => (q, x))) hf)
        · have hf := iF c21 hf
          refine b_pm [0] (lv' := [(0, .ref (G.2.2 i0))]) rfl ?_
          exact wX2_get_b24 C  hk0 hf
end
theorem metX2_get (l : Launch) (G : gT) (i0 : Nat) (v1 : Int32) (v2 : Int32) (x : xS) (r : Int32) (hk0 : KD G i0 2) (hf : fX2_get i0 v1 v2 x = some r) : cI l yX2_get cX2_get 3 (.int) rX2_get [.ref (G.2.2 i0), .int v1, .int v2] G x (r, x) :=
  b_body (by decide) (Nat.le_of_ble_eq_true rfl) rfl (fun p e s m args below meth c C => wX2_get_b0 C hk0 hf)
-- X4_startsPiece
abbrev rX4_startsPiece : Room := { frames := 1, cells := 0, slots := 0, locals := 22 }
def fX4_startsPiece_b34 (i0 : Nat) (x : xS)  : Option Int32 :=
  some 0
def fX4_startsPiece_b0 (i0 : Nat) (v1 : Int32) (v2 : Int32) (x : xS)  : Option Int32 :=
  Option.bind (fX2_get (i0 + 1) v1 v2 x) (fun r6 =>
  (if r6 = (-1) then
  fX4_startsPiece_b34 i0 x 
  else
  Option.bind (fX2_get (i0 + 1) v1 (v2 - 1) x) (fun r24 =>
  (if r6 = r24 then
  fX4_startsPiece_b34 i0 x 
  else
  some 1))))
def fX4_startsPiece (i0 : Nat) (v1 : Int32) (v2 : Int32) (x : xS) : Option Int32 := fX4_startsPiece_b0 i0 v1 v2 x
section
variable {p : Program} {l : Launch} {e : Env} {R : Room} {s : State} {m : MethodId} {args : Array Value} {below : List Frame} {meth : Method} {c : Code} {G : gT}
set_option maxHeartbeats 4000000 in
set_option maxRecDepth 100000 in
theorem wX4_startsPiece_b34 (C : CT p s m args meth c cX4_startsPiece 4 RX4 (some (.boolean)) G (pA G s.heap.size)) {i0 : Nat} {x : xS}  {r : Int32} (hk0 : KD G i0 4) (hf : fX4_startsPiece_b34 i0 x  = some r) : WB p l e rX4_startsPiece s m args below meth c 4 G (pA G s.heap.size) (qI below G (r, x) args s 0 0) 0 0 34 [(0, .ref (G.2.2 i0))] [] x := by
  unfold fX4_startsPiece_b34 at hf
  refine b_iconst (v := 0) C dX4_startsPiece_34 (by decide) ?_
  exact b_iretz C (by decide) dX4_startsPiece_35 (congrArg (Option.map (fun q => (q, x))) hf)
set_option maxHeartbeats 4000000 in
set_option maxRecDepth 100000 in
theorem wX4_startsPiece_b0 (C : CT p s m args meth c cX4_startsPiece 4 RX4 (some (.boolean)) G (pA G s.heap.size)) {i0 : Nat} {v1 : Int32} {v2 : Int32} {x : xS}  {r : Int32} (hk0 : KD G i0 4) (hf : fX4_startsPiece_b0 i0 v1 v2 x  = some r) : WB p l e rX4_startsPiece s m args below meth c 4 G (pA G s.heap.size) (qI below G (r, x) args s 0 0) 0 0 0 [(0, .ref (G.2.2 i0)), (1, .int v1), (2, .int v2)] [] x := by
  unfold fX4_startsPiece_b0 at hf
  refine b_aload_n C dX4_startsPiece_0 rfl 0 rfl ?_
  refine gfX4_14 C hk0 dX4_startsPiece_1 ?_
  refine b_iload_n C dX4_startsPiece_4 rfl 1 rfl ?_
  refine b_iload_n C dX4_startsPiece_5 rfl 2 rfl ?_
  obtain ⟨r6, c6, hf⟩ := oB hf
  refine b_callVi (K := 2) (As := [.int v1, .int v2]) (res := (r6, x)) C (metX2_get l G _ _ _ _ _ (kd4 C.cl hk0) c6) (kd4 C.cl hk0) (by decide) rfl gkX4_32 ekX4_32 rfl ⟨rfl, rfl⟩ ⟨Nat.le_of_ble_eq_true rfl, Nat.le_of_ble_eq_true rfl⟩ (by simp [Value.category]) ⟨Nat.zero_le _, Nat.zero_le _⟩ rfl dX4_startsPiece_6 ?_
  refine b_istore_n (lv' := [(3, .int r6), (0, .ref (G.2.2 i0)), (1, .int v1), (2, .int v2)]) C dX4_startsPiece_9 rfl (by decide) rfl ?_
  refine b_iload_n C dX4_startsPiece_10 rfl 0 rfl ?_
  refine b_iconst (v := (-1)) C dX4_startsPiece_11 (by decide) ?_
  refine b_icmp_eq (tgt := 34) C dX4_startsPiece_12 (by decide) (fun c12 => ?_) (fun c12 => ?_)
  · have hf := iT c12 hf
    refine b_pm [1] (lv' := [(0, .ref (G.2.2 i0))]) rfl ?_
    exact wX4_startsPiece_b34 C  hk0 hf
  · have hf := iF c12 hf
    refine b_iload_n C dX4_startsPiece_15 rfl 0 rfl ?_
    refine b_aload_n C dX4_startsPiece_16 rfl 1 rfl ?_
    refine gfX4_14 C hk0 dX4_startsPiece_17 ?_
    refine b_iload_n C dX4_startsPiece_20 rfl 2 rfl ?_
    refine b_iload_n C dX4_startsPiece_21 rfl 3 rfl ?_
    refine b_iconst (v := 1) C dX4_startsPiece_22 (by decide) ?_
    refine b_isub C dX4_startsPiece_23 ?_
    obtain ⟨r24, c24, hf⟩ := oB hf
    refine b_callVi (K := 2) (As := [.int v1, .int (v2 - 1)]) (res := (r24, x)) C (metX2_get l G _ _ _ _ _ (kd4 C.cl hk0) c24) (kd4 C.cl hk0) (by decide) rfl gkX4_32 ekX4_32 rfl ⟨rfl, rfl⟩ ⟨Nat.le_of_ble_eq_true rfl, Nat.le_of_ble_eq_true rfl⟩ (by simp [Value.category]) ⟨Nat.zero_le _, Nat.zero_le _⟩ rfl dX4_startsPiece_24 ?_
    refine b_icmp_eq (tgt := 34) C dX4_startsPiece_27 (by decide) (fun c27 => ?_) (fun c27 => ?_)
    · have hf := iT c27 hf
      refine b_pm [1] (lv' := [(0, .ref (G.2.2 i0))]) rfl ?_
      exact wX4_startsPiece_b34 C  hk0 hf
    · have hf := iF c27 hf
      refine b_iconst (v := 1) C dX4_startsPiece_30 (by decide) ?_
      refine b_goto (tgt := 35) C dX4_startsPiece_31 (by decide) ?_
      exact b_iretz C (by decide) dX4_startsPiece_35 (congrArg (Option.map (fun q => (q, x))) hf)
end
theorem metX4_startsPiece (l : Launch) (G : gT) (i0 : Nat) (v1 : Int32) (v2 : Int32) (x : xS) (r : Int32) (hk0 : KD G i0 4) (hf : fX4_startsPiece i0 v1 v2 x = some r) : cI l yX4_startsPiece cX4_startsPiece 4 (.boolean) rX4_startsPiece [.ref (G.2.2 i0), .int v1, .int v2] G x (r, x) :=
  b_body (by decide) (Nat.le_of_ble_eq_true rfl) rfl (fun p e s m args below meth c C => wX4_startsPiece_b0 C hk0 hf)
-- X4_pieceEnd
abbrev rX4_pieceEnd : Room := { frames := 1, cells := 0, slots := 0, locals := 22 }
def fX4_pieceEnd_b37 (i0 : Nat) (x : xS) (v3 : Int32) : Option Int32 :=
  some v3
def fX4_pieceEnd_b4 (i0 : Nat) (v1 : Int32) (v2 : Int32) (x : xS) : Nat → Int32 → Option Int32
  | 0, _ => none
  | n + 1, v3 => (if (12 : Int32) ≤ v3 then
  fX4_pieceEnd_b37 i0 x v3
  else
  Option.bind (fX2_get (i0 + 1) v1 v3 x) (fun r16 =>
  Option.bind (fX2_get (i0 + 1) v1 v2 x) (fun r25 =>
  (if r16 = r25 then
  fX4_pieceEnd_b4 i0 v1 v2 x n (v3 + 1)
  else
  fX4_pieceEnd_b37 i0 x v3))))
def fX4_pieceEnd_b0 (i0 : Nat) (v1 : Int32) (v2 : Int32) (x : xS)  : Option Int32 :=
  lt1 (v2 + 1) (fun y3 => 
  fX4_pieceEnd_b4 i0 v1 v2 x FU y3)
def fX4_pieceEnd (i0 : Nat) (v1 : Int32) (v2 : Int32) (x : xS) : Option Int32 := fX4_pieceEnd_b0 i0 v1 v2 x
section
variable {p : Program} {l : Launch} {e : Env} {R : Room} {s : State} {m : MethodId} {args : Array Value} {below : List Frame} {meth : Method} {c : Code} {G : gT}
set_option maxHeartbeats 4000000 in
set_option maxRecDepth 100000 in
theorem wX4_pieceEnd_b37 (C : CT p s m args meth c cX4_pieceEnd 4 RX4 (some (.int)) G (pA G s.heap.size)) {i0 : Nat} {x : xS} {v3 : Int32} {r : Int32} (hk0 : KD G i0 4) (hf : fX4_pieceEnd_b37 i0 x v3 = some r) : WB p l e rX4_pieceEnd s m args below meth c 4 G (pA G s.heap.size) (qI below G (r, x) args s 0 0) 0 0 37 [(0, .ref (G.2.2 i0)), (3, .int v3)] [] x := by
  unfold fX4_pieceEnd_b37 at hf
  refine b_iload_n C dX4_pieceEnd_37 rfl 1 rfl ?_
  exact b_ireti C dX4_pieceEnd_38 (congrArg (Option.map (fun q => (q, x))) hf)
set_option maxHeartbeats 4000000 in
set_option maxRecDepth 100000 in
theorem wX4_pieceEnd_b4 (C : CT p s m args meth c cX4_pieceEnd 4 RX4 (some (.int)) G (pA G s.heap.size)) {i0 : Nat} {v1 : Int32} {v2 : Int32} {x : xS} {r : Int32} (hk0 : KD G i0 4) : ∀ (n : Nat) (v3 : Int32), fX4_pieceEnd_b4 i0 v1 v2 x n v3 = some r → WB p l e rX4_pieceEnd s m args below meth c 4 G (pA G s.heap.size) (qI below G (r, x) args s 0 0) 0 0 4 [(0, .ref (G.2.2 i0)), (1, .int v1), (2, .int v2), (3, .int v3)] [] x := by
  intro n
  induction n with
  | zero =>
    intro v3 hf
    cases hf
  | succ n ih =>
    intro v3 hf
    rw [fX4_pieceEnd_b4] at hf
    refine b_iload_n C dX4_pieceEnd_4 rfl 3 rfl ?_
    refine b_bipush (v := 12) C dX4_pieceEnd_5 (by decide) ?_
    refine b_icmp_ge (tgt := 37) C dX4_pieceEnd_7 (by decide) (fun c7 => ?_) (fun c7 => ?_)
    · have hf := iT c7 hf
      refine b_pm [0, 3] (lv' := [(0, .ref (G.2.2 i0)), (3, .int v3)]) rfl ?_
      exact wX4_pieceEnd_b37 C  hk0 hf
    · have hf := iF c7 hf
      refine b_aload_n C dX4_pieceEnd_10 rfl 0 rfl ?_
      refine gfX4_14 C hk0 dX4_pieceEnd_11 ?_
      refine b_iload_n C dX4_pieceEnd_14 rfl 1 rfl ?_
      refine b_iload_n C dX4_pieceEnd_15 rfl 3 rfl ?_
      obtain ⟨r16, c16, hf⟩ := oB hf
      refine b_callVi (K := 2) (As := [.int v1, .int v3]) (res := (r16, x)) C (metX2_get l G _ _ _ _ _ (kd4 C.cl hk0) c16) (kd4 C.cl hk0) (by decide) rfl gkX4_32 ekX4_32 rfl ⟨rfl, rfl⟩ ⟨Nat.le_of_ble_eq_true rfl, Nat.le_of_ble_eq_true rfl⟩ (by simp [Value.category]) ⟨Nat.zero_le _, Nat.zero_le _⟩ rfl dX4_pieceEnd_16 ?_
      refine b_aload_n C dX4_pieceEnd_19 rfl 0 rfl ?_
      refine gfX4_14 C hk0 dX4_pieceEnd_20 ?_
      refine b_iload_n C dX4_pieceEnd_23 rfl 1 rfl ?_
      refine b_iload_n C dX4_pieceEnd_24 rfl 2 rfl ?_
      obtain ⟨r25, c25, hf⟩ := oB hf
      refine b_callVi (K := 2) (As := [.int v1, .int v2]) (res := (r25, x)) C (metX2_get l G _ _ _ _ _ (kd4 C.cl hk0) c25) (kd4 C.cl hk0) (by decide) rfl gkX4_32 ekX4_32 rfl ⟨rfl, rfl⟩ ⟨Nat.le_of_ble_eq_true rfl, Nat.le_of_ble_eq_true rfl⟩ (by simp [Value.category]) ⟨Nat.zero_le _, Nat.zero_le _⟩ rfl dX4_pieceEnd_25 ?_
      refine b_icmp_ne (tgt := 37) C dX4_pieceEnd_28 (by decide) (fun c28 => ?_) (fun c28 => ?_)
      · have hf := iF c28 hf
        refine b_pm [0, 3] (lv' := [(0, .ref (G.2.2 i0)), (3, .int v3)]) rfl ?_
        exact wX4_pieceEnd_b37 C  hk0 hf
      · have hf := iT c28 hf
        refine b_iinc (q := 3) (v' := (v3 + 1)) (lv' := [(3, .int (v3 + 1)), (0, .ref (G.2.2 i0)), (1, .int v1), (2, .int v2)]) C dX4_pieceEnd_31 rfl rfl (by decide) rfl ?_
        refine b_goto (tgt := 4) C dX4_pieceEnd_34 (by decide) ?_
        refine b_pm [1, 2, 3, 0] (lv' := [(0, .ref (G.2.2 i0)), (1, .int v1), (2, .int v2), (3, .int (v3 + 1))]) rfl ?_
        exact ih _ hf
set_option maxHeartbeats 4000000 in
set_option maxRecDepth 100000 in
theorem wX4_pieceEnd_b0 (C : CT p s m args meth c cX4_pieceEnd 4 RX4 (some (.int)) G (pA G s.heap.size)) {i0 : Nat} {v1 : Int32} {v2 : Int32} {x : xS}  {r : Int32} (hk0 : KD G i0 4) (hf : fX4_pieceEnd_b0 i0 v1 v2 x  = some r) : WB p l e rX4_pieceEnd s m args below meth c 4 G (pA G s.heap.size) (qI below G (r, x) args s 0 0) 0 0 0 [(0, .ref (G.2.2 i0)), (1, .int v1), (2, .int v2)] [] x := by
  unfold fX4_pieceEnd_b0 at hf
  refine b_iload_n C dX4_pieceEnd_0 rfl 2 rfl ?_
  refine b_iconst (v := 1) C dX4_pieceEnd_1 (by decide) ?_
  refine b_iadd C dX4_pieceEnd_2 ?_
  obtain ⟨y3, e3, hf⟩ := lN1 hf
  rw [e3]
  refine b_istore_n (lv' := [(3, .int y3), (0, .ref (G.2.2 i0)), (1, .int v1), (2, .int v2)]) C dX4_pieceEnd_3 rfl (by decide) rfl ?_
  refine b_pm [1, 2, 3, 0] (lv' := [(0, .ref (G.2.2 i0)), (1, .int v1), (2, .int v2), (3, .int y3)]) rfl ?_
  exact wX4_pieceEnd_b4 C  hk0 FU _ hf
end
theorem metX4_pieceEnd (l : Launch) (G : gT) (i0 : Nat) (v1 : Int32) (v2 : Int32) (x : xS) (r : Int32) (hk0 : KD G i0 4) (hf : fX4_pieceEnd i0 v1 v2 x = some r) : cI l yX4_pieceEnd cX4_pieceEnd 4 (.int) rX4_pieceEnd [.ref (G.2.2 i0), .int v1, .int v2] G x (r, x) :=
  b_body (by decide) (Nat.le_of_ble_eq_true rfl) rfl (fun p e s m args below meth c C => wX4_pieceEnd_b0 C hk0 hf)
-- X1_lay
abbrev rX1_lay : Room := { frames := 0, cells := 0, slots := 0, locals := 0 }
def fX1_lay_b2 (i0 : Nat) (v1 : Int32) (v2 : Int32) : Nat → Int32 → xS → Option (Int32 × xS)
  | 0, _, _ => none
  | n + 1, v3, x => (if (Int32.ofNat (ln (i0 + 1))) ≤ v3 then
  some ((-1), x)
  else
  (if v3 < 0 ∨ ln (i0 + 1) ≤ v3.toNatClampNeg then none else
  (if v1 < (x.1 (i0 + 1) v3.toNatClampNeg) then
  fX1_lay_b2 i0 v1 v2 n (v3 + 1) x
  else
  (if v3 < 0 ∨ ln (i0 + 1) ≤ v3.toNatClampNeg then none else
  lt1 (up1 x (i0 + 1) v3.toNatClampNeg v2) (fun x27 =>
  some (v3, x27))))))
def fX1_lay_b0 (i0 : Nat) (v1 : Int32) (v2 : Int32) (x : xS) : Option (Int32 × xS) :=
  fX1_lay_b2 i0 v1 v2 FU 0 x
def fX1_lay (i0 : Nat) (v1 : Int32) (v2 : Int32) (x : xS) : Option (Int32 × xS) := fX1_lay_b0 i0 v1 v2 x
section
variable {p : Program} {l : Launch} {e : Env} {R : Room} {s : State} {m : MethodId} {args : Array Value} {below : List Frame} {meth : Method} {c : Code} {G : gT}
set_option maxHeartbeats 4000000 in
set_option maxRecDepth 100000 in
theorem wX1_lay_b2 (C : CT p s m args meth c cX1_lay 4 RX1 (some (.int)) G (pA G s.heap.size)) {i0 : Nat} {v1 : Int32} {v2 : Int32} {r : (Int32 × xS)} (hk0 : KD G i0 1) : ∀ (n : Nat) (v3 : Int32) (x : xS), fX1_lay_b2 i0 v1 v2 n v3 x = some r → WB p l e rX1_lay s m args below meth c 4 G (pA G s.heap.size) (qI below G r args s 0 0) 0 0 2 [(0, .ref (G.2.2 i0)), (1, .int v1), (2, .int v2), (3, .int v3)] [] x := by
  intro n
  induction n with
  | zero =>
    intro v3 x hf
    cases hf
  | succ n ih =>
    intro v3 x hf
    rw [fX1_lay_b2] at hf
    refine b_iload_n C dX1_lay_2 rfl 3 rfl ?_
    refine b_aload_n C dX1_lay_3 rfl 0 rfl ?_
    refine gfX1_9 C hk0 dX1_lay_4 ?_
    refine b_alen8 C (kd1 C.cl hk0) dX1_lay_7 ?_
    refine b_icmp_ge (tgt := 36) C dX1_lay_8 (by decide) (fun c8 => ?_) (fun c8 => ?_)
    · have hf := iT c8 hf
      refine b_iconst (v := (-1)) C dX1_lay_36 (by decide) ?_
      exact b_ireti C dX1_lay_37 hf
    · have hf := iF c8 hf
      refine b_aload_n C dX1_lay_11 rfl 0 rfl ?_
      refine gfX1_9 C hk0 dX1_lay_12 ?_
      refine b_iload_n C dX1_lay_15 rfl 3 rfl ?_
      obtain ⟨g16, hf⟩ := iN hf
      refine b_iald C (kd1 C.cl hk0) g16 dX1_lay_16 ?_
      refine b_iload_n C dX1_lay_17 rfl 1 rfl ?_
      refine b_icmp_gt (tgt := 30) C dX1_lay_18 (by decide) (fun c18 => ?_) (fun c18 => ?_)
      · have hf := iT c18 hf
        refine b_iinc (q := 3) (v' := (v3 + 1)) (lv' := [(3, .int (v3 + 1)), (0, .ref (G.2.2 i0)), (1, .int v1), (2, .int v2)]) C dX1_lay_30 rfl rfl (by decide) rfl ?_
        refine b_goto (tgt := 2) C dX1_lay_33 (by decide) ?_
        refine b_pm [1, 2, 3, 0] (lv' := [(0, .ref (G.2.2 i0)), (1, .int v1), (2, .int v2), (3, .int (v3 + 1))]) rfl ?_
        exact ih _ _ hf
      · have hf := iF c18 hf
        refine b_aload_n C dX1_lay_21 rfl 0 rfl ?_
        refine gfX1_9 C hk0 dX1_lay_22 ?_
        refine b_iload_n C dX1_lay_25 rfl 3 rfl ?_
        refine b_iload_n C dX1_lay_26 rfl 2 rfl ?_
        obtain ⟨g27, hf⟩ := iN hf
        obtain ⟨x27, e27, hf⟩ := lN1 hf
        refine b_iast C (kd1 C.cl hk0) g27 dX1_lay_27 ?_
        rw [e27]
        refine b_iload_n C dX1_lay_28 rfl 3 rfl ?_
        exact b_ireti C dX1_lay_29 hf
set_option maxHeartbeats 4000000 in
set_option maxRecDepth 100000 in
theorem wX1_lay_b0 (C : CT p s m args meth c cX1_lay 4 RX1 (some (.int)) G (pA G s.heap.size)) {i0 : Nat} {v1 : Int32} {v2 : Int32} {x : xS} {r : (Int32 × xS)} (hk0 : KD G i0 1) (hf : fX1_lay_b0 i0 v1 v2 x = some r) : WB p l e rX1_lay s m args below meth c 4 G (pA G s.heap.size) (qI below G r args s 0 0) 0 0 0 [(0, .ref (G.2.2 i0)), (1, .int v1), (2, .int v2)] [] x := by
  unfold fX1_lay_b0 at hf
  refine b_iconst (v := 0) C dX1_lay_0 (by decide) ?_
  refine b_istore_n (lv' := [(3, .int 0), (0, .ref (G.2.2 i0)), (1, .int v1), (2, .int v2)]) C dX1_lay_1 rfl (by decide) rfl ?_
  refine b_pm [1, 2, 3, 0] (lv' := [(0, .ref (G.2.2 i0)), (1, .int v1), (2, .int v2), (3, .int 0)]) rfl ?_
  exact wX1_lay_b2 C  hk0 FU _ _ hf
end
theorem metX1_lay (l : Launch) (G : gT) (i0 : Nat) (v1 : Int32) (v2 : Int32) (x : xS) (r : (Int32 × xS)) (hk0 : KD G i0 1) (hf : fX1_lay i0 v1 v2 x = some r) : cI l yX1_lay cX1_lay 4 (.int) rX1_lay [.ref (G.2.2 i0), .int v1, .int v2] G x r :=
  b_body (by decide) (Nat.le_of_ble_eq_true rfl) rfl (fun p e s m args below meth c C => wX1_lay_b0 C hk0 hf)
-- X1_bedsFor
abbrev rX1_bedsFor : Room := { frames := 2, cells := 0, slots := 0, locals := 45 }
def fX1_bedsFor_b56 (k12 : Int32 → Int32 → xS → Option (Int32 × xS)) (k21 : Int32 → Int32 → Int32 → xS → Option (Int32 × xS)) (i0 : Nat) (i1 : Nat) (v2 : Int32) (v3 : Int32) (v4 : Int32) (x : xS) : Option (Int32 × xS) :=
  k21 v2 v3 (v4 + 1) x
def fX1_bedsFor_b21 (k12 : Int32 → Int32 → xS → Option (Int32 × xS)) (i0 : Nat) (i1 : Nat) : Nat → Int32 → Int32 → Int32 → xS → Option (Int32 × xS)
  | 0, _, _, _, _ => none
  | n + 1, v2, v3, v4, x => (if (4 : Int32) ≤ v4 then
  k12 v2 (v3 + 1) x
  else
  Option.bind (fX4_startsPiece i1 v4 v3 x) (fun r31 =>
  (if r31 = 0 then
  fX1_bedsFor_b56 k12 (fX1_bedsFor_b21 k12 i0 i1 n) i0 i1 v2 v3 v4 x
  else
  Option.bind (fX4_pieceEnd i1 v4 v3 x) (fun r44 =>
  Option.bind (fX1_lay i0 v3 r44 x) (fun r47 =>
  lt1 (if v2 < (r47.1 + 1) then (r47.1 + 1) else v2) (fun y55 => 
  fX1_bedsFor_b56 k12 (fX1_bedsFor_b21 k12 i0 i1 n) i0 i1 y55 v3 v4 r47.2))))))
def fX1_bedsFor_b12 (i0 : Nat) (i1 : Nat) : Nat → Int32 → Int32 → xS → Option (Int32 × xS)
  | 0, _, _, _ => none
  | n + 1, v2, v3, x => (if (12 : Int32) ≤ v3 then
  some (v2, x)
  else
  fX1_bedsFor_b21 (fX1_bedsFor_b12 i0 i1 n) i0 i1 FU v2 v3 0 x)
def fX1_bedsFor_b0 (i0 : Nat) (i1 : Nat) (x : xS) : Option (Int32 × xS) :=
  Option.bind (fJ7_fill_53178 (i0 + 1) 0 x) (fun r5 =>
  fX1_bedsFor_b12 i0 i1 FU 0 0 r5)
def fX1_bedsFor (i0 : Nat) (i1 : Nat) (x : xS) : Option (Int32 × xS) := fX1_bedsFor_b0 i0 i1 x
section
variable {p : Program} {l : Launch} {e : Env} {R : Room} {s : State} {m : MethodId} {args : Array Value} {below : List Frame} {meth : Method} {c : Code} {G : gT}
set_option maxHeartbeats 4000000 in
set_option maxRecDepth 100000 in
theorem wX1_bedsFor_b56 (C : CT p s m args meth c cX1_bedsFor 5 RX1 (some (.int)) G (pA G s.heap.size)) {k12 : Int32 → Int32 → xS → Option (Int32 × xS)} {k21 : Int32 → Int32 → Int32 → xS → Option (Int32 × xS)} {i0 : Nat} {i1 : Nat} {v2 : Int32} {v3 : Int32} {v4 : Int32} {x : xS} {r : (Int32 × xS)} (h12 : ∀ (v2 : Int32) (v3 : Int32) (x : xS), k12 v2 v3 x = some r → WB p l e rX1_bedsFor s m args below meth c 5 G (pA G s.heap.size) (qI below G r args s 0 0) 0 0 12 [(0, .ref (G.2.2 i0)), (1, .ref (G.2.2 i1)), (2, .int v2), (3, .int v3)] [] x) (h21 : ∀ (v2 : Int32) (v3 : Int32) (v4 : Int32) (x : xS), k21 v2 v3 v4 x = some r → WB p l e rX1_bedsFor s m args below meth c 5 G (pA G s.heap.size) (qI below G r args s 0 0) 0 0 21 [(0, .ref (G.2.2 i0)), (1, .ref (G.2.2 i1)), (2, .int v2), (3, .int v3), (4, .int v4)] [] x) (hk0 : KD G i0 1) (hk1 : KD G i1 4) (hf : fX1_bedsFor_b56 k12 k21 i0 i1 v2 v3 v4 x = some r) : WB p l e rX1_bedsFor s m args below meth c 5 G (pA G s.heap.size) (qI below G r args s 0 0) 0 0 56 [(0, .ref (G.2.2 i0)), (1, .ref (G.2.2 i1)), (2, .int v2), (3, .int v3), (4, .int v4)] [] x := by
  unfold fX1_bedsFor_b56 at hf
  refine b_iinc (q := 4) (v' := (v4 + 1)) (lv' := [(4, .int (v4 + 1)), (0, .ref (G.2.2 i0)), (1, .ref (G.2.2 i1)), (2, .int v2), (3, .int v3)]) C dX1_bedsFor_56 rfl rfl (by decide) rfl ?_
  refine b_goto (tgt := 21) C dX1_bedsFor_59 (by decide) ?_
  refine b_pm [1, 2, 3, 4, 0] (lv' := [(0, .ref (G.2.2 i0)), (1, .ref (G.2.2 i1)), (2, .int v2), (3, .int v3), (4, .int (v4 + 1))]) rfl ?_
  exact h21 _ _ _ _ hf
set_option maxHeartbeats 4000000 in
set_option maxRecDepth 100000 in
theorem wX1_bedsFor_b21 (C : CT p s m args meth c cX1_bedsFor 5 RX1 (some (.int)) G (pA G s.heap.size)) {k12 : Int32 → Int32 → xS → Option (Int32 × xS)} {i0 : Nat} {i1 : Nat} {r : (Int32 × xS)} (h12 : ∀ (v2 : Int32) (v3 : Int32) (x : xS), k12 v2 v3 x = some r → WB p l e rX1_bedsFor s m args below meth c 5 G (pA G s.heap.size) (qI below G r args s 0 0) 0 0 12 [(0, .ref (G.2.2 i0)), (1, .ref (G.2.2 i1)), (2, .int v2), (3, .int v3)] [] x) (hk0 : KD G i0 1) (hk1 : KD G i1 4) : ∀ (n : Nat) (v2 : Int32) (v3 : Int32) (v4 : Int32) (x : xS), fX1_bedsFor_b21 k12 i0 i1 n v2 v3 v4 x = some r → WB p l e rX1_bedsFor s m args below meth c 5 G (pA G s.heap.size) (qI below G r args s 0 0) 0 0 21 [(0, .ref (G.2.2 i0)), (1, .ref (G.2.2 i1)), (2, .int v2), (3, .int v3), (4, .int v4)] [] x := by
  intro n
  induction n with
  | zero =>
    intro v2 v3 v4 x hf
    cases hf
  | succ n ih =>
    intro v2 v3 v4 x hf
    rw [fX1_bedsFor_b21] at hf
    refine b_iload C dX1_bedsFor_21 4 rfl ?_
    refine b_iconst (v := 4) C dX1_bedsFor_23 (by decide) ?_
    refine b_icmp_ge (tgt := 62) C dX1_bedsFor_24 (by decide) (fun c24 => ?_) (fun c24 => ?_)
    · have hf := iT c24 hf
      refine b_iinc (q := 3) (v' := (v3 + 1)) (lv' := [(3, .int (v3 + 1)), (0, .ref (G.2.2 i0)), (1, .ref (G.2.2 i1)), (2, .int v2), (4, .int v4)]) C dX1_bedsFor_62 rfl rfl (by decide) rfl ?_
      refine b_goto (tgt := 12) C dX1_bedsFor_65 (by decide) ?_
      refine b_pm [1, 2, 3, 0] (lv' := [(0, .ref (G.2.2 i0)), (1, .ref (G.2.2 i1)), (2, .int v2), (3, .int (v3 + 1))]) rfl ?_
      exact h12 _ _ _ hf
    · have hf := iF c24 hf
      refine b_aload_n C dX1_bedsFor_27 rfl 1 rfl ?_
      refine b_iload C dX1_bedsFor_28 4 rfl ?_
      refine b_iload_n C dX1_bedsFor_30 rfl 3 rfl ?_
      obtain ⟨r31, c31, hf⟩ := oB hf
      refine b_callVi (K := 4) (As := [.int v4, .int v3]) (res := (r31, x)) C (metX4_startsPiece l G _ _ _ _ _ hk1 c31) hk1 (by decide) rfl gkX1_21 ekX1_21 rfl ⟨rfl, rfl⟩ ⟨Nat.le_of_ble_eq_true rfl, Nat.le_of_ble_eq_true rfl⟩ (by simp [Value.category]) ⟨Nat.zero_le _, Nat.zero_le _⟩ rfl dX1_bedsFor_31 ?_
      refine b_if_eq (tgt := 56) C dX1_bedsFor_34 (by decide) (fun c34 => ?_) (fun c34 => ?_)
      · have hf := iT c34 hf
        exact wX1_bedsFor_b56 C h12 ih hk0 hk1 hf
      · have hf := iF c34 hf
        refine b_iload_n C dX1_bedsFor_37 rfl 2 rfl ?_
        refine b_aload_n C dX1_bedsFor_38 rfl 0 rfl ?_
        refine b_iload_n C dX1_bedsFor_39 rfl 3 rfl ?_
        refine b_aload_n C dX1_bedsFor_40 rfl 1 rfl ?_
        refine b_iload C dX1_bedsFor_41 4 rfl ?_
        refine b_iload_n C dX1_bedsFor_43 rfl 3 rfl ?_
        obtain ⟨r44, c44, hf⟩ := oB hf
        refine b_callVi (K := 4) (As := [.int v4, .int v3]) (res := (r44, x)) C (metX4_pieceEnd l G _ _ _ _ _ hk1 c44) hk1 (by decide) rfl gkX1_27 ekX1_27 rfl ⟨rfl, rfl⟩ ⟨Nat.le_of_ble_eq_true rfl, Nat.le_of_ble_eq_true rfl⟩ (by simp [Value.category]) ⟨Nat.zero_le _, Nat.zero_le _⟩ rfl dX1_bedsFor_44 ?_
        obtain ⟨r47, c47, hf⟩ := oB hf
        refine b_callVi (K := 1) (As := [.int v3, .int r44]) (res := r47) C (metX1_lay l G _ _ _ _ _ hk0 c47) hk0 (by decide) rfl gkX1_31 ekX1_31 rfl ⟨rfl, rfl⟩ ⟨Nat.le_of_ble_eq_true rfl, Nat.le_of_ble_eq_true rfl⟩ (by simp [Value.category]) ⟨Nat.zero_le _, Nat.zero_le _⟩ rfl dX1_bedsFor_47 ?_
        refine b_iconst (v := 1) C dX1_bedsFor_50 (by decide) ?_
        refine b_iadd C dX1_bedsFor_51 ?_
        refine b_mmax C w_31 w_32 w_33 w_34 ⟨by decide, by decide⟩ (by simp [Value.category]) ⟨Nat.zero_le _, Nat.zero_le _⟩ dX1_bedsFor_52 ?_
        obtain ⟨y55, e55, hf⟩ := lN1 hf
        rw [e55]
        refine b_istore_n (lv' := [(2, .int y55), (0, .ref (G.2.2 i0)), (1, .ref (G.2.2 i1)), (3, .int v3), (4, .int v4)]) C dX1_bedsFor_55 rfl (by decide) rfl ?_
        refine b_pm [1, 2, 0, 3, 4] (lv' := [(0, .ref (G.2.2 i0)), (1, .ref (G.2.2 i1)), (2, .int y55), (3, .int v3), (4, .int v4)]) rfl ?_
        exact wX1_bedsFor_b56 C h12 ih hk0 hk1 hf
set_option maxHeartbeats 4000000 in
set_option maxRecDepth 100000 in
theorem wX1_bedsFor_b12 (C : CT p s m args meth c cX1_bedsFor 5 RX1 (some (.int)) G (pA G s.heap.size)) {i0 : Nat} {i1 : Nat} {r : (Int32 × xS)} (hk0 : KD G i0 1) (hk1 : KD G i1 4) : ∀ (n : Nat) (v2 : Int32) (v3 : Int32) (x : xS), fX1_bedsFor_b12 i0 i1 n v2 v3 x = some r → WB p l e rX1_bedsFor s m args below meth c 5 G (pA G s.heap.size) (qI below G r args s 0 0) 0 0 12 [(0, .ref (G.2.2 i0)), (1, .ref (G.2.2 i1)), (2, .int v2), (3, .int v3)] [] x := by
  intro n
  induction n with
  | zero =>
    intro v2 v3 x hf
    cases hf
  | succ n ih =>
    intro v2 v3 x hf
    rw [fX1_bedsFor_b12] at hf
    refine b_iload_n C dX1_bedsFor_12 rfl 3 rfl ?_
    refine b_bipush (v := 12) C dX1_bedsFor_13 (by decide) ?_
    refine b_icmp_ge (tgt := 68) C dX1_bedsFor_15 (by decide) (fun c15 => ?_) (fun c15 => ?_)
    · have hf := iT c15 hf
      refine b_iload_n C dX1_bedsFor_68 rfl 2 rfl ?_
      exact b_ireti C dX1_bedsFor_69 hf
    · have hf := iF c15 hf
      refine b_iconst (v := 0) C dX1_bedsFor_18 (by decide) ?_
      refine b_istore (lv' := [(4, .int 0), (0, .ref (G.2.2 i0)), (1, .ref (G.2.2 i1)), (2, .int v2), (3, .int v3)]) C dX1_bedsFor_19 (by decide) rfl ?_
      refine b_pm [1, 2, 3, 4, 0] (lv' := [(0, .ref (G.2.2 i0)), (1, .ref (G.2.2 i1)), (2, .int v2), (3, .int v3), (4, .int 0)]) rfl ?_
      exact wX1_bedsFor_b21 C ih hk0 hk1 FU _ _ _ _ hf
set_option maxHeartbeats 4000000 in
set_option maxRecDepth 100000 in
theorem wX1_bedsFor_b0 (C : CT p s m args meth c cX1_bedsFor 5 RX1 (some (.int)) G (pA G s.heap.size)) {i0 : Nat} {i1 : Nat} {x : xS} {r : (Int32 × xS)} (hk0 : KD G i0 1) (hk1 : KD G i1 4) (hf : fX1_bedsFor_b0 i0 i1 x = some r) : WB p l e rX1_bedsFor s m args below meth c 5 G (pA G s.heap.size) (qI below G r args s 0 0) 0 0 0 [(0, .ref (G.2.2 i0)), (1, .ref (G.2.2 i1))] [] x := by
  unfold fX1_bedsFor_b0 at hf
  refine b_aload_n C dX1_bedsFor_0 rfl 0 rfl ?_
  refine gfX1_9 C hk0 dX1_bedsFor_1 ?_
  refine b_iconst (v := 0) C dX1_bedsFor_4 (by decide) ?_
  obtain ⟨r5, c5, hf⟩ := oB hf
  refine b_callSv (As := [.ref (G.2.2 (i0 + 1)), .int 0]) (res := r5) C (metJ7_fill_53178 l G _ _ _ _ (kd1 C.cl hk0) c5) gkX1_15 ekX1_15 rfl ⟨rfl, rfl⟩ ⟨Nat.le_of_ble_eq_true rfl, Nat.le_of_ble_eq_true rfl⟩ (by simp [Value.category]) ⟨Nat.zero_le _, Nat.zero_le _⟩ rfl dX1_bedsFor_5 ?_
  refine b_iconst (v := 0) C dX1_bedsFor_8 (by decide) ?_
  refine b_istore_n (lv' := [(2, .int 0), (0, .ref (G.2.2 i0)), (1, .ref (G.2.2 i1))]) C dX1_bedsFor_9 rfl (by decide) rfl ?_
  refine b_iconst (v := 0) C dX1_bedsFor_10 (by decide) ?_
  refine b_istore_n (lv' := [(3, .int 0), (2, .int 0), (0, .ref (G.2.2 i0)), (1, .ref (G.2.2 i1))]) C dX1_bedsFor_11 rfl (by decide) rfl ?_
  refine b_pm [2, 3, 1, 0] (lv' := [(0, .ref (G.2.2 i0)), (1, .ref (G.2.2 i1)), (2, .int 0), (3, .int 0)]) rfl ?_
  exact wX1_bedsFor_b12 C  hk0 hk1 FU _ _ _ hf
end
theorem metX1_bedsFor (l : Launch) (G : gT) (i0 : Nat) (i1 : Nat) (x : xS) (r : (Int32 × xS)) (hk0 : KD G i0 1) (hk1 : KD G i1 4) (hf : fX1_bedsFor i0 i1 x = some r) : cI l yX1_bedsFor cX1_bedsFor 5 (.int) rX1_bedsFor [.ref (G.2.2 i0), .ref (G.2.2 i1)] G x r :=
  b_body (by decide) (Nat.le_of_ble_eq_true rfl) rfl (fun p e s m args below meth c C => wX1_bedsFor_b0 C hk0 hk1 hf)
-- X2_copyFrom
abbrev rX2_copyFrom : Room := { frames := 1, cells := 0, slots := 0, locals := 40 }
def fX2_copyFrom_b0 (i0 : Nat) (i1 : Nat) (x : xS) : Option xS :=
  (if (Int32.ofNat (ln (i1 + 1))) = (Int32.ofNat (ln (i0 + 1))) then
  (if (0 : Int32) < 0 ∨ (0 : Int32) < 0 ∨ (Int32.ofNat (ln (i0 + 1))) < 0 ∨ ln (i1 + 1) < (0 : Int32).toNatClampNeg + (Int32.ofNat (ln (i0 + 1))).toNatClampNeg ∨ ln (i0 + 1) < (0 : Int32).toNatClampNeg + (Int32.ofNat (ln (i0 + 1))).toNatClampNeg then none else
  lt1 (upR x (i0 + 1) (va_cpy (x.1 (i1 + 1)) (x.1 (i0 + 1)) (0 : Int32).toNatClampNeg (0 : Int32).toNatClampNeg (Int32.ofNat (ln (i0 + 1))).toNatClampNeg)) (fun x28 =>
  some x28))
  else
  some x)
def fX2_copyFrom (i0 : Nat) (i1 : Nat) (x : xS) : Option xS := fX2_copyFrom_b0 i0 i1 x
section
variable {p : Program} {l : Launch} {e : Env} {R : Room} {s : State} {m : MethodId} {args : Array Value} {below : List Frame} {meth : Method} {c : Code} {G : gT}
set_option maxHeartbeats 4000000 in
set_option maxRecDepth 100000 in
theorem wX2_copyFrom_b0 (C : CT p s m args meth c cX2_copyFrom 2 RX2 none G (pA G s.heap.size)) {i0 : Nat} {i1 : Nat} {x : xS} {r : xS} (hk0 : KD G i0 2) (hk1 : KD G i1 2) (hf : fX2_copyFrom_b0 i0 i1 x = some r) : WB p l e rX2_copyFrom s m args below meth c 2 G (pA G s.heap.size) (qV below G r args s 0 0) 0 0 0 [(0, .ref (G.2.2 i0)), (1, .ref (G.2.2 i1))] [] x := by
  unfold fX2_copyFrom_b0 at hf
  refine b_aload_n C dX2_copyFrom_0 rfl 1 rfl ?_
  refine gfX2_24 C hk1 dX2_copyFrom_1 ?_
  refine b_alen8 C (kd2 C.cl hk1) dX2_copyFrom_4 ?_
  refine b_aload_n C dX2_copyFrom_5 rfl 0 rfl ?_
  refine gfX2_24 C hk0 dX2_copyFrom_6 ?_
  refine b_alen8 C (kd2 C.cl hk0) dX2_copyFrom_9 ?_
  refine b_icmp_ne (tgt := 31) C dX2_copyFrom_10 (by decide) (fun c10 => ?_) (fun c10 => ?_)
  · have hf := iF c10 hf
    exact b_vret C dX2_copyFrom_31 hf
  · have hf := iT c10 hf
    refine b_aload_n C dX2_copyFrom_13 rfl 1 rfl ?_
    refine gfX2_24 C hk1 dX2_copyFrom_14 ?_
    refine b_iconst (v := 0) C dX2_copyFrom_17 (by decide) ?_
    refine b_aload_n C dX2_copyFrom_18 rfl 0 rfl ?_
    refine gfX2_24 C hk0 dX2_copyFrom_19 ?_
    refine b_iconst (v := 0) C dX2_copyFrom_22 (by decide) ?_
    refine b_aload_n C dX2_copyFrom_23 rfl 0 rfl ?_
    refine gfX2_24 C hk0 dX2_copyFrom_24 ?_
    refine b_alen8 C (kd2 C.cl hk0) dX2_copyFrom_27 ?_
    obtain ⟨g28, hf⟩ := iN hf
    obtain ⟨x28, e28, hf⟩ := lN1 hf
    refine b_copy C w_35 w_36 w_37 w_38 (kd2 C.cl hk1) (kd2 C.cl hk0) g28 ⟨by decide, by decide⟩ (by simp [Value.category]) dX2_copyFrom_28 ?_
    rw [e28]
    exact b_vret C dX2_copyFrom_31 hf
end
theorem metX2_copyFrom (l : Launch) (G : gT) (i0 : Nat) (i1 : Nat) (x : xS) (r : xS) (hk0 : KD G i0 2) (hk1 : KD G i1 2) (hf : fX2_copyFrom i0 i1 x = some r) : cV l yX2_copyFrom cX2_copyFrom 2 rX2_copyFrom [.ref (G.2.2 i0), .ref (G.2.2 i1)] G x r :=
  b_body (by decide) (Nat.le_of_ble_eq_true rfl) rfl (fun p e s m args below meth c C => wX2_copyFrom_b0 C hk0 hk1 hf)
-- X2_fill
abbrev rX2_fill : Room := { frames := 1, cells := 0, slots := 0, locals := 23 }
def fX2_fill_b0 (i0 : Nat) (v1 : Int32) (x : xS) : Option xS :=
  Option.bind (fJ7_fill_53178 (i0 + 1) v1 x) (fun r5 =>
  some r5)
def fX2_fill (i0 : Nat) (v1 : Int32) (x : xS) : Option xS := fX2_fill_b0 i0 v1 x
section
variable {p : Program} {l : Launch} {e : Env} {R : Room} {s : State} {m : MethodId} {args : Array Value} {below : List Frame} {meth : Method} {c : Code} {G : gT}
set_option maxHeartbeats 4000000 in
set_option maxRecDepth 100000 in
theorem wX2_fill_b0 (C : CT p s m args meth c cX2_fill 2 RX2 none G (pA G s.heap.size)) {i0 : Nat} {v1 : Int32} {x : xS} {r : xS} (hk0 : KD G i0 2) (hf : fX2_fill_b0 i0 v1 x = some r) : WB p l e rX2_fill s m args below meth c 2 G (pA G s.heap.size) (qV below G r args s 0 0) 0 0 0 [(0, .ref (G.2.2 i0)), (1, .int v1)] [] x := by
  unfold fX2_fill_b0 at hf
  refine b_aload_n C dX2_fill_0 rfl 0 rfl ?_
  refine gfX2_24 C hk0 dX2_fill_1 ?_
  refine b_iload_n C dX2_fill_4 rfl 1 rfl ?_
  obtain ⟨r5, c5, hf⟩ := oB hf
  refine b_callSv (As := [.ref (G.2.2 (i0 + 1)), .int v1]) (res := r5) C (metJ7_fill_53178 l G _ _ _ _ (kd2 C.cl hk0) c5) gkX2_35 ekX2_35 rfl ⟨rfl, rfl⟩ ⟨Nat.le_of_ble_eq_true rfl, Nat.le_of_ble_eq_true rfl⟩ (by simp [Value.category]) ⟨Nat.zero_le _, Nat.zero_le _⟩ rfl dX2_fill_5 ?_
  exact b_vret C dX2_fill_8 hf
end
theorem metX2_fill (l : Launch) (G : gT) (i0 : Nat) (v1 : Int32) (x : xS) (r : xS) (hk0 : KD G i0 2) (hf : fX2_fill i0 v1 x = some r) : cV l yX2_fill cX2_fill 2 rX2_fill [.ref (G.2.2 i0), .int v1] G x r :=
  b_body (by decide) (Nat.le_of_ble_eq_true rfl) rfl (fun p e s m args below meth c C => wX2_fill_b0 C hk0 hf)
-- X2_put
abbrev rX2_put : Room := { frames := 0, cells := 0, slots := 0, locals := 0 }
def fX2_put_b0 (i0 : Nat) (v1 : Int32) (v2 : Int32) (v3 : Int32) (x : xS) : Option xS :=
  (if v1 < 0 then
  some x
  else
  (if (gR i0) ≤ v1 then
  some x
  else
  (if v2 < 0 then
  some x
  else
  (if v2 < (gC i0) then
  (if ((v1 * (gC i0)) + v2) < 0 ∨ ln (i0 + 1) ≤ ((v1 * (gC i0)) + v2).toNatClampNeg then none else
  lt1 (up1 x (i0 + 1) ((v1 * (gC i0)) + v2).toNatClampNeg v3) (fun x38 =>
  some x38))
  else
  some x))))
def fX2_put (i0 : Nat) (v1 : Int32) (v2 : Int32) (v3 : Int32) (x : xS) : Option xS := fX2_put_b0 i0 v1 v2 v3 x
section
variable {p : Program} {l : Launch} {e : Env} {R : Room} {s : State} {m : MethodId} {args : Array Value} {below : List Frame} {meth : Method} {c : Code} {G : gT}
set_option maxHeartbeats 4000000 in
set_option maxRecDepth 100000 in
theorem wX2_put_b0 (C : CT p s m args meth c cX2_put 4 RX2 none G (pA G s.heap.size)) {i0 : Nat} {v1 : Int32} {v2 : Int32} {v3 : Int32} {x : xS} {r : xS} (hk0 : KD G i0 2) (hf : fX2_put_b0 i0 v1 v2 v3 x = some r) : WB p l e rX2_put s m args below meth c 4 G (pA G s.heap.size) (qV below G r args s 0 0) 0 0 0 [(0, .ref (G.2.2 i0)), (1, .int v1), (2, .int v2), (3, .int v3)] [] x := by
  unfold fX2_put_b0 at hf
  refine b_iload_n C dX2_put_0 rfl 1 rfl ?_
  refine b_if_lt (tgt := 24) C dX2_put_1 (by decide) (fun c1 => ?_) (fun c1 => ?_)
  · have hf := iT c1 hf
    exact b_vret C dX2_put_24 hf
  · have hf := iF c1 hf
    refine b_iload_n C dX2_put_4 rfl 1 rfl ?_
    refine b_aload_n C dX2_put_5 rfl 0 rfl ?_
    refine gfX2_15 C hk0 dX2_put_6 ?_
    refine b_icmp_ge (tgt := 24) C dX2_put_9 (by decide) (fun c9 => ?_) (fun c9 => ?_)
    · have hf := iT c9 hf
      exact b_vret C dX2_put_24 hf
    · have hf := iF c9 hf
      refine b_iload_n C dX2_put_12 rfl 2 rfl ?_
      refine b_if_lt (tgt := 24) C dX2_put_13 (by decide) (fun c13 => ?_) (fun c13 => ?_)
      · have hf := iT c13 hf
        exact b_vret C dX2_put_24 hf
      · have hf := iF c13 hf
        refine b_iload_n C dX2_put_16 rfl 2 rfl ?_
        refine b_aload_n C dX2_put_17 rfl 0 rfl ?_
        refine gfX2_21 C hk0 dX2_put_18 ?_
        refine b_icmp_lt (tgt := 25) C dX2_put_21 (by decide) (fun c21 => ?_) (fun c21 => ?_)
        · have hf := iT c21 hf
          refine b_aload_n C dX2_put_25 rfl 0 rfl ?_
          refine gfX2_24 C hk0 dX2_put_26 ?_
          refine b_iload_n C dX2_put_29 rfl 1 rfl ?_
          refine b_aload_n C dX2_put_30 rfl 0 rfl ?_
          refine gfX2_21 C hk0 dX2_put_31 ?_
          refine b_imul C dX2_put_34 ?_
          refine b_iload_n C dX2_put_35 rfl 2 rfl ?_
          refine b_iadd C dX2_put_36 ?_
          refine b_iload_n C dX2_put_37 rfl 3 rfl ?_
          obtain ⟨g38, hf⟩ := iN hf
          obtain ⟨x38, e38, hf⟩ := lN1 hf
          refine b_iast C (kd2 C.cl hk0) g38 dX2_put_38 ?_
          rw [e38]
          exact b_vret C dX2_put_39 hf
        · have hf := iF c21 hf
          exact b_vret C dX2_put_24 hf
end
theorem metX2_put (l : Launch) (G : gT) (i0 : Nat) (v1 : Int32) (v2 : Int32) (v3 : Int32) (x : xS) (r : xS) (hk0 : KD G i0 2) (hf : fX2_put i0 v1 v2 v3 x = some r) : cV l yX2_put cX2_put 4 rX2_put [.ref (G.2.2 i0), .int v1, .int v2, .int v3] G x r :=
  b_body (by decide) (Nat.le_of_ble_eq_true rfl) rfl (fun p e s m args below meth c C => wX2_put_b0 C hk0 hf)
-- X2_raise
abbrev rX2_raise : Room := { frames := 1, cells := 0, slots := 0, locals := 23 }
def fX2_raise_b0 (i0 : Nat) (v1 : Int32) (v2 : Int32) (v3 : Int32) (x : xS) : Option xS :=
  Option.bind (fX2_get i0 v1 v2 x) (fun r6 =>
  Option.bind (fX2_put i0 v1 v2 (r6 + v3) x) (fun r11 =>
  some r11))
def fX2_raise (i0 : Nat) (v1 : Int32) (v2 : Int32) (v3 : Int32) (x : xS) : Option xS := fX2_raise_b0 i0 v1 v2 v3 x
section
variable {p : Program} {l : Launch} {e : Env} {R : Room} {s : State} {m : MethodId} {args : Array Value} {below : List Frame} {meth : Method} {c : Code} {G : gT}
set_option maxHeartbeats 4000000 in
set_option maxRecDepth 100000 in
theorem wX2_raise_b0 (C : CT p s m args meth c cX2_raise 4 RX2 none G (pA G s.heap.size)) {i0 : Nat} {v1 : Int32} {v2 : Int32} {v3 : Int32} {x : xS} {r : xS} (hk0 : KD G i0 2) (hf : fX2_raise_b0 i0 v1 v2 v3 x = some r) : WB p l e rX2_raise s m args below meth c 4 G (pA G s.heap.size) (qV below G r args s 0 0) 0 0 0 [(0, .ref (G.2.2 i0)), (1, .int v1), (2, .int v2), (3, .int v3)] [] x := by
  unfold fX2_raise_b0 at hf
  refine b_aload_n C dX2_raise_0 rfl 0 rfl ?_
  refine b_iload_n C dX2_raise_1 rfl 1 rfl ?_
  refine b_iload_n C dX2_raise_2 rfl 2 rfl ?_
  refine b_aload_n C dX2_raise_3 rfl 0 rfl ?_
  refine b_iload_n C dX2_raise_4 rfl 1 rfl ?_
  refine b_iload_n C dX2_raise_5 rfl 2 rfl ?_
  obtain ⟨r6, c6, hf⟩ := oB hf
  refine b_callVi (K := 2) (As := [.int v1, .int v2]) (res := (r6, x)) C (metX2_get l G _ _ _ _ _ hk0 c6) hk0 (by decide) rfl gkX2_28 ekX2_28 rfl ⟨rfl, rfl⟩ ⟨Nat.le_of_ble_eq_true rfl, Nat.le_of_ble_eq_true rfl⟩ (by simp [Value.category]) ⟨Nat.zero_le _, Nat.zero_le _⟩ rfl dX2_raise_6 ?_
  refine b_iload_n C dX2_raise_9 rfl 3 rfl ?_
  refine b_iadd C dX2_raise_10 ?_
  obtain ⟨r11, c11, hf⟩ := oB hf
  refine b_callVv (K := 2) (As := [.int v1, .int v2, .int (r6 + v3)]) (res := r11) C (metX2_put l G _ _ _ _ _ _ hk0 c11) hk0 (by decide) rfl gkX2_31 ekX2_31 rfl ⟨rfl, rfl⟩ ⟨Nat.le_of_ble_eq_true rfl, Nat.le_of_ble_eq_true rfl⟩ (by simp [Value.category]) ⟨Nat.zero_le _, Nat.zero_le _⟩ rfl dX2_raise_11 ?_
  exact b_vret C dX2_raise_14 hf
end
theorem metX2_raise (l : Launch) (G : gT) (i0 : Nat) (v1 : Int32) (v2 : Int32) (v3 : Int32) (x : xS) (r : xS) (hk0 : KD G i0 2) (hf : fX2_raise i0 v1 v2 v3 x = some r) : cV l yX2_raise cX2_raise 4 rX2_raise [.ref (G.2.2 i0), .int v1, .int v2, .int v3] G x r :=
  b_body (by decide) (Nat.le_of_ble_eq_true rfl) rfl (fun p e s m args below meth c C => wX2_raise_b0 C hk0 hf)
-- X4_lentBeds
abbrev rX4_lentBeds : Room := { frames := 1, cells := 0, slots := 0, locals := 22 }
def fX4_lentBeds_b28 (k4 : Int32 → Int32 → Option Int32) (i0 : Nat) (v1 : Int32) (x : xS) (v3 : Int32) (s0 : Int32) (s1 : Int32) : Option Int32 :=
  lt1 (s0 + s1) (fun y29 => 
  k4 y29 (v3 + 1))
def fX4_lentBeds_b4 (i0 : Nat) (v1 : Int32) (x : xS) : Nat → Int32 → Int32 → Option Int32
  | 0, _, _ => none
  | n + 1, v2, v3 => (if (4 : Int32) ≤ v3 then
  some v2
  else
  Option.bind (fX2_get (i0 + 1) v3 v1 x) (fun r16 =>
  (if r16 = (-1) then
  fX4_lentBeds_b28 (fX4_lentBeds_b4 i0 v1 x n) i0 v1 x v3 v2 0
  else
  fX4_lentBeds_b28 (fX4_lentBeds_b4 i0 v1 x n) i0 v1 x v3 v2 1)))
def fX4_lentBeds_b0 (i0 : Nat) (v1 : Int32) (x : xS)  : Option Int32 :=
  fX4_lentBeds_b4 i0 v1 x FU 0 0
def fX4_lentBeds (i0 : Nat) (v1 : Int32) (x : xS) : Option Int32 := fX4_lentBeds_b0 i0 v1 x
section
variable {p : Program} {l : Launch} {e : Env} {R : Room} {s : State} {m : MethodId} {args : Array Value} {below : List Frame} {meth : Method} {c : Code} {G : gT}
set_option maxHeartbeats 4000000 in
set_option maxRecDepth 100000 in
theorem wX4_lentBeds_b28 (C : CT p s m args meth c cX4_lentBeds 4 RX4 (some (.int)) G (pA G s.heap.size)) {k4 : Int32 → Int32 → Option Int32} {i0 : Nat} {v1 : Int32} {x : xS} {v3 : Int32} {s0 : Int32} {s1 : Int32} {r : Int32} (h4 : ∀ (v2 : Int32) (v3 : Int32), k4 v2 v3 = some r → WB p l e rX4_lentBeds s m args below meth c 4 G (pA G s.heap.size) (qI below G (r, x) args s 0 0) 0 0 4 [(0, .ref (G.2.2 i0)), (1, .int v1), (2, .int v2), (3, .int v3)] [] x) (hk0 : KD G i0 4) (hf : fX4_lentBeds_b28 k4 i0 v1 x v3 s0 s1 = some r) : WB p l e rX4_lentBeds s m args below meth c 4 G (pA G s.heap.size) (qI below G (r, x) args s 0 0) 0 0 28 [(0, .ref (G.2.2 i0)), (1, .int v1), (3, .int v3)] [.int s1, .int s0] x := by
  unfold fX4_lentBeds_b28 at hf
  refine b_iadd C dX4_lentBeds_28 ?_
  obtain ⟨y29, e29, hf⟩ := lN1 hf
  rw [e29]
  refine b_istore_n (lv' := [(2, .int y29), (0, .ref (G.2.2 i0)), (1, .int v1), (3, .int v3)]) C dX4_lentBeds_29 rfl (by decide) rfl ?_
  refine b_iinc (q := 3) (v' := (v3 + 1)) (lv' := [(3, .int (v3 + 1)), (2, .int y29), (0, .ref (G.2.2 i0)), (1, .int v1)]) C dX4_lentBeds_30 rfl rfl (by decide) rfl ?_
  refine b_goto (tgt := 4) C dX4_lentBeds_33 (by decide) ?_
  refine b_pm [2, 3, 1, 0] (lv' := [(0, .ref (G.2.2 i0)), (1, .int v1), (2, .int y29), (3, .int (v3 + 1))]) rfl ?_
  exact h4 _ _ hf
set_option maxHeartbeats 4000000 in
set_option maxRecDepth 100000 in
theorem wX4_lentBeds_b4 (C : CT p s m args meth c cX4_lentBeds 4 RX4 (some (.int)) G (pA G s.heap.size)) {i0 : Nat} {v1 : Int32} {x : xS} {r : Int32} (hk0 : KD G i0 4) : ∀ (n : Nat) (v2 : Int32) (v3 : Int32), fX4_lentBeds_b4 i0 v1 x n v2 v3 = some r → WB p l e rX4_lentBeds s m args below meth c 4 G (pA G s.heap.size) (qI below G (r, x) args s 0 0) 0 0 4 [(0, .ref (G.2.2 i0)), (1, .int v1), (2, .int v2), (3, .int v3)] [] x := by
  intro n
  induction n with
  | zero =>
    intro v2 v3 hf
    cases hf
  | succ n ih =>
    intro v2 v3 hf
    rw [fX4_lentBeds_b4] at hf
    refine b_iload_n C dX4_lentBeds_4 rfl 3 rfl ?_
    refine b_iconst (v := 4) C dX4_lentBeds_5 (by decide) ?_
    refine b_icmp_ge (tgt := 36) C dX4_lentBeds_6 (by decide) (fun c6 => ?_) (fun c6 => ?_)
    · have hf := iT c6 hf
      refine b_iload_n C dX4_lentBeds_36 rfl 2 rfl ?_
      exact b_ireti C dX4_lentBeds_37 (congrArg (Option.map (fun q => (q, x))) hf)
    · have hf := iF c6 hf
      refine b_iload_n C dX4_lentBeds_9 rfl 2 rfl ?_
      refine b_aload_n C dX4_lentBeds_10 rfl 0 rfl ?_
      refine gfX4_14 C hk0 dX4_lentBeds_11 ?_
      refine b_iload_n C dX4_lentBeds_14 rfl 3 rfl ?_
      refine b_iload_n C dX4_lentBeds_15 rfl 1 rfl ?_
      obtain ⟨r16, c16, hf⟩ := oB hf
      refine b_callVi (K := 2) (As := [.int v3, .int v1]) (res := (r16, x)) C (metX2_get l G _ _ _ _ _ (kd4 C.cl hk0) c16) (kd4 C.cl hk0) (by decide) rfl gkX4_32 ekX4_32 rfl ⟨rfl, rfl⟩ ⟨Nat.le_of_ble_eq_true rfl, Nat.le_of_ble_eq_true rfl⟩ (by simp [Value.category]) ⟨Nat.zero_le _, Nat.zero_le _⟩ rfl dX4_lentBeds_16 ?_
      refine b_iconst (v := (-1)) C dX4_lentBeds_19 (by decide) ?_
      refine b_icmp_eq (tgt := 27) C dX4_lentBeds_20 (by decide) (fun c20 => ?_) (fun c20 => ?_)
      · have hf := iT c20 hf
        refine b_iconst (v := 0) C dX4_lentBeds_27 (by decide) ?_
        refine b_pm [0, 1, 3] (lv' := [(0, .ref (G.2.2 i0)), (1, .int v1), (3, .int v3)]) rfl ?_
        exact wX4_lentBeds_b28 C ih hk0 hf
      · have hf := iF c20 hf
        refine b_iconst (v := 1) C dX4_lentBeds_23 (by decide) ?_
        refine b_goto (tgt := 28) C dX4_lentBeds_24 (by decide) ?_
        refine b_pm [0, 1, 3] (lv' := [(0, .ref (G.2.2 i0)), (1, .int v1), (3, .int v3)]) rfl ?_
        exact wX4_lentBeds_b28 C ih hk0 hf
set_option maxHeartbeats 4000000 in
set_option maxRecDepth 100000 in
theorem wX4_lentBeds_b0 (C : CT p s m args meth c cX4_lentBeds 4 RX4 (some (.int)) G (pA G s.heap.size)) {i0 : Nat} {v1 : Int32} {x : xS}  {r : Int32} (hk0 : KD G i0 4) (hf : fX4_lentBeds_b0 i0 v1 x  = some r) : WB p l e rX4_lentBeds s m args below meth c 4 G (pA G s.heap.size) (qI below G (r, x) args s 0 0) 0 0 0 [(0, .ref (G.2.2 i0)), (1, .int v1)] [] x := by
  unfold fX4_lentBeds_b0 at hf
  refine b_iconst (v := 0) C dX4_lentBeds_0 (by decide) ?_
  refine b_istore_n (lv' := [(2, .int 0), (0, .ref (G.2.2 i0)), (1, .int v1)]) C dX4_lentBeds_1 rfl (by decide) rfl ?_
  refine b_iconst (v := 0) C dX4_lentBeds_2 (by decide) ?_
  refine b_istore_n (lv' := [(3, .int 0), (2, .int 0), (0, .ref (G.2.2 i0)), (1, .int v1)]) C dX4_lentBeds_3 rfl (by decide) rfl ?_
  refine b_pm [2, 3, 1, 0] (lv' := [(0, .ref (G.2.2 i0)), (1, .int v1), (2, .int 0), (3, .int 0)]) rfl ?_
  exact wX4_lentBeds_b4 C  hk0 FU _ _ hf
end
theorem metX4_lentBeds (l : Launch) (G : gT) (i0 : Nat) (v1 : Int32) (x : xS) (r : Int32) (hk0 : KD G i0 4) (hf : fX4_lentBeds i0 v1 x = some r) : cI l yX4_lentBeds cX4_lentBeds 4 (.int) rX4_lentBeds [.ref (G.2.2 i0), .int v1] G x (r, x) :=
  b_body (by decide) (Nat.le_of_ble_eq_true rfl) rfl (fun p e s m args below meth c C => wX4_lentBeds_b0 C hk0 hf)
-- X4_lentHours
abbrev rX4_lentHours : Room := { frames := 2, cells := 0, slots := 0, locals := 45 }
def fX4_lentHours_b4 (i0 : Nat) (x : xS) : Nat → Int32 → Int32 → Option Int32
  | 0, _, _ => none
  | n + 1, v1, v2 => (if (12 : Int32) ≤ v2 then
  some v1
  else
  Option.bind (fX4_lentBeds i0 v2 x) (fun r13 =>
  lt1 (v1 + r13) (fun y17 => 
  fX4_lentHours_b4 i0 x n y17 (v2 + 1))))
def fX4_lentHours_b0 (i0 : Nat) (x : xS)  : Option Int32 :=
  fX4_lentHours_b4 i0 x FU 0 0
def fX4_lentHours (i0 : Nat) (x : xS) : Option Int32 := fX4_lentHours_b0 i0 x
section
variable {p : Program} {l : Launch} {e : Env} {R : Room} {s : State} {m : MethodId} {args : Array Value} {below : List Frame} {meth : Method} {c : Code} {G : gT}
set_option maxHeartbeats 4000000 in
set_option maxRecDepth 100000 in
theorem wX4_lentHours_b4 (C : CT p s m args meth c cX4_lentHours 3 RX4 (some (.int)) G (pA G s.heap.size)) {i0 : Nat} {x : xS} {r : Int32} (hk0 : KD G i0 4) : ∀ (n : Nat) (v1 : Int32) (v2 : Int32), fX4_lentHours_b4 i0 x n v1 v2 = some r → WB p l e rX4_lentHours s m args below meth c 3 G (pA G s.heap.size) (qI below G (r, x) args s 0 0) 0 0 4 [(0, .ref (G.2.2 i0)), (1, .int v1), (2, .int v2)] [] x := by
  intro n
  induction n with
  | zero =>
    intro v1 v2 hf
    cases hf
  | succ n ih =>
    intro v1 v2 hf
    rw [fX4_lentHours_b4] at hf
    refine b_iload_n C dX4_lentHours_4 rfl 2 rfl ?_
    refine b_bipush (v := 12) C dX4_lentHours_5 (by decide) ?_
    refine b_icmp_ge (tgt := 24) C dX4_lentHours_7 (by decide) (fun c7 => ?_) (fun c7 => ?_)
    · have hf := iT c7 hf
      refine b_iload_n C dX4_lentHours_24 rfl 1 rfl ?_
      exact b_ireti C dX4_lentHours_25 (congrArg (Option.map (fun q => (q, x))) hf)
    · have hf := iF c7 hf
      refine b_iload_n C dX4_lentHours_10 rfl 1 rfl ?_
      refine b_aload_n C dX4_lentHours_11 rfl 0 rfl ?_
      refine b_iload_n C dX4_lentHours_12 rfl 2 rfl ?_
      obtain ⟨r13, c13, hf⟩ := oB hf
      refine b_callVi (K := 4) (As := [.int v2]) (res := (r13, x)) C (metX4_lentBeds l G _ _ _ _ hk0 c13) hk0 (by decide) rfl gkX4_40 ekX4_40 rfl ⟨rfl, rfl⟩ ⟨Nat.le_of_ble_eq_true rfl, Nat.le_of_ble_eq_true rfl⟩ (by simp [Value.category]) ⟨Nat.zero_le _, Nat.zero_le _⟩ rfl dX4_lentHours_13 ?_
      refine b_iadd C dX4_lentHours_16 ?_
      obtain ⟨y17, e17, hf⟩ := lN1 hf
      rw [e17]
      refine b_istore_n (lv' := [(1, .int y17), (0, .ref (G.2.2 i0)), (2, .int v2)]) C dX4_lentHours_17 rfl (by decide) rfl ?_
      refine b_iinc (q := 2) (v' := (v2 + 1)) (lv' := [(2, .int (v2 + 1)), (1, .int y17), (0, .ref (G.2.2 i0))]) C dX4_lentHours_18 rfl rfl (by decide) rfl ?_
      refine b_goto (tgt := 4) C dX4_lentHours_21 (by decide) ?_
      refine b_pm [2, 1, 0] (lv' := [(0, .ref (G.2.2 i0)), (1, .int y17), (2, .int (v2 + 1))]) rfl ?_
      exact ih _ _ hf
set_option maxHeartbeats 4000000 in
set_option maxRecDepth 100000 in
theorem wX4_lentHours_b0 (C : CT p s m args meth c cX4_lentHours 3 RX4 (some (.int)) G (pA G s.heap.size)) {i0 : Nat} {x : xS}  {r : Int32} (hk0 : KD G i0 4) (hf : fX4_lentHours_b0 i0 x  = some r) : WB p l e rX4_lentHours s m args below meth c 3 G (pA G s.heap.size) (qI below G (r, x) args s 0 0) 0 0 0 [(0, .ref (G.2.2 i0))] [] x := by
  unfold fX4_lentHours_b0 at hf
  refine b_iconst (v := 0) C dX4_lentHours_0 (by decide) ?_
  refine b_istore_n (lv' := [(1, .int 0), (0, .ref (G.2.2 i0))]) C dX4_lentHours_1 rfl (by decide) rfl ?_
  refine b_iconst (v := 0) C dX4_lentHours_2 (by decide) ?_
  refine b_istore_n (lv' := [(2, .int 0), (1, .int 0), (0, .ref (G.2.2 i0))]) C dX4_lentHours_3 rfl (by decide) rfl ?_
  refine b_pm [2, 1, 0] (lv' := [(0, .ref (G.2.2 i0)), (1, .int 0), (2, .int 0)]) rfl ?_
  exact wX4_lentHours_b4 C  hk0 FU _ _ hf
end
theorem metX4_lentHours (l : Launch) (G : gT) (i0 : Nat) (x : xS) (r : Int32) (hk0 : KD G i0 4) (hf : fX4_lentHours i0 x = some r) : cI l yX4_lentHours cX4_lentHours 3 (.int) rX4_lentHours [.ref (G.2.2 i0)] G x (r, x) :=
  b_body (by decide) (Nat.le_of_ble_eq_true rfl) rfl (fun p e s m args below meth c C => wX4_lentHours_b0 C hk0 hf)
-- X4_goneHours
abbrev rX4_goneHours : Room := { frames := 0, cells := 0, slots := 0, locals := 0 }
def fX4_goneHours_b0 (i0 : Nat) (x : xS)  : Option Int32 :=
  some (x.1 i0 1)
def fX4_goneHours (i0 : Nat) (x : xS) : Option Int32 := fX4_goneHours_b0 i0 x
section
variable {p : Program} {l : Launch} {e : Env} {R : Room} {s : State} {m : MethodId} {args : Array Value} {below : List Frame} {meth : Method} {c : Code} {G : gT}
set_option maxHeartbeats 4000000 in
set_option maxRecDepth 100000 in
theorem wX4_goneHours_b0 (C : CT p s m args meth c cX4_goneHours 1 RX4 (some (.int)) G (pA G s.heap.size)) {i0 : Nat} {x : xS}  {r : Int32} (hk0 : KD G i0 4) (hf : fX4_goneHours_b0 i0 x  = some r) : WB p l e rX4_goneHours s m args below meth c 1 G (pA G s.heap.size) (qI below G (r, x) args s 0 0) 0 0 0 [(0, .ref (G.2.2 i0))] [] x := by
  unfold fX4_goneHours_b0 at hf
  refine b_aload_n C dX4_goneHours_0 rfl 0 rfl ?_
  refine gfX4_28 C hk0 dX4_goneHours_1 ?_
  exact b_ireti C dX4_goneHours_4 (congrArg (Option.map (fun q => (q, x))) hf)
end
theorem metX4_goneHours (l : Launch) (G : gT) (i0 : Nat) (x : xS) (r : Int32) (hk0 : KD G i0 4) (hf : fX4_goneHours i0 x = some r) : cI l yX4_goneHours cX4_goneHours 1 (.int) rX4_goneHours [.ref (G.2.2 i0)] G x (r, x) :=
  b_body (by decide) (Nat.le_of_ble_eq_true rfl) rfl (fun p e s m args below meth c C => wX4_goneHours_b0 C hk0 hf)
-- X3_account
abbrev rX3_account : Room := { frames := 3, cells := 0, slots := 0, locals := 67 }
def fX3_account_b0 (i0 : Nat) (v1 : Int32) (x : xS)  : Option Int32 :=
  (if v1 = 0 then
  Option.bind (fX4_goneHours (i0 + 1) x) (fun r8 =>
  some r8)
  else
  (if v1 = 2 then
  Option.bind (fX4_lentHours (i0 + 1) x) (fun r21 =>
  some r21)
  else
  Option.bind (fX2_get (i0 + 6) 0 v1 x) (fun r33 =>
  some r33)))
def fX3_account (i0 : Nat) (v1 : Int32) (x : xS) : Option Int32 := fX3_account_b0 i0 v1 x
section
variable {p : Program} {l : Launch} {e : Env} {R : Room} {s : State} {m : MethodId} {args : Array Value} {below : List Frame} {meth : Method} {c : Code} {G : gT}
set_option maxHeartbeats 4000000 in
set_option maxRecDepth 100000 in
theorem wX3_account_b0 (C : CT p s m args meth c cX3_account 2 RX3 (some (.int)) G (pA G s.heap.size)) {i0 : Nat} {v1 : Int32} {x : xS}  {r : Int32} (hk0 : KD G i0 3) (hf : fX3_account_b0 i0 v1 x  = some r) : WB p l e rX3_account s m args below meth c 2 G (pA G s.heap.size) (qI below G (r, x) args s 0 0) 0 0 0 [(0, .ref (G.2.2 i0)), (1, .int v1)] [] x := by
  unfold fX3_account_b0 at hf
  refine b_iload_n C dX3_account_0 rfl 1 rfl ?_
  refine b_if_ne (tgt := 12) C dX3_account_1 (by decide) (fun c1 => ?_) (fun c1 => ?_)
  · have hf := iF c1 hf
    refine b_iload_n C dX3_account_12 rfl 1 rfl ?_
    refine b_iconst (v := 2) C dX3_account_13 (by decide) ?_
    refine b_icmp_ne (tgt := 27) C dX3_account_14 (by decide) (fun c14 => ?_) (fun c14 => ?_)
    · have hf := iF c14 hf
      refine b_aload_n C dX3_account_27 rfl 0 rfl ?_
      refine gfX3_27 C hk0 dX3_account_28 ?_
      refine b_iconst (v := 0) C dX3_account_31 (by decide) ?_
      refine b_iload_n C dX3_account_32 rfl 1 rfl ?_
      obtain ⟨r33, c33, hf⟩ := oB hf
      refine b_callVi (K := 2) (As := [.int 0, .int v1]) (res := (r33, x)) C (metX2_get l G _ _ _ _ _ ((kd3 C.cl hk0).2.2.1) c33) ((kd3 C.cl hk0).2.2.1) (by decide) rfl gkX3_51 ekX3_51 rfl ⟨rfl, rfl⟩ ⟨Nat.le_of_ble_eq_true rfl, Nat.le_of_ble_eq_true rfl⟩ (by simp [Value.category]) ⟨Nat.zero_le _, Nat.zero_le _⟩ rfl dX3_account_33 ?_
      exact b_ireti C dX3_account_36 (congrArg (Option.map (fun q => (q, x))) hf)
    · have hf := iT c14 hf
      refine b_aload_n C dX3_account_17 rfl 0 rfl ?_
      refine gfX3_12 C hk0 dX3_account_18 ?_
      obtain ⟨r21, c21, hf⟩ := oB hf
      refine b_callVi (K := 4) (As := []) (res := (r21, x)) C (metX4_lentHours l G _ _ _ ((kd3 C.cl hk0).1) c21) ((kd3 C.cl hk0).1) (by decide) rfl gkX3_48 ekX3_48 rfl ⟨rfl, rfl⟩ ⟨Nat.le_of_ble_eq_true rfl, Nat.le_of_ble_eq_true rfl⟩ (by simp [Value.category]) ⟨Nat.zero_le _, Nat.zero_le _⟩ rfl dX3_account_21 ?_
      refine b_goto (tgt := 36) C dX3_account_24 (by decide) ?_
      exact b_ireti C dX3_account_36 (congrArg (Option.map (fun q => (q, x))) hf)
  · have hf := iT c1 hf
    refine b_aload_n C dX3_account_4 rfl 0 rfl ?_
    refine gfX3_12 C hk0 dX3_account_5 ?_
    obtain ⟨r8, c8, hf⟩ := oB hf
    refine b_callVi (K := 4) (As := []) (res := (r8, x)) C (metX4_goneHours l G _ _ _ ((kd3 C.cl hk0).1) c8) ((kd3 C.cl hk0).1) (by decide) rfl gkX3_44 ekX3_44 rfl ⟨rfl, rfl⟩ ⟨Nat.le_of_ble_eq_true rfl, Nat.le_of_ble_eq_true rfl⟩ (by simp [Value.category]) ⟨Nat.zero_le _, Nat.zero_le _⟩ rfl dX3_account_8 ?_
    exact b_ireti C dX3_account_11 (congrArg (Option.map (fun q => (q, x))) hf)
end
theorem metX3_account (l : Launch) (G : gT) (i0 : Nat) (v1 : Int32) (x : xS) (r : Int32) (hk0 : KD G i0 3) (hf : fX3_account i0 v1 x = some r) : cI l yX3_account cX3_account 2 (.int) rX3_account [.ref (G.2.2 i0), .int v1] G x (r, x) :=
  b_body (by decide) (Nat.le_of_ble_eq_true rfl) rfl (fun p e s m args below meth c C => wX3_account_b0 C hk0 hf)
-- X4_wentBy
abbrev rX4_wentBy : Room := { frames := 0, cells := 0, slots := 0, locals := 0 }
def fX4_wentBy_b0 (i0 : Nat) (v1 : Int32) (x : xS)  : Option Int32 :=
  (if (x.1 i0 1) ≤ v1 then
  some 0
  else
  some 1)
def fX4_wentBy (i0 : Nat) (v1 : Int32) (x : xS) : Option Int32 := fX4_wentBy_b0 i0 v1 x
section
variable {p : Program} {l : Launch} {e : Env} {R : Room} {s : State} {m : MethodId} {args : Array Value} {below : List Frame} {meth : Method} {c : Code} {G : gT}
set_option maxHeartbeats 4000000 in
set_option maxRecDepth 100000 in
theorem wX4_wentBy_b0 (C : CT p s m args meth c cX4_wentBy 2 RX4 (some (.boolean)) G (pA G s.heap.size)) {i0 : Nat} {v1 : Int32} {x : xS}  {r : Int32} (hk0 : KD G i0 4) (hf : fX4_wentBy_b0 i0 v1 x  = some r) : WB p l e rX4_wentBy s m args below meth c 2 G (pA G s.heap.size) (qI below G (r, x) args s 0 0) 0 0 0 [(0, .ref (G.2.2 i0)), (1, .int v1)] [] x := by
  unfold fX4_wentBy_b0 at hf
  refine b_iload_n C dX4_wentBy_0 rfl 1 rfl ?_
  refine b_aload_n C dX4_wentBy_1 rfl 0 rfl ?_
  refine gfX4_28 C hk0 dX4_wentBy_2 ?_
  refine b_icmp_ge (tgt := 12) C dX4_wentBy_5 (by decide) (fun c5 => ?_) (fun c5 => ?_)
  · have hf := iT c5 hf
    refine b_iconst (v := 0) C dX4_wentBy_12 (by decide) ?_
    exact b_iretz C (by decide) dX4_wentBy_13 (congrArg (Option.map (fun q => (q, x))) hf)
  · have hf := iF c5 hf
    refine b_iconst (v := 1) C dX4_wentBy_8 (by decide) ?_
    refine b_goto (tgt := 13) C dX4_wentBy_9 (by decide) ?_
    exact b_iretz C (by decide) dX4_wentBy_13 (congrArg (Option.map (fun q => (q, x))) hf)
end
theorem metX4_wentBy (l : Launch) (G : gT) (i0 : Nat) (v1 : Int32) (x : xS) (r : Int32) (hk0 : KD G i0 4) (hf : fX4_wentBy i0 v1 x = some r) : cI l yX4_wentBy cX4_wentBy 2 (.boolean) rX4_wentBy [.ref (G.2.2 i0), .int v1] G x (r, x) :=
  b_body (by decide) (Nat.le_of_ble_eq_true rfl) rfl (fun p e s m args below meth c C => wX4_wentBy_b0 C hk0 hf)
-- X4_bedOf
abbrev rX4_bedOf : Room := { frames := 1, cells := 0, slots := 0, locals := 22 }
def fX4_bedOf_b2 (i0 : Nat) (v1 : Int32) (v2 : Int32) (x : xS) : Nat → Int32 → Option Int32
  | 0, _ => none
  | n + 1, v3 => (if (4 : Int32) ≤ v3 then
  some (-1)
  else
  Option.bind (fX2_get (i0 + 1) v3 v2 x) (fun r13 =>
  (if r13 = v1 then
  some v3
  else
  fX4_bedOf_b2 i0 v1 v2 x n (v3 + 1))))
def fX4_bedOf_b0 (i0 : Nat) (v1 : Int32) (v2 : Int32) (x : xS)  : Option Int32 :=
  fX4_bedOf_b2 i0 v1 v2 x FU 0
def fX4_bedOf (i0 : Nat) (v1 : Int32) (v2 : Int32) (x : xS) : Option Int32 := fX4_bedOf_b0 i0 v1 v2 x
section
variable {p : Program} {l : Launch} {e : Env} {R : Room} {s : State} {m : MethodId} {args : Array Value} {below : List Frame} {meth : Method} {c : Code} {G : gT}
set_option maxHeartbeats 4000000 in
set_option maxRecDepth 100000 in
theorem wX4_bedOf_b2 (C : CT p s m args meth c cX4_bedOf 4 RX4 (some (.int)) G (pA G s.heap.size)) {i0 : Nat} {v1 : Int32} {v2 : Int32} {x : xS} {r : Int32} (hk0 : KD G i0 4) : ∀ (n : Nat) (v3 : Int32), fX4_bedOf_b2 i0 v1 v2 x n v3 = some r → WB p l e rX4_bedOf s m args below meth c 4 G (pA G s.heap.size) (qI below G (r, x) args s 0 0) 0 0 2 [(0, .ref (G.2.2 i0)), (1, .int v1), (2, .int v2), (3, .int v3)] [] x := by
  intro n
  induction n with
  | zero =>
    intro v3 hf
    cases hf
  | succ n ih =>
    intro v3 hf
    rw [fX4_bedOf_b2] at hf
    refine b_iload_n C dX4_bedOf_2 rfl 3 rfl ?_
    refine b_iconst (v := 4) C dX4_bedOf_3 (by decide) ?_
    refine b_icmp_ge (tgt := 28) C dX4_bedOf_4 (by decide) (fun c4 => ?_) (fun c4 => ?_)
    · have hf := iT c4 hf
      refine b_iconst (v := (-1)) C dX4_bedOf_28 (by decide) ?_
      exact b_ireti C dX4_bedOf_29 (congrArg (Option.map (fun q => (q, x))) hf)
    · have hf := iF c4 hf
      refine b_aload_n C dX4_bedOf_7 rfl 0 rfl ?_
      refine gfX4_14 C hk0 dX4_bedOf_8 ?_
      refine b_iload_n C dX4_bedOf_11 rfl 3 rfl ?_
      refine b_iload_n C dX4_bedOf_12 rfl 2 rfl ?_
      obtain ⟨r13, c13, hf⟩ := oB hf
      refine b_callVi (K := 2) (As := [.int v3, .int v2]) (res := (r13, x)) C (metX2_get l G _ _ _ _ _ (kd4 C.cl hk0) c13) (kd4 C.cl hk0) (by decide) rfl gkX4_32 ekX4_32 rfl ⟨rfl, rfl⟩ ⟨Nat.le_of_ble_eq_true rfl, Nat.le_of_ble_eq_true rfl⟩ (by simp [Value.category]) ⟨Nat.zero_le _, Nat.zero_le _⟩ rfl dX4_bedOf_13 ?_
      refine b_iload_n C dX4_bedOf_16 rfl 1 rfl ?_
      refine b_icmp_ne (tgt := 22) C dX4_bedOf_17 (by decide) (fun c17 => ?_) (fun c17 => ?_)
      · have hf := iF c17 hf
        refine b_iinc (q := 3) (v' := (v3 + 1)) (lv' := [(3, .int (v3 + 1)), (0, .ref (G.2.2 i0)), (1, .int v1), (2, .int v2)]) C dX4_bedOf_22 rfl rfl (by decide) rfl ?_
        refine b_goto (tgt := 2) C dX4_bedOf_25 (by decide) ?_
        refine b_pm [1, 2, 3, 0] (lv' := [(0, .ref (G.2.2 i0)), (1, .int v1), (2, .int v2), (3, .int (v3 + 1))]) rfl ?_
        exact ih _ hf
      · have hf := iT c17 hf
        refine b_iload_n C dX4_bedOf_20 rfl 3 rfl ?_
        exact b_ireti C dX4_bedOf_21 (congrArg (Option.map (fun q => (q, x))) hf)
set_option maxHeartbeats 4000000 in
set_option maxRecDepth 100000 in
theorem wX4_bedOf_b0 (C : CT p s m args meth c cX4_bedOf 4 RX4 (some (.int)) G (pA G s.heap.size)) {i0 : Nat} {v1 : Int32} {v2 : Int32} {x : xS}  {r : Int32} (hk0 : KD G i0 4) (hf : fX4_bedOf_b0 i0 v1 v2 x  = some r) : WB p l e rX4_bedOf s m args below meth c 4 G (pA G s.heap.size) (qI below G (r, x) args s 0 0) 0 0 0 [(0, .ref (G.2.2 i0)), (1, .int v1), (2, .int v2)] [] x := by
  unfold fX4_bedOf_b0 at hf
  refine b_iconst (v := 0) C dX4_bedOf_0 (by decide) ?_
  refine b_istore_n (lv' := [(3, .int 0), (0, .ref (G.2.2 i0)), (1, .int v1), (2, .int v2)]) C dX4_bedOf_1 rfl (by decide) rfl ?_
  refine b_pm [1, 2, 3, 0] (lv' := [(0, .ref (G.2.2 i0)), (1, .int v1), (2, .int v2), (3, .int 0)]) rfl ?_
  exact wX4_bedOf_b2 C  hk0 FU _ hf
end
theorem metX4_bedOf (l : Launch) (G : gT) (i0 : Nat) (v1 : Int32) (v2 : Int32) (x : xS) (r : Int32) (hk0 : KD G i0 4) (hf : fX4_bedOf i0 v1 v2 x = some r) : cI l yX4_bedOf cX4_bedOf 4 (.int) rX4_bedOf [.ref (G.2.2 i0), .int v1, .int v2] G x (r, x) :=
  b_body (by decide) (Nat.le_of_ble_eq_true rfl) rfl (fun p e s m args below meth c C => wX4_bedOf_b0 C hk0 hf)
-- X4_hoursWithBed
abbrev rX4_hoursWithBed : Room := { frames := 2, cells := 0, slots := 0, locals := 45 }
def fX4_hoursWithBed_b32 (k6 : Int32 → Int32 → Option Int32) (i0 : Nat) (v1 : Int32) (v2 : Int32) (v3 : Int32) (x : xS) (v5 : Int32) (s0 : Int32) (s1 : Int32) : Option Int32 :=
  lt1 (s0 + s1) (fun y33 => 
  k6 y33 (v5 + 1))
def fX4_hoursWithBed_b6 (i0 : Nat) (v1 : Int32) (v2 : Int32) (v3 : Int32) (x : xS) : Nat → Int32 → Int32 → Option Int32
  | 0, _, _ => none
  | n + 1, v4, v5 => (if (v2 + v3) ≤ v5 then
  some v4
  else
  Option.bind (fX4_bedOf i0 v1 v5 x) (fun r20 =>
  (if r20 = (-1) then
  fX4_hoursWithBed_b32 (fX4_hoursWithBed_b6 i0 v1 v2 v3 x n) i0 v1 v2 v3 x v5 v4 0
  else
  fX4_hoursWithBed_b32 (fX4_hoursWithBed_b6 i0 v1 v2 v3 x n) i0 v1 v2 v3 x v5 v4 1)))
def fX4_hoursWithBed_b0 (i0 : Nat) (v1 : Int32) (v2 : Int32) (v3 : Int32) (x : xS)  : Option Int32 :=
  fX4_hoursWithBed_b6 i0 v1 v2 v3 x FU 0 v2
def fX4_hoursWithBed (i0 : Nat) (v1 : Int32) (v2 : Int32) (v3 : Int32) (x : xS) : Option Int32 := fX4_hoursWithBed_b0 i0 v1 v2 v3 x
section
variable {p : Program} {l : Launch} {e : Env} {R : Room} {s : State} {m : MethodId} {args : Array Value} {below : List Frame} {meth : Method} {c : Code} {G : gT}
set_option maxHeartbeats 4000000 in
set_option maxRecDepth 100000 in
theorem wX4_hoursWithBed_b32 (C : CT p s m args meth c cX4_hoursWithBed 6 RX4 (some (.int)) G (pA G s.heap.size)) {k6 : Int32 → Int32 → Option Int32} {i0 : Nat} {v1 : Int32} {v2 : Int32} {v3 : Int32} {x : xS} {v5 : Int32} {s0 : Int32} {s1 : Int32} {r : Int32} (h6 : ∀ (v4 : Int32) (v5 : Int32), k6 v4 v5 = some r → WB p l e rX4_hoursWithBed s m args below meth c 6 G (pA G s.heap.size) (qI below G (r, x) args s 0 0) 0 0 6 [(0, .ref (G.2.2 i0)), (1, .int v1), (2, .int v2), (3, .int v3), (4, .int v4), (5, .int v5)] [] x) (hk0 : KD G i0 4) (hf : fX4_hoursWithBed_b32 k6 i0 v1 v2 v3 x v5 s0 s1 = some r) : WB p l e rX4_hoursWithBed s m args below meth c 6 G (pA G s.heap.size) (qI below G (r, x) args s 0 0) 0 0 32 [(0, .ref (G.2.2 i0)), (1, .int v1), (2, .int v2), (3, .int v3), (5, .int v5)] [.int s1, .int s0] x := by
  unfold fX4_hoursWithBed_b32 at hf
  refine b_iadd C dX4_hoursWithBed_32 ?_
  obtain ⟨y33, e33, hf⟩ := lN1 hf
  rw [e33]
  refine b_istore (lv' := [(4, .int y33), (0, .ref (G.2.2 i0)), (1, .int v1), (2, .int v2), (3, .int v3), (5, .int v5)]) C dX4_hoursWithBed_33 (by decide) rfl ?_
  refine b_iinc (q := 5) (v' := (v5 + 1)) (lv' := [(5, .int (v5 + 1)), (4, .int y33), (0, .ref (G.2.2 i0)), (1, .int v1), (2, .int v2), (3, .int v3)]) C dX4_hoursWithBed_35 rfl rfl (by decide) rfl ?_
  refine b_goto (tgt := 6) C dX4_hoursWithBed_38 (by decide) ?_
  refine b_pm [2, 3, 4, 5, 1, 0] (lv' := [(0, .ref (G.2.2 i0)), (1, .int v1), (2, .int v2), (3, .int v3), (4, .int y33), (5, .int (v5 + 1))]) rfl ?_
  exact h6 _ _ hf
set_option maxHeartbeats 4000000 in
set_option maxRecDepth 100000 in
theorem wX4_hoursWithBed_b6 (C : CT p s m args meth c cX4_hoursWithBed 6 RX4 (some (.int)) G (pA G s.heap.size)) {i0 : Nat} {v1 : Int32} {v2 : Int32} {v3 : Int32} {x : xS} {r : Int32} (hk0 : KD G i0 4) : ∀ (n : Nat) (v4 : Int32) (v5 : Int32), fX4_hoursWithBed_b6 i0 v1 v2 v3 x n v4 v5 = some r → WB p l e rX4_hoursWithBed s m args below meth c 6 G (pA G s.heap.size) (qI below G (r, x) args s 0 0) 0 0 6 [(0, .ref (G.2.2 i0)), (1, .int v1), (2, .int v2), (3, .int v3), (4, .int v4), (5, .int v5)] [] x := by
  intro n
  induction n with
  | zero =>
    intro v4 v5 hf
    cases hf
  | succ n ih =>
    intro v4 v5 hf
    rw [fX4_hoursWithBed_b6] at hf
    refine b_iload C dX4_hoursWithBed_6 5 rfl ?_
    refine b_iload_n C dX4_hoursWithBed_8 rfl 2 rfl ?_
    refine b_iload_n C dX4_hoursWithBed_9 rfl 3 rfl ?_
    refine b_iadd C dX4_hoursWithBed_10 ?_
    refine b_icmp_ge (tgt := 41) C dX4_hoursWithBed_11 (by decide) (fun c11 => ?_) (fun c11 => ?_)
    · have hf := iT c11 hf
      refine b_iload C dX4_hoursWithBed_41 4 rfl ?_
      exact b_ireti C dX4_hoursWithBed_43 (congrArg (Option.map (fun q => (q, x))) hf)
    · have hf := iF c11 hf
      refine b_iload C dX4_hoursWithBed_14 4 rfl ?_
      refine b_aload_n C dX4_hoursWithBed_16 rfl 0 rfl ?_
      refine b_iload_n C dX4_hoursWithBed_17 rfl 1 rfl ?_
      refine b_iload C dX4_hoursWithBed_18 5 rfl ?_
      obtain ⟨r20, c20, hf⟩ := oB hf
      refine b_callVi (K := 4) (As := [.int v1, .int v5]) (res := (r20, x)) C (metX4_bedOf l G _ _ _ _ _ hk0 c20) hk0 (by decide) rfl gkX4_49 ekX4_49 rfl ⟨rfl, rfl⟩ ⟨Nat.le_of_ble_eq_true rfl, Nat.le_of_ble_eq_true rfl⟩ (by simp [Value.category]) ⟨Nat.zero_le _, Nat.zero_le _⟩ rfl dX4_hoursWithBed_20 ?_
      refine b_iconst (v := (-1)) C dX4_hoursWithBed_23 (by decide) ?_
      refine b_icmp_eq (tgt := 31) C dX4_hoursWithBed_24 (by decide) (fun c24 => ?_) (fun c24 => ?_)
      · have hf := iT c24 hf
        refine b_iconst (v := 0) C dX4_hoursWithBed_31 (by decide) ?_
        refine b_pm [0, 1, 2, 3, 5] (lv' := [(0, .ref (G.2.2 i0)), (1, .int v1), (2, .int v2), (3, .int v3), (5, .int v5)]) rfl ?_
        exact wX4_hoursWithBed_b32 C ih hk0 hf
      · have hf := iF c24 hf
        refine b_iconst (v := 1) C dX4_hoursWithBed_27 (by decide) ?_
        refine b_goto (tgt := 32) C dX4_hoursWithBed_28 (by decide) ?_
        refine b_pm [0, 1, 2, 3, 5] (lv' := [(0, .ref (G.2.2 i0)), (1, .int v1), (2, .int v2), (3, .int v3), (5, .int v5)]) rfl ?_
        exact wX4_hoursWithBed_b32 C ih hk0 hf
set_option maxHeartbeats 4000000 in
set_option maxRecDepth 100000 in
theorem wX4_hoursWithBed_b0 (C : CT p s m args meth c cX4_hoursWithBed 6 RX4 (some (.int)) G (pA G s.heap.size)) {i0 : Nat} {v1 : Int32} {v2 : Int32} {v3 : Int32} {x : xS}  {r : Int32} (hk0 : KD G i0 4) (hf : fX4_hoursWithBed_b0 i0 v1 v2 v3 x  = some r) : WB p l e rX4_hoursWithBed s m args below meth c 6 G (pA G s.heap.size) (qI below G (r, x) args s 0 0) 0 0 0 [(0, .ref (G.2.2 i0)), (1, .int v1), (2, .int v2), (3, .int v3)] [] x := by
  unfold fX4_hoursWithBed_b0 at hf
  refine b_iconst (v := 0) C dX4_hoursWithBed_0 (by decide) ?_
  refine b_istore (lv' := [(4, .int 0), (0, .ref (G.2.2 i0)), (1, .int v1), (2, .int v2), (3, .int v3)]) C dX4_hoursWithBed_1 (by decide) rfl ?_
  refine b_iload_n C dX4_hoursWithBed_3 rfl 3 rfl ?_
  refine b_istore (lv' := [(5, .int v2), (4, .int 0), (0, .ref (G.2.2 i0)), (1, .int v1), (2, .int v2), (3, .int v3)]) C dX4_hoursWithBed_4 (by decide) rfl ?_
  refine b_pm [2, 3, 4, 5, 1, 0] (lv' := [(0, .ref (G.2.2 i0)), (1, .int v1), (2, .int v2), (3, .int v3), (4, .int 0), (5, .int v2)]) rfl ?_
  exact wX4_hoursWithBed_b6 C  hk0 FU _ _ hf
end
theorem metX4_hoursWithBed (l : Launch) (G : gT) (i0 : Nat) (v1 : Int32) (v2 : Int32) (v3 : Int32) (x : xS) (r : Int32) (hk0 : KD G i0 4) (hf : fX4_hoursWithBed i0 v1 v2 v3 x = some r) : cI l yX4_hoursWithBed cX4_hoursWithBed 6 (.int) rX4_hoursWithBed [.ref (G.2.2 i0), .int v1, .int v2, .int v3] G x (r, x) :=
  b_body (by decide) (Nat.le_of_ble_eq_true rfl) rfl (fun p e s m args below meth c C => wX4_hoursWithBed_b0 C hk0 hf)
-- X3_isEighth
abbrev rX3_isEighth : Room := { frames := 1, cells := 0, slots := 0, locals := 22 }
def fX3_isEighth_b0 (i0 : Nat) (v1 : Int32) (x : xS)  : Option Int32 :=
  Option.bind (fX2_get (i0 + 4) v1 1 x) (fun r6 =>
  (if r6 < 7 then
  some 0
  else
  some 1))
def fX3_isEighth (i0 : Nat) (v1 : Int32) (x : xS) : Option Int32 := fX3_isEighth_b0 i0 v1 x
section
variable {p : Program} {l : Launch} {e : Env} {R : Room} {s : State} {m : MethodId} {args : Array Value} {below : List Frame} {meth : Method} {c : Code} {G : gT}
set_option maxHeartbeats 4000000 in
set_option maxRecDepth 100000 in
theorem wX3_isEighth_b0 (C : CT p s m args meth c cX3_isEighth 2 RX3 (some (.boolean)) G (pA G s.heap.size)) {i0 : Nat} {v1 : Int32} {x : xS}  {r : Int32} (hk0 : KD G i0 3) (hf : fX3_isEighth_b0 i0 v1 x  = some r) : WB p l e rX3_isEighth s m args below meth c 2 G (pA G s.heap.size) (qI below G (r, x) args s 0 0) 0 0 0 [(0, .ref (G.2.2 i0)), (1, .int v1)] [] x := by
  unfold fX3_isEighth_b0 at hf
  refine b_aload_n C dX3_isEighth_0 rfl 0 rfl ?_
  refine gfX3_23 C hk0 dX3_isEighth_1 ?_
  refine b_iload_n C dX3_isEighth_4 rfl 1 rfl ?_
  refine b_iconst (v := 1) C dX3_isEighth_5 (by decide) ?_
  obtain ⟨r6, c6, hf⟩ := oB hf
  refine b_callVi (K := 2) (As := [.int v1, .int 1]) (res := (r6, x)) C (metX2_get l G _ _ _ _ _ ((kd3 C.cl hk0).2.1) c6) ((kd3 C.cl hk0).2.1) (by decide) rfl gkX3_51 ekX3_51 rfl ⟨rfl, rfl⟩ ⟨Nat.le_of_ble_eq_true rfl, Nat.le_of_ble_eq_true rfl⟩ (by simp [Value.category]) ⟨Nat.zero_le _, Nat.zero_le _⟩ rfl dX3_isEighth_6 ?_
  refine b_bipush (v := 7) C dX3_isEighth_9 (by decide) ?_
  refine b_icmp_lt (tgt := 18) C dX3_isEighth_11 (by decide) (fun c11 => ?_) (fun c11 => ?_)
  · have hf := iT c11 hf
    refine b_iconst (v := 0) C dX3_isEighth_18 (by decide) ?_
    exact b_iretz C (by decide) dX3_isEighth_19 (congrArg (Option.map (fun q => (q, x))) hf)
  · have hf := iF c11 hf
    refine b_iconst (v := 1) C dX3_isEighth_14 (by decide) ?_
    refine b_goto (tgt := 19) C dX3_isEighth_15 (by decide) ?_
    exact b_iretz C (by decide) dX3_isEighth_19 (congrArg (Option.map (fun q => (q, x))) hf)
end
theorem metX3_isEighth (l : Launch) (G : gT) (i0 : Nat) (v1 : Int32) (x : xS) (r : Int32) (hk0 : KD G i0 3) (hf : fX3_isEighth i0 v1 x = some r) : cI l yX3_isEighth cX3_isEighth 2 (.boolean) rX3_isEighth [.ref (G.2.2 i0), .int v1] G x (r, x) :=
  b_body (by decide) (Nat.le_of_ble_eq_true rfl) rfl (fun p e s m args below meth c C => wX3_isEighth_b0 C hk0 hf)
-- X4_lentHoursIn
abbrev rX4_lentHoursIn : Room := { frames := 1, cells := 0, slots := 0, locals := 22 }
def fX4_lentHoursIn_b35 (k6 : Int32 → Int32 → Option Int32) (i0 : Nat) (v1 : Int32) (v2 : Int32) (v3 : Int32) (x : xS) (v5 : Int32) (s0 : Int32) (s1 : Int32) : Option Int32 :=
  lt1 (s0 + s1) (fun y36 => 
  k6 y36 (v5 + 1))
def fX4_lentHoursIn_b6 (i0 : Nat) (v1 : Int32) (v2 : Int32) (v3 : Int32) (x : xS) : Nat → Int32 → Int32 → Option Int32
  | 0, _, _ => none
  | n + 1, v4, v5 => (if (v2 + v3) ≤ v5 then
  some v4
  else
  Option.bind (fX2_get (i0 + 1) v1 v5 x) (fun r23 =>
  (if r23 = (-1) then
  fX4_lentHoursIn_b35 (fX4_lentHoursIn_b6 i0 v1 v2 v3 x n) i0 v1 v2 v3 x v5 v4 0
  else
  fX4_lentHoursIn_b35 (fX4_lentHoursIn_b6 i0 v1 v2 v3 x n) i0 v1 v2 v3 x v5 v4 1)))
def fX4_lentHoursIn_b0 (i0 : Nat) (v1 : Int32) (v2 : Int32) (v3 : Int32) (x : xS)  : Option Int32 :=
  fX4_lentHoursIn_b6 i0 v1 v2 v3 x FU 0 v2
def fX4_lentHoursIn (i0 : Nat) (v1 : Int32) (v2 : Int32) (v3 : Int32) (x : xS) : Option Int32 := fX4_lentHoursIn_b0 i0 v1 v2 v3 x
section
variable {p : Program} {l : Launch} {e : Env} {R : Room} {s : State} {m : MethodId} {args : Array Value} {below : List Frame} {meth : Method} {c : Code} {G : gT}
set_option maxHeartbeats 4000000 in
set_option maxRecDepth 100000 in
theorem wX4_lentHoursIn_b35 (C : CT p s m args meth c cX4_lentHoursIn 6 RX4 (some (.int)) G (pA G s.heap.size)) {k6 : Int32 → Int32 → Option Int32} {i0 : Nat} {v1 : Int32} {v2 : Int32} {v3 : Int32} {x : xS} {v5 : Int32} {s0 : Int32} {s1 : Int32} {r : Int32} (h6 : ∀ (v4 : Int32) (v5 : Int32), k6 v4 v5 = some r → WB p l e rX4_lentHoursIn s m args below meth c 6 G (pA G s.heap.size) (qI below G (r, x) args s 0 0) 0 0 6 [(0, .ref (G.2.2 i0)), (1, .int v1), (2, .int v2), (3, .int v3), (4, .int v4), (5, .int v5)] [] x) (hk0 : KD G i0 4) (hf : fX4_lentHoursIn_b35 k6 i0 v1 v2 v3 x v5 s0 s1 = some r) : WB p l e rX4_lentHoursIn s m args below meth c 6 G (pA G s.heap.size) (qI below G (r, x) args s 0 0) 0 0 35 [(0, .ref (G.2.2 i0)), (1, .int v1), (2, .int v2), (3, .int v3), (5, .int v5)] [.int s1, .int s0] x := by
  unfold fX4_lentHoursIn_b35 at hf
  refine b_iadd C dX4_lentHoursIn_35 ?_
  obtain ⟨y36, e36, hf⟩ := lN1 hf
  rw [e36]
  refine b_istore (lv' := [(4, .int y36), (0, .ref (G.2.2 i0)), (1, .int v1), (2, .int v2), (3, .int v3), (5, .int v5)]) C dX4_lentHoursIn_36 (by decide) rfl ?_
  refine b_iinc (q := 5) (v' := (v5 + 1)) (lv' := [(5, .int (v5 + 1)), (4, .int y36), (0, .ref (G.2.2 i0)), (1, .int v1), (2, .int v2), (3, .int v3)]) C dX4_lentHoursIn_38 rfl rfl (by decide) rfl ?_
  refine b_goto (tgt := 6) C dX4_lentHoursIn_41 (by decide) ?_
  refine b_pm [2, 3, 4, 5, 1, 0] (lv' := [(0, .ref (G.2.2 i0)), (1, .int v1), (2, .int v2), (3, .int v3), (4, .int y36), (5, .int (v5 + 1))]) rfl ?_
  exact h6 _ _ hf
set_option maxHeartbeats 4000000 in
set_option maxRecDepth 100000 in
theorem wX4_lentHoursIn_b6 (C : CT p s m args meth c cX4_lentHoursIn 6 RX4 (some (.int)) G (pA G s.heap.size)) {i0 : Nat} {v1 : Int32} {v2 : Int32} {v3 : Int32} {x : xS} {r : Int32} (hk0 : KD G i0 4) : ∀ (n : Nat) (v4 : Int32) (v5 : Int32), fX4_lentHoursIn_b6 i0 v1 v2 v3 x n v4 v5 = some r → WB p l e rX4_lentHoursIn s m args below meth c 6 G (pA G s.heap.size) (qI below G (r, x) args s 0 0) 0 0 6 [(0, .ref (G.2.2 i0)), (1, .int v1), (2, .int v2), (3, .int v3), (4, .int v4), (5, .int v5)] [] x := by
  intro n
  induction n with
  | zero =>
    intro v4 v5 hf
    cases hf
  | succ n ih =>
    intro v4 v5 hf
    rw [fX4_lentHoursIn_b6] at hf
    refine b_iload C dX4_lentHoursIn_6 5 rfl ?_
    refine b_iload_n C dX4_lentHoursIn_8 rfl 2 rfl ?_
    refine b_iload_n C dX4_lentHoursIn_9 rfl 3 rfl ?_
    refine b_iadd C dX4_lentHoursIn_10 ?_
    refine b_icmp_ge (tgt := 44) C dX4_lentHoursIn_11 (by decide) (fun c11 => ?_) (fun c11 => ?_)
    · have hf := iT c11 hf
      refine b_iload C dX4_lentHoursIn_44 4 rfl ?_
      exact b_ireti C dX4_lentHoursIn_46 (congrArg (Option.map (fun q => (q, x))) hf)
    · have hf := iF c11 hf
      refine b_iload C dX4_lentHoursIn_14 4 rfl ?_
      refine b_aload_n C dX4_lentHoursIn_16 rfl 0 rfl ?_
      refine gfX4_14 C hk0 dX4_lentHoursIn_17 ?_
      refine b_iload_n C dX4_lentHoursIn_20 rfl 1 rfl ?_
      refine b_iload C dX4_lentHoursIn_21 5 rfl ?_
      obtain ⟨r23, c23, hf⟩ := oB hf
      refine b_callVi (K := 2) (As := [.int v1, .int v5]) (res := (r23, x)) C (metX2_get l G _ _ _ _ _ (kd4 C.cl hk0) c23) (kd4 C.cl hk0) (by decide) rfl gkX4_32 ekX4_32 rfl ⟨rfl, rfl⟩ ⟨Nat.le_of_ble_eq_true rfl, Nat.le_of_ble_eq_true rfl⟩ (by simp [Value.category]) ⟨Nat.zero_le _, Nat.zero_le _⟩ rfl dX4_lentHoursIn_23 ?_
      refine b_iconst (v := (-1)) C dX4_lentHoursIn_26 (by decide) ?_
      refine b_icmp_eq (tgt := 34) C dX4_lentHoursIn_27 (by decide) (fun c27 => ?_) (fun c27 => ?_)
      · have hf := iT c27 hf
        refine b_iconst (v := 0) C dX4_lentHoursIn_34 (by decide) ?_
        refine b_pm [0, 1, 2, 3, 5] (lv' := [(0, .ref (G.2.2 i0)), (1, .int v1), (2, .int v2), (3, .int v3), (5, .int v5)]) rfl ?_
        exact wX4_lentHoursIn_b35 C ih hk0 hf
      · have hf := iF c27 hf
        refine b_iconst (v := 1) C dX4_lentHoursIn_30 (by decide) ?_
        refine b_goto (tgt := 35) C dX4_lentHoursIn_31 (by decide) ?_
        refine b_pm [0, 1, 2, 3, 5] (lv' := [(0, .ref (G.2.2 i0)), (1, .int v1), (2, .int v2), (3, .int v3), (5, .int v5)]) rfl ?_
        exact wX4_lentHoursIn_b35 C ih hk0 hf
set_option maxHeartbeats 4000000 in
set_option maxRecDepth 100000 in
theorem wX4_lentHoursIn_b0 (C : CT p s m args meth c cX4_lentHoursIn 6 RX4 (some (.int)) G (pA G s.heap.size)) {i0 : Nat} {v1 : Int32} {v2 : Int32} {v3 : Int32} {x : xS}  {r : Int32} (hk0 : KD G i0 4) (hf : fX4_lentHoursIn_b0 i0 v1 v2 v3 x  = some r) : WB p l e rX4_lentHoursIn s m args below meth c 6 G (pA G s.heap.size) (qI below G (r, x) args s 0 0) 0 0 0 [(0, .ref (G.2.2 i0)), (1, .int v1), (2, .int v2), (3, .int v3)] [] x := by
  unfold fX4_lentHoursIn_b0 at hf
  refine b_iconst (v := 0) C dX4_lentHoursIn_0 (by decide) ?_
  refine b_istore (lv' := [(4, .int 0), (0, .ref (G.2.2 i0)), (1, .int v1), (2, .int v2), (3, .int v3)]) C dX4_lentHoursIn_1 (by decide) rfl ?_
  refine b_iload_n C dX4_lentHoursIn_3 rfl 3 rfl ?_
  refine b_istore (lv' := [(5, .int v2), (4, .int 0), (0, .ref (G.2.2 i0)), (1, .int v1), (2, .int v2), (3, .int v3)]) C dX4_lentHoursIn_4 (by decide) rfl ?_
  refine b_pm [2, 3, 4, 5, 1, 0] (lv' := [(0, .ref (G.2.2 i0)), (1, .int v1), (2, .int v2), (3, .int v3), (4, .int 0), (5, .int v2)]) rfl ?_
  exact wX4_lentHoursIn_b6 C  hk0 FU _ _ hf
end
theorem metX4_lentHoursIn (l : Launch) (G : gT) (i0 : Nat) (v1 : Int32) (v2 : Int32) (v3 : Int32) (x : xS) (r : Int32) (hk0 : KD G i0 4) (hf : fX4_lentHoursIn i0 v1 v2 v3 x = some r) : cI l yX4_lentHoursIn cX4_lentHoursIn 6 (.int) rX4_lentHoursIn [.ref (G.2.2 i0), .int v1, .int v2, .int v3] G x (r, x) :=
  b_body (by decide) (Nat.le_of_ble_eq_true rfl) rfl (fun p e s m args below meth c C => wX4_lentHoursIn_b0 C hk0 hf)
-- X4_leastLentBed
abbrev rX4_leastLentBed : Room := { frames := 2, cells := 0, slots := 0, locals := 47 }
def fX4_leastLentBed_b32 (k5 : Int32 → Int32 → Option Int32) (i0 : Nat) (v1 : Int32) (v2 : Int32) (x : xS) (v3 : Int32) (v4 : Int32) : Option Int32 :=
  k5 v3 (v4 + 1)
def fX4_leastLentBed_b5 (i0 : Nat) (v1 : Int32) (v2 : Int32) (x : xS) : Nat → Int32 → Int32 → Option Int32
  | 0, _, _ => none
  | n + 1, v3, v4 => (if (4 : Int32) ≤ v4 then
  some v3
  else
  Option.bind (fX4_lentHoursIn i0 v4 v1 v2 x) (fun r16 =>
  Option.bind (fX4_lentHoursIn i0 v3 v1 v2 x) (fun r23 =>
  (if r23 ≤ r16 then
  fX4_leastLentBed_b32 (fX4_leastLentBed_b5 i0 v1 v2 x n) i0 v1 v2 x v3 v4
  else
  fX4_leastLentBed_b32 (fX4_leastLentBed_b5 i0 v1 v2 x n) i0 v1 v2 x v4 v4))))
def fX4_leastLentBed_b0 (i0 : Nat) (v1 : Int32) (v2 : Int32) (x : xS)  : Option Int32 :=
  fX4_leastLentBed_b5 i0 v1 v2 x FU 0 1
def fX4_leastLentBed (i0 : Nat) (v1 : Int32) (v2 : Int32) (x : xS) : Option Int32 := fX4_leastLentBed_b0 i0 v1 v2 x
section
variable {p : Program} {l : Launch} {e : Env} {R : Room} {s : State} {m : MethodId} {args : Array Value} {below : List Frame} {meth : Method} {c : Code} {G : gT}
set_option maxHeartbeats 4000000 in
set_option maxRecDepth 100000 in
theorem wX4_leastLentBed_b32 (C : CT p s m args meth c cX4_leastLentBed 5 RX4 (some (.int)) G (pA G s.heap.size)) {k5 : Int32 → Int32 → Option Int32} {i0 : Nat} {v1 : Int32} {v2 : Int32} {x : xS} {v3 : Int32} {v4 : Int32} {r : Int32} (h5 : ∀ (v3 : Int32) (v4 : Int32), k5 v3 v4 = some r → WB p l e rX4_leastLentBed s m args below meth c 5 G (pA G s.heap.size) (qI below G (r, x) args s 0 0) 0 0 5 [(0, .ref (G.2.2 i0)), (1, .int v1), (2, .int v2), (3, .int v3), (4, .int v4)] [] x) (hk0 : KD G i0 4) (hf : fX4_leastLentBed_b32 k5 i0 v1 v2 x v3 v4 = some r) : WB p l e rX4_leastLentBed s m args below meth c 5 G (pA G s.heap.size) (qI below G (r, x) args s 0 0) 0 0 32 [(0, .ref (G.2.2 i0)), (1, .int v1), (2, .int v2), (3, .int v3), (4, .int v4)] [] x := by
  unfold fX4_leastLentBed_b32 at hf
  refine b_iinc (q := 4) (v' := (v4 + 1)) (lv' := [(4, .int (v4 + 1)), (0, .ref (G.2.2 i0)), (1, .int v1), (2, .int v2), (3, .int v3)]) C dX4_leastLentBed_32 rfl rfl (by decide) rfl ?_
  refine b_goto (tgt := 5) C dX4_leastLentBed_35 (by decide) ?_
  refine b_pm [1, 2, 3, 4, 0] (lv' := [(0, .ref (G.2.2 i0)), (1, .int v1), (2, .int v2), (3, .int v3), (4, .int (v4 + 1))]) rfl ?_
  exact h5 _ _ hf
set_option maxHeartbeats 4000000 in
set_option maxRecDepth 100000 in
theorem wX4_leastLentBed_b5 (C : CT p s m args meth c cX4_leastLentBed 5 RX4 (some (.int)) G (pA G s.heap.size)) {i0 : Nat} {v1 : Int32} {v2 : Int32} {x : xS} {r : Int32} (hk0 : KD G i0 4) : ∀ (n : Nat) (v3 : Int32) (v4 : Int32), fX4_leastLentBed_b5 i0 v1 v2 x n v3 v4 = some r → WB p l e rX4_leastLentBed s m args below meth c 5 G (pA G s.heap.size) (qI below G (r, x) args s 0 0) 0 0 5 [(0, .ref (G.2.2 i0)), (1, .int v1), (2, .int v2), (3, .int v3), (4, .int v4)] [] x := by
  intro n
  induction n with
  | zero =>
    intro v3 v4 hf
    cases hf
  | succ n ih =>
    intro v3 v4 hf
    rw [fX4_leastLentBed_b5] at hf
    refine b_iload C dX4_leastLentBed_5 4 rfl ?_
    refine b_iconst (v := 4) C dX4_leastLentBed_7 (by decide) ?_
    refine b_icmp_ge (tgt := 38) C dX4_leastLentBed_8 (by decide) (fun c8 => ?_) (fun c8 => ?_)
    · have hf := iT c8 hf
      refine b_iload_n C dX4_leastLentBed_38 rfl 3 rfl ?_
      exact b_ireti C dX4_leastLentBed_39 (congrArg (Option.map (fun q => (q, x))) hf)
    · have hf := iF c8 hf
      refine b_aload_n C dX4_leastLentBed_11 rfl 0 rfl ?_
      refine b_iload C dX4_leastLentBed_12 4 rfl ?_
      refine b_iload_n C dX4_leastLentBed_14 rfl 1 rfl ?_
      refine b_iload_n C dX4_leastLentBed_15 rfl 2 rfl ?_
      obtain ⟨r16, c16, hf⟩ := oB hf
      refine b_callVi (K := 4) (As := [.int v4, .int v1, .int v2]) (res := (r16, x)) C (metX4_lentHoursIn l G _ _ _ _ _ _ hk0 c16) hk0 (by decide) rfl gkX4_52 ekX4_52 rfl ⟨rfl, rfl⟩ ⟨Nat.le_of_ble_eq_true rfl, Nat.le_of_ble_eq_true rfl⟩ (by simp [Value.category]) ⟨Nat.zero_le _, Nat.zero_le _⟩ rfl dX4_leastLentBed_16 ?_
      refine b_aload_n C dX4_leastLentBed_19 rfl 0 rfl ?_
      refine b_iload_n C dX4_leastLentBed_20 rfl 3 rfl ?_
      refine b_iload_n C dX4_leastLentBed_21 rfl 1 rfl ?_
      refine b_iload_n C dX4_leastLentBed_22 rfl 2 rfl ?_
      obtain ⟨r23, c23, hf⟩ := oB hf
      refine b_callVi (K := 4) (As := [.int v3, .int v1, .int v2]) (res := (r23, x)) C (metX4_lentHoursIn l G _ _ _ _ _ _ hk0 c23) hk0 (by decide) rfl gkX4_52 ekX4_52 rfl ⟨rfl, rfl⟩ ⟨Nat.le_of_ble_eq_true rfl, Nat.le_of_ble_eq_true rfl⟩ (by simp [Value.category]) ⟨Nat.zero_le _, Nat.zero_le _⟩ rfl dX4_leastLentBed_23 ?_
      refine b_icmp_ge (tgt := 32) C dX4_leastLentBed_26 (by decide) (fun c26 => ?_) (fun c26 => ?_)
      · have hf := iT c26 hf
        exact wX4_leastLentBed_b32 C ih hk0 hf
      · have hf := iF c26 hf
        refine b_iload C dX4_leastLentBed_29 4 rfl ?_
        refine b_istore_n (lv' := [(3, .int v4), (0, .ref (G.2.2 i0)), (1, .int v1), (2, .int v2), (4, .int v4)]) C dX4_leastLentBed_31 rfl (by decide) rfl ?_
        refine b_pm [1, 2, 3, 0, 4] (lv' := [(0, .ref (G.2.2 i0)), (1, .int v1), (2, .int v2), (3, .int v4), (4, .int v4)]) rfl ?_
        exact wX4_leastLentBed_b32 C ih hk0 hf
set_option maxHeartbeats 4000000 in
set_option maxRecDepth 100000 in
theorem wX4_leastLentBed_b0 (C : CT p s m args meth c cX4_leastLentBed 5 RX4 (some (.int)) G (pA G s.heap.size)) {i0 : Nat} {v1 : Int32} {v2 : Int32} {x : xS}  {r : Int32} (hk0 : KD G i0 4) (hf : fX4_leastLentBed_b0 i0 v1 v2 x  = some r) : WB p l e rX4_leastLentBed s m args below meth c 5 G (pA G s.heap.size) (qI below G (r, x) args s 0 0) 0 0 0 [(0, .ref (G.2.2 i0)), (1, .int v1), (2, .int v2)] [] x := by
  unfold fX4_leastLentBed_b0 at hf
  refine b_iconst (v := 0) C dX4_leastLentBed_0 (by decide) ?_
  refine b_istore_n (lv' := [(3, .int 0), (0, .ref (G.2.2 i0)), (1, .int v1), (2, .int v2)]) C dX4_leastLentBed_1 rfl (by decide) rfl ?_
  refine b_iconst (v := 1) C dX4_leastLentBed_2 (by decide) ?_
  refine b_istore (lv' := [(4, .int 1), (3, .int 0), (0, .ref (G.2.2 i0)), (1, .int v1), (2, .int v2)]) C dX4_leastLentBed_3 (by decide) rfl ?_
  refine b_pm [2, 3, 4, 1, 0] (lv' := [(0, .ref (G.2.2 i0)), (1, .int v1), (2, .int v2), (3, .int 0), (4, .int 1)]) rfl ?_
  exact wX4_leastLentBed_b5 C  hk0 FU _ _ hf
end
theorem metX4_leastLentBed (l : Launch) (G : gT) (i0 : Nat) (v1 : Int32) (v2 : Int32) (x : xS) (r : Int32) (hk0 : KD G i0 4) (hf : fX4_leastLentBed i0 v1 v2 x = some r) : cI l yX4_leastLentBed cX4_leastLentBed 5 (.int) rX4_leastLentBed [.ref (G.2.2 i0), .int v1, .int v2] G x (r, x) :=
  b_body (by decide) (Nat.le_of_ble_eq_true rfl) rfl (fun p e s m args below meth c C => wX4_leastLentBed_b0 C hk0 hf)
-- X3_hasTooLittleNeed
abbrev rX3_hasTooLittleNeed : Room := { frames := 1, cells := 0, slots := 0, locals := 22 }
def fX3_hasTooLittleNeed_b0 (i0 : Nat) (v1 : Int32) (x : xS)  : Option Int32 :=
  Option.bind (fX2_get (i0 + 4) v1 0 x) (fun r6 =>
  Option.bind (fX2_get (i0 + 6) 0 9 x) (fun r16 =>
  (if r16 ≤ r6 then
  some 0
  else
  some 1)))
def fX3_hasTooLittleNeed (i0 : Nat) (v1 : Int32) (x : xS) : Option Int32 := fX3_hasTooLittleNeed_b0 i0 v1 x
section
variable {p : Program} {l : Launch} {e : Env} {R : Room} {s : State} {m : MethodId} {args : Array Value} {below : List Frame} {meth : Method} {c : Code} {G : gT}
set_option maxHeartbeats 4000000 in
set_option maxRecDepth 100000 in
theorem wX3_hasTooLittleNeed_b0 (C : CT p s m args meth c cX3_hasTooLittleNeed 2 RX3 (some (.boolean)) G (pA G s.heap.size)) {i0 : Nat} {v1 : Int32} {x : xS}  {r : Int32} (hk0 : KD G i0 3) (hf : fX3_hasTooLittleNeed_b0 i0 v1 x  = some r) : WB p l e rX3_hasTooLittleNeed s m args below meth c 2 G (pA G s.heap.size) (qI below G (r, x) args s 0 0) 0 0 0 [(0, .ref (G.2.2 i0)), (1, .int v1)] [] x := by
  unfold fX3_hasTooLittleNeed_b0 at hf
  refine b_aload_n C dX3_hasTooLittleNeed_0 rfl 0 rfl ?_
  refine gfX3_23 C hk0 dX3_hasTooLittleNeed_1 ?_
  refine b_iload_n C dX3_hasTooLittleNeed_4 rfl 1 rfl ?_
  refine b_iconst (v := 0) C dX3_hasTooLittleNeed_5 (by decide) ?_
  obtain ⟨r6, c6, hf⟩ := oB hf
  refine b_callVi (K := 2) (As := [.int v1, .int 0]) (res := (r6, x)) C (metX2_get l G _ _ _ _ _ ((kd3 C.cl hk0).2.1) c6) ((kd3 C.cl hk0).2.1) (by decide) rfl gkX3_51 ekX3_51 rfl ⟨rfl, rfl⟩ ⟨Nat.le_of_ble_eq_true rfl, Nat.le_of_ble_eq_true rfl⟩ (by simp [Value.category]) ⟨Nat.zero_le _, Nat.zero_le _⟩ rfl dX3_hasTooLittleNeed_6 ?_
  refine b_aload_n C dX3_hasTooLittleNeed_9 rfl 0 rfl ?_
  refine gfX3_27 C hk0 dX3_hasTooLittleNeed_10 ?_
  refine b_iconst (v := 0) C dX3_hasTooLittleNeed_13 (by decide) ?_
  refine b_bipush (v := 9) C dX3_hasTooLittleNeed_14 (by decide) ?_
  obtain ⟨r16, c16, hf⟩ := oB hf
  refine b_callVi (K := 2) (As := [.int 0, .int 9]) (res := (r16, x)) C (metX2_get l G _ _ _ _ _ ((kd3 C.cl hk0).2.2.1) c16) ((kd3 C.cl hk0).2.2.1) (by decide) rfl gkX3_51 ekX3_51 rfl ⟨rfl, rfl⟩ ⟨Nat.le_of_ble_eq_true rfl, Nat.le_of_ble_eq_true rfl⟩ (by simp [Value.category]) ⟨Nat.zero_le _, Nat.zero_le _⟩ rfl dX3_hasTooLittleNeed_16 ?_
  refine b_icmp_ge (tgt := 26) C dX3_hasTooLittleNeed_19 (by decide) (fun c19 => ?_) (fun c19 => ?_)
  · have hf := iT c19 hf
    refine b_iconst (v := 0) C dX3_hasTooLittleNeed_26 (by decide) ?_
    exact b_iretz C (by decide) dX3_hasTooLittleNeed_27 (congrArg (Option.map (fun q => (q, x))) hf)
  · have hf := iF c19 hf
    refine b_iconst (v := 1) C dX3_hasTooLittleNeed_22 (by decide) ?_
    refine b_goto (tgt := 27) C dX3_hasTooLittleNeed_23 (by decide) ?_
    exact b_iretz C (by decide) dX3_hasTooLittleNeed_27 (congrArg (Option.map (fun q => (q, x))) hf)
end
theorem metX3_hasTooLittleNeed (l : Launch) (G : gT) (i0 : Nat) (v1 : Int32) (x : xS) (r : Int32) (hk0 : KD G i0 3) (hf : fX3_hasTooLittleNeed i0 v1 x = some r) : cI l yX3_hasTooLittleNeed cX3_hasTooLittleNeed 2 (.boolean) rX3_hasTooLittleNeed [.ref (G.2.2 i0), .int v1] G x (r, x) :=
  b_body (by decide) (Nat.le_of_ble_eq_true rfl) rfl (fun p e s m args below meth c C => wX3_hasTooLittleNeed_b0 C hk0 hf)
-- X3_answerTo
abbrev rX3_answerTo : Room := { frames := 3, cells := 0, slots := 0, locals := 71 }
def fX3_answerTo_b94 (i0 : Nat) (x : xS) (v5 : Int32) : Option Int32 :=
  some (10 + v5)
def fX3_answerTo_b62 (i0 : Nat) (v2 : Int32) (v3 : Int32) (x : xS) (v4 : Int32) : Option Int32 :=
  Option.bind (fX4_leastLentBed (i0 + 1) v2 v3 x) (fun r68 =>
  (if v4 = 0 then
  Option.bind (fX4_lentHoursIn (i0 + 1) r68 v2 v3 x) (fun r86 =>
  (if r86 ≤ 0 then
  fX3_answerTo_b94 i0 x r68
  else
  some 4))
  else
  fX3_answerTo_b94 i0 x r68))
def fX3_answerTo_b0 (i0 : Nat) (v1 : Int32) (v2 : Int32) (v3 : Int32) (x : xS)  : Option Int32 :=
  Option.bind (fX4_wentBy (i0 + 1) v2 x) (fun r5 =>
  (if r5 = 0 then
  Option.bind (fX4_hoursWithBed (i0 + 1) v1 v2 v3 x) (fun r20 =>
  (if r20 ≤ 0 then
  Option.bind (fX3_isEighth i0 v1 x) (fun r30 =>
  (if r30 = 0 then
  Option.bind (fX3_hasTooLittleNeed i0 v1 x) (fun r42 =>
  (if r42 = 0 then
  fX3_answerTo_b62 i0 v2 v3 x r30
  else
  Option.bind (fX2_get (i0 + 4) v1 2 x) (fun r54 =>
  (if r54 = 0 then
  some 3
  else
  fX3_answerTo_b62 i0 v2 v3 x r30))))
  else
  fX3_answerTo_b62 i0 v2 v3 x r30))
  else
  some 2))
  else
  some 1))
def fX3_answerTo (i0 : Nat) (v1 : Int32) (v2 : Int32) (v3 : Int32) (x : xS) : Option Int32 := fX3_answerTo_b0 i0 v1 v2 v3 x
section
variable {p : Program} {l : Launch} {e : Env} {R : Room} {s : State} {m : MethodId} {args : Array Value} {below : List Frame} {meth : Method} {c : Code} {G : gT}
set_option maxHeartbeats 4000000 in
set_option maxRecDepth 100000 in
theorem wX3_answerTo_b94 (C : CT p s m args meth c cX3_answerTo 6 RX3 (some (.int)) G (pA G s.heap.size)) {i0 : Nat} {x : xS} {v5 : Int32} {r : Int32} (hk0 : KD G i0 3) (hf : fX3_answerTo_b94 i0 x v5 = some r) : WB p l e rX3_answerTo s m args below meth c 6 G (pA G s.heap.size) (qI below G (r, x) args s 0 0) 0 0 94 [(0, .ref (G.2.2 i0)), (5, .int v5)] [] x := by
  unfold fX3_answerTo_b94 at hf
  refine b_bipush (v := 10) C dX3_answerTo_94 (by decide) ?_
  refine b_iload C dX3_answerTo_96 1 rfl ?_
  refine b_iadd C dX3_answerTo_98 ?_
  exact b_ireti C dX3_answerTo_99 (congrArg (Option.map (fun q => (q, x))) hf)
set_option maxHeartbeats 4000000 in
set_option maxRecDepth 100000 in
theorem wX3_answerTo_b62 (C : CT p s m args meth c cX3_answerTo 6 RX3 (some (.int)) G (pA G s.heap.size)) {i0 : Nat} {v2 : Int32} {v3 : Int32} {x : xS} {v4 : Int32} {r : Int32} (hk0 : KD G i0 3) (hf : fX3_answerTo_b62 i0 v2 v3 x v4 = some r) : WB p l e rX3_answerTo s m args below meth c 6 G (pA G s.heap.size) (qI below G (r, x) args s 0 0) 0 0 62 [(0, .ref (G.2.2 i0)), (2, .int v2), (3, .int v3), (4, .int v4)] [] x := by
  unfold fX3_answerTo_b62 at hf
  refine b_aload_n C dX3_answerTo_62 rfl 0 rfl ?_
  refine gfX3_12 C hk0 dX3_answerTo_63 ?_
  refine b_iload_n C dX3_answerTo_66 rfl 1 rfl ?_
  refine b_iload_n C dX3_answerTo_67 rfl 2 rfl ?_
  obtain ⟨r68, c68, hf⟩ := oB hf
  refine b_callVi (K := 4) (As := [.int v2, .int v3]) (res := (r68, x)) C (metX4_leastLentBed l G _ _ _ _ _ ((kd3 C.cl hk0).1) c68) ((kd3 C.cl hk0).1) (by decide) rfl gkX3_75 ekX3_75 rfl ⟨rfl, rfl⟩ ⟨Nat.le_of_ble_eq_true rfl, Nat.le_of_ble_eq_true rfl⟩ (by simp [Value.category]) ⟨Nat.zero_le _, Nat.zero_le _⟩ rfl dX3_answerTo_68 ?_
  refine b_istore (lv' := [(5, .int r68), (0, .ref (G.2.2 i0)), (2, .int v2), (3, .int v3), (4, .int v4)]) C dX3_answerTo_71 (by decide) rfl ?_
  refine b_iload C dX3_answerTo_73 4 rfl ?_
  refine b_if_ne (tgt := 94) C dX3_answerTo_75 (by decide) (fun c75 => ?_) (fun c75 => ?_)
  · have hf := iF c75 hf
    refine b_pm [1, 0] (lv' := [(0, .ref (G.2.2 i0)), (5, .int r68)]) rfl ?_
    exact wX3_answerTo_b94 C  hk0 hf
  · have hf := iT c75 hf
    refine b_aload_n C dX3_answerTo_78 rfl 1 rfl ?_
    refine gfX3_12 C hk0 dX3_answerTo_79 ?_
    refine b_iload C dX3_answerTo_82 0 rfl ?_
    refine b_iload_n C dX3_answerTo_84 rfl 2 rfl ?_
    refine b_iload_n C dX3_answerTo_85 rfl 3 rfl ?_
    obtain ⟨r86, c86, hf⟩ := oB hf
    refine b_callVi (K := 4) (As := [.int r68, .int v2, .int v3]) (res := (r86, x)) C (metX4_lentHoursIn l G _ _ _ _ _ _ ((kd3 C.cl hk0).1) c86) ((kd3 C.cl hk0).1) (by decide) rfl gkX3_78 ekX3_78 rfl ⟨rfl, rfl⟩ ⟨Nat.le_of_ble_eq_true rfl, Nat.le_of_ble_eq_true rfl⟩ (by simp [Value.category]) ⟨Nat.zero_le _, Nat.zero_le _⟩ rfl dX3_answerTo_86 ?_
    refine b_if_le (tgt := 94) C dX3_answerTo_89 (by decide) (fun c89 => ?_) (fun c89 => ?_)
    · have hf := iT c89 hf
      refine b_pm [1, 0] (lv' := [(0, .ref (G.2.2 i0)), (5, .int r68)]) rfl ?_
      exact wX3_answerTo_b94 C  hk0 hf
    · have hf := iF c89 hf
      refine b_iconst (v := 4) C dX3_answerTo_92 (by decide) ?_
      exact b_ireti C dX3_answerTo_93 (congrArg (Option.map (fun q => (q, x))) hf)
set_option maxHeartbeats 4000000 in
set_option maxRecDepth 100000 in
theorem wX3_answerTo_b0 (C : CT p s m args meth c cX3_answerTo 6 RX3 (some (.int)) G (pA G s.heap.size)) {i0 : Nat} {v1 : Int32} {v2 : Int32} {v3 : Int32} {x : xS}  {r : Int32} (hk0 : KD G i0 3) (hf : fX3_answerTo_b0 i0 v1 v2 v3 x  = some r) : WB p l e rX3_answerTo s m args below meth c 6 G (pA G s.heap.size) (qI below G (r, x) args s 0 0) 0 0 0 [(0, .ref (G.2.2 i0)), (1, .int v1), (2, .int v2), (3, .int v3)] [] x := by
  unfold fX3_answerTo_b0 at hf
  refine b_aload_n C dX3_answerTo_0 rfl 0 rfl ?_
  refine gfX3_12 C hk0 dX3_answerTo_1 ?_
  refine b_iload_n C dX3_answerTo_4 rfl 2 rfl ?_
  obtain ⟨r5, c5, hf⟩ := oB hf
  refine b_callVi (K := 4) (As := [.int v2]) (res := (r5, x)) C (metX4_wentBy l G _ _ _ _ ((kd3 C.cl hk0).1) c5) ((kd3 C.cl hk0).1) (by decide) rfl gkX3_65 ekX3_65 rfl ⟨rfl, rfl⟩ ⟨Nat.le_of_ble_eq_true rfl, Nat.le_of_ble_eq_true rfl⟩ (by simp [Value.category]) ⟨Nat.zero_le _, Nat.zero_le _⟩ rfl dX3_answerTo_5 ?_
  refine b_if_eq (tgt := 13) C dX3_answerTo_8 (by decide) (fun c8 => ?_) (fun c8 => ?_)
  · have hf := iT c8 hf
    refine b_aload_n C dX3_answerTo_13 rfl 0 rfl ?_
    refine gfX3_12 C hk0 dX3_answerTo_14 ?_
    refine b_iload_n C dX3_answerTo_17 rfl 1 rfl ?_
    refine b_iload_n C dX3_answerTo_18 rfl 2 rfl ?_
    refine b_iload_n C dX3_answerTo_19 rfl 3 rfl ?_
    obtain ⟨r20, c20, hf⟩ := oB hf
    refine b_callVi (K := 4) (As := [.int v1, .int v2, .int v3]) (res := (r20, x)) C (metX4_hoursWithBed l G _ _ _ _ _ _ ((kd3 C.cl hk0).1) c20) ((kd3 C.cl hk0).1) (by decide) rfl gkX3_55 ekX3_55 rfl ⟨rfl, rfl⟩ ⟨Nat.le_of_ble_eq_true rfl, Nat.le_of_ble_eq_true rfl⟩ (by simp [Value.category]) ⟨Nat.zero_le _, Nat.zero_le _⟩ rfl dX3_answerTo_20 ?_
    refine b_if_le (tgt := 28) C dX3_answerTo_23 (by decide) (fun c23 => ?_) (fun c23 => ?_)
    · have hf := iT c23 hf
      refine b_aload_n C dX3_answerTo_28 rfl 0 rfl ?_
      refine b_iload_n C dX3_answerTo_29 rfl 1 rfl ?_
      obtain ⟨r30, c30, hf⟩ := oB hf
      refine b_callVi (K := 3) (As := [.int v1]) (res := (r30, x)) C (metX3_isEighth l G _ _ _ _ hk0 c30) hk0 (by decide) rfl gkX3_69 ekX3_69 rfl ⟨rfl, rfl⟩ ⟨Nat.le_of_ble_eq_true rfl, Nat.le_of_ble_eq_true rfl⟩ (by simp [Value.category]) ⟨Nat.zero_le _, Nat.zero_le _⟩ rfl dX3_answerTo_30 ?_
      refine b_istore (lv' := [(4, .int r30), (0, .ref (G.2.2 i0)), (1, .int v1), (2, .int v2), (3, .int v3)]) C dX3_answerTo_33 (by decide) rfl ?_
      refine b_iload C dX3_answerTo_35 0 rfl ?_
      refine b_if_ne (tgt := 62) C dX3_answerTo_37 (by decide) (fun c37 => ?_) (fun c37 => ?_)
      · have hf := iF c37 hf
        refine b_pm [1, 3, 4, 0] (lv' := [(0, .ref (G.2.2 i0)), (2, .int v2), (3, .int v3), (4, .int r30)]) rfl ?_
        exact wX3_answerTo_b62 C  hk0 hf
      · have hf := iT c37 hf
        refine b_aload_n C dX3_answerTo_40 rfl 1 rfl ?_
        refine b_iload_n C dX3_answerTo_41 rfl 2 rfl ?_
        obtain ⟨r42, c42, hf⟩ := oB hf
        refine b_callVi (K := 3) (As := [.int v1]) (res := (r42, x)) C (metX3_hasTooLittleNeed l G _ _ _ _ hk0 c42) hk0 (by decide) rfl gkX3_72 ekX3_72 rfl ⟨rfl, rfl⟩ ⟨Nat.le_of_ble_eq_true rfl, Nat.le_of_ble_eq_true rfl⟩ (by simp [Value.category]) ⟨Nat.zero_le _, Nat.zero_le _⟩ rfl dX3_answerTo_42 ?_
        refine b_if_eq (tgt := 62) C dX3_answerTo_45 (by decide) (fun c45 => ?_) (fun c45 => ?_)
        · have hf := iT c45 hf
          refine b_pm [1, 3, 4, 0] (lv' := [(0, .ref (G.2.2 i0)), (2, .int v2), (3, .int v3), (4, .int r30)]) rfl ?_
          exact wX3_answerTo_b62 C  hk0 hf
        · have hf := iF c45 hf
          refine b_aload_n C dX3_answerTo_48 rfl 1 rfl ?_
          refine gfX3_23 C hk0 dX3_answerTo_49 ?_
          refine b_iload_n C dX3_answerTo_52 rfl 2 rfl ?_
          refine b_iconst (v := 2) C dX3_answerTo_53 (by decide) ?_
          obtain ⟨r54, c54, hf⟩ := oB hf
          refine b_callVi (K := 2) (As := [.int v1, .int 2]) (res := (r54, x)) C (metX2_get l G _ _ _ _ _ ((kd3 C.cl hk0).2.1) c54) ((kd3 C.cl hk0).2.1) (by decide) rfl gkX3_51 ekX3_51 rfl ⟨rfl, rfl⟩ ⟨Nat.le_of_ble_eq_true rfl, Nat.le_of_ble_eq_true rfl⟩ (by simp [Value.category]) ⟨Nat.zero_le _, Nat.zero_le _⟩ rfl dX3_answerTo_54 ?_
          refine b_if_ne (tgt := 62) C dX3_answerTo_57 (by decide) (fun c57 => ?_) (fun c57 => ?_)
          · have hf := iF c57 hf
            refine b_pm [1, 3, 4, 0] (lv' := [(0, .ref (G.2.2 i0)), (2, .int v2), (3, .int v3), (4, .int r30)]) rfl ?_
            exact wX3_answerTo_b62 C  hk0 hf
          · have hf := iT c57 hf
            refine b_iconst (v := 3) C dX3_answerTo_60 (by decide) ?_
            exact b_ireti C dX3_answerTo_61 (congrArg (Option.map (fun q => (q, x))) hf)
    · have hf := iF c23 hf
      refine b_iconst (v := 2) C dX3_answerTo_26 (by decide) ?_
      exact b_ireti C dX3_answerTo_27 (congrArg (Option.map (fun q => (q, x))) hf)
  · have hf := iF c8 hf
    refine b_iconst (v := 1) C dX3_answerTo_11 (by decide) ?_
    exact b_ireti C dX3_answerTo_12 (congrArg (Option.map (fun q => (q, x))) hf)
end
theorem metX3_answerTo (l : Launch) (G : gT) (i0 : Nat) (v1 : Int32) (v2 : Int32) (v3 : Int32) (x : xS) (r : Int32) (hk0 : KD G i0 3) (hf : fX3_answerTo i0 v1 v2 v3 x = some r) : cI l yX3_answerTo cX3_answerTo 6 (.int) rX3_answerTo [.ref (G.2.2 i0), .int v1, .int v2, .int v3] G x (r, x) :=
  b_body (by decide) (Nat.le_of_ble_eq_true rfl) rfl (fun p e s m args below meth c C => wX3_answerTo_b0 C hk0 hf)
-- X3_canLetHourGo
abbrev rX3_canLetHourGo : Room := { frames := 1, cells := 0, slots := 0, locals := 22 }
def fX3_canLetHourGo_b0 (i0 : Nat) (x : xS)  : Option Int32 :=
  Option.bind (fX2_get (i0 + 6) 0 1 x) (fun r6 =>
  (if (999 : Int32) ≤ r6 then
  some 0
  else
  some 1))
def fX3_canLetHourGo (i0 : Nat) (x : xS) : Option Int32 := fX3_canLetHourGo_b0 i0 x
section
variable {p : Program} {l : Launch} {e : Env} {R : Room} {s : State} {m : MethodId} {args : Array Value} {below : List Frame} {meth : Method} {c : Code} {G : gT}
set_option maxHeartbeats 4000000 in
set_option maxRecDepth 100000 in
theorem wX3_canLetHourGo_b0 (C : CT p s m args meth c cX3_canLetHourGo 1 RX3 (some (.boolean)) G (pA G s.heap.size)) {i0 : Nat} {x : xS}  {r : Int32} (hk0 : KD G i0 3) (hf : fX3_canLetHourGo_b0 i0 x  = some r) : WB p l e rX3_canLetHourGo s m args below meth c 1 G (pA G s.heap.size) (qI below G (r, x) args s 0 0) 0 0 0 [(0, .ref (G.2.2 i0))] [] x := by
  unfold fX3_canLetHourGo_b0 at hf
  refine b_aload_n C dX3_canLetHourGo_0 rfl 0 rfl ?_
  refine gfX3_27 C hk0 dX3_canLetHourGo_1 ?_
  refine b_iconst (v := 0) C dX3_canLetHourGo_4 (by decide) ?_
  refine b_iconst (v := 1) C dX3_canLetHourGo_5 (by decide) ?_
  obtain ⟨r6, c6, hf⟩ := oB hf
  refine b_callVi (K := 2) (As := [.int 0, .int 1]) (res := (r6, x)) C (metX2_get l G _ _ _ _ _ ((kd3 C.cl hk0).2.2.1) c6) ((kd3 C.cl hk0).2.2.1) (by decide) rfl gkX3_51 ekX3_51 rfl ⟨rfl, rfl⟩ ⟨Nat.le_of_ble_eq_true rfl, Nat.le_of_ble_eq_true rfl⟩ (by simp [Value.category]) ⟨Nat.zero_le _, Nat.zero_le _⟩ rfl dX3_canLetHourGo_6 ?_
  refine b_sipush (v := 999) C dX3_canLetHourGo_9 (by decide) ?_
  refine b_icmp_ge (tgt := 19) C dX3_canLetHourGo_12 (by decide) (fun c12 => ?_) (fun c12 => ?_)
  · have hf := iT c12 hf
    refine b_iconst (v := 0) C dX3_canLetHourGo_19 (by decide) ?_
    exact b_iretz C (by decide) dX3_canLetHourGo_20 (congrArg (Option.map (fun q => (q, x))) hf)
  · have hf := iF c12 hf
    refine b_iconst (v := 1) C dX3_canLetHourGo_15 (by decide) ?_
    refine b_goto (tgt := 20) C dX3_canLetHourGo_16 (by decide) ?_
    exact b_iretz C (by decide) dX3_canLetHourGo_20 (congrArg (Option.map (fun q => (q, x))) hf)
end
theorem metX3_canLetHourGo (l : Launch) (G : gT) (i0 : Nat) (x : xS) (r : Int32) (hk0 : KD G i0 3) (hf : fX3_canLetHourGo i0 x = some r) : cI l yX3_canLetHourGo cX3_canLetHourGo 1 (.boolean) rX3_canLetHourGo [.ref (G.2.2 i0)] G x (r, x) :=
  b_body (by decide) (Nat.le_of_ble_eq_true rfl) rfl (fun p e s m args below meth c C => wX3_canLetHourGo_b0 C hk0 hf)
-- X3_changeNeed
abbrev rX3_changeNeed : Room := { frames := 1, cells := 0, slots := 0, locals := 23 }
def fX3_changeNeed_b0 (i0 : Nat) (v1 : Int32) (v2 : Int32) (x : xS) : Option (Int32 × xS) :=
  Option.bind (fX2_get (i0 + 4) v1 0 x) (fun r6 =>
  Option.bind (fX2_put (i0 + 4) v1 0 v2 x) (fun r17 =>
  some (r6, r17)))
def fX3_changeNeed (i0 : Nat) (v1 : Int32) (v2 : Int32) (x : xS) : Option (Int32 × xS) := fX3_changeNeed_b0 i0 v1 v2 x
section
variable {p : Program} {l : Launch} {e : Env} {R : Room} {s : State} {m : MethodId} {args : Array Value} {below : List Frame} {meth : Method} {c : Code} {G : gT}
set_option maxHeartbeats 4000000 in
set_option maxRecDepth 100000 in
theorem wX3_changeNeed_b0 (C : CT p s m args meth c cX3_changeNeed 4 RX3 (some (.int)) G (pA G s.heap.size)) {i0 : Nat} {v1 : Int32} {v2 : Int32} {x : xS} {r : (Int32 × xS)} (hk0 : KD G i0 3) (hf : fX3_changeNeed_b0 i0 v1 v2 x = some r) : WB p l e rX3_changeNeed s m args below meth c 4 G (pA G s.heap.size) (qI below G r args s 0 0) 0 0 0 [(0, .ref (G.2.2 i0)), (1, .int v1), (2, .int v2)] [] x := by
  unfold fX3_changeNeed_b0 at hf
  refine b_aload_n C dX3_changeNeed_0 rfl 0 rfl ?_
  refine gfX3_23 C hk0 dX3_changeNeed_1 ?_
  refine b_iload_n C dX3_changeNeed_4 rfl 1 rfl ?_
  refine b_iconst (v := 0) C dX3_changeNeed_5 (by decide) ?_
  obtain ⟨r6, c6, hf⟩ := oB hf
  refine b_callVi (K := 2) (As := [.int v1, .int 0]) (res := (r6, x)) C (metX2_get l G _ _ _ _ _ ((kd3 C.cl hk0).2.1) c6) ((kd3 C.cl hk0).2.1) (by decide) rfl gkX3_51 ekX3_51 rfl ⟨rfl, rfl⟩ ⟨Nat.le_of_ble_eq_true rfl, Nat.le_of_ble_eq_true rfl⟩ (by simp [Value.category]) ⟨Nat.zero_le _, Nat.zero_le _⟩ rfl dX3_changeNeed_6 ?_
  refine b_istore_n (lv' := [(3, .int r6), (0, .ref (G.2.2 i0)), (1, .int v1), (2, .int v2)]) C dX3_changeNeed_9 rfl (by decide) rfl ?_
  refine b_aload_n C dX3_changeNeed_10 rfl 1 rfl ?_
  refine gfX3_23 C hk0 dX3_changeNeed_11 ?_
  refine b_iload_n C dX3_changeNeed_14 rfl 2 rfl ?_
  refine b_iconst (v := 0) C dX3_changeNeed_15 (by decide) ?_
  refine b_iload_n C dX3_changeNeed_16 rfl 3 rfl ?_
  obtain ⟨r17, c17, hf⟩ := oB hf
  refine b_callVv (K := 2) (As := [.int v1, .int 0, .int v2]) (res := r17) C (metX2_put l G _ _ _ _ _ _ ((kd3 C.cl hk0).2.1) c17) ((kd3 C.cl hk0).2.1) (by decide) rfl gkX3_33 ekX3_33 rfl ⟨rfl, rfl⟩ ⟨Nat.le_of_ble_eq_true rfl, Nat.le_of_ble_eq_true rfl⟩ (by simp [Value.category]) ⟨Nat.zero_le _, Nat.zero_le _⟩ rfl dX3_changeNeed_17 ?_
  refine b_iload_n C dX3_changeNeed_20 rfl 0 rfl ?_
  exact b_ireti C dX3_changeNeed_21 hf
end
theorem metX3_changeNeed (l : Launch) (G : gT) (i0 : Nat) (v1 : Int32) (v2 : Int32) (x : xS) (r : (Int32 × xS)) (hk0 : KD G i0 3) (hf : fX3_changeNeed i0 v1 v2 x = some r) : cI l yX3_changeNeed cX3_changeNeed 4 (.int) rX3_changeNeed [.ref (G.2.2 i0), .int v1, .int v2] G x r :=
  b_body (by decide) (Nat.le_of_ble_eq_true rfl) rfl (fun p e s m args below meth c C => wX3_changeNeed_b0 C hk0 hf)
-- X3_changeSetting
abbrev rX3_changeSetting : Room := { frames := 1, cells := 0, slots := 0, locals := 23 }
def fX3_changeSetting_b0 (i0 : Nat) (v1 : Int32) (x : xS) : Option (Int32 × xS) :=
  Option.bind (fX2_get (i0 + 6) 0 9 x) (fun r7 =>
  Option.bind (fX2_put (i0 + 6) 0 9 v1 x) (fun r19 =>
  some (r7, r19)))
def fX3_changeSetting (i0 : Nat) (v1 : Int32) (x : xS) : Option (Int32 × xS) := fX3_changeSetting_b0 i0 v1 x
section
variable {p : Program} {l : Launch} {e : Env} {R : Room} {s : State} {m : MethodId} {args : Array Value} {below : List Frame} {meth : Method} {c : Code} {G : gT}
set_option maxHeartbeats 4000000 in
set_option maxRecDepth 100000 in
theorem wX3_changeSetting_b0 (C : CT p s m args meth c cX3_changeSetting 3 RX3 (some (.int)) G (pA G s.heap.size)) {i0 : Nat} {v1 : Int32} {x : xS} {r : (Int32 × xS)} (hk0 : KD G i0 3) (hf : fX3_changeSetting_b0 i0 v1 x = some r) : WB p l e rX3_changeSetting s m args below meth c 3 G (pA G s.heap.size) (qI below G r args s 0 0) 0 0 0 [(0, .ref (G.2.2 i0)), (1, .int v1)] [] x := by
  unfold fX3_changeSetting_b0 at hf
  refine b_aload_n C dX3_changeSetting_0 rfl 0 rfl ?_
  refine gfX3_27 C hk0 dX3_changeSetting_1 ?_
  refine b_iconst (v := 0) C dX3_changeSetting_4 (by decide) ?_
  refine b_bipush (v := 9) C dX3_changeSetting_5 (by decide) ?_
  obtain ⟨r7, c7, hf⟩ := oB hf
  refine b_callVi (K := 2) (As := [.int 0, .int 9]) (res := (r7, x)) C (metX2_get l G _ _ _ _ _ ((kd3 C.cl hk0).2.2.1) c7) ((kd3 C.cl hk0).2.2.1) (by decide) rfl gkX3_51 ekX3_51 rfl ⟨rfl, rfl⟩ ⟨Nat.le_of_ble_eq_true rfl, Nat.le_of_ble_eq_true rfl⟩ (by simp [Value.category]) ⟨Nat.zero_le _, Nat.zero_le _⟩ rfl dX3_changeSetting_7 ?_
  refine b_istore_n (lv' := [(2, .int r7), (0, .ref (G.2.2 i0)), (1, .int v1)]) C dX3_changeSetting_10 rfl (by decide) rfl ?_
  refine b_aload_n C dX3_changeSetting_11 rfl 1 rfl ?_
  refine gfX3_27 C hk0 dX3_changeSetting_12 ?_
  refine b_iconst (v := 0) C dX3_changeSetting_15 (by decide) ?_
  refine b_bipush (v := 9) C dX3_changeSetting_16 (by decide) ?_
  refine b_iload_n C dX3_changeSetting_18 rfl 2 rfl ?_
  obtain ⟨r19, c19, hf⟩ := oB hf
  refine b_callVv (K := 2) (As := [.int 0, .int 9, .int v1]) (res := r19) C (metX2_put l G _ _ _ _ _ _ ((kd3 C.cl hk0).2.2.1) c19) ((kd3 C.cl hk0).2.2.1) (by decide) rfl gkX3_33 ekX3_33 rfl ⟨rfl, rfl⟩ ⟨Nat.le_of_ble_eq_true rfl, Nat.le_of_ble_eq_true rfl⟩ (by simp [Value.category]) ⟨Nat.zero_le _, Nat.zero_le _⟩ rfl dX3_changeSetting_19 ?_
  refine b_iload_n C dX3_changeSetting_22 rfl 0 rfl ?_
  exact b_ireti C dX3_changeSetting_23 hf
end
theorem metX3_changeSetting (l : Launch) (G : gT) (i0 : Nat) (v1 : Int32) (x : xS) (r : (Int32 × xS)) (hk0 : KD G i0 3) (hf : fX3_changeSetting i0 v1 x = some r) : cI l yX3_changeSetting cX3_changeSetting 3 (.int) rX3_changeSetting [.ref (G.2.2 i0), .int v1] G x r :=
  b_body (by decide) (Nat.le_of_ble_eq_true rfl) rfl (fun p e s m args below meth c C => wX3_changeSetting_b0 C hk0 hf)
-- X4_copyFrom
abbrev rX4_copyFrom : Room := { frames := 2, cells := 0, slots := 0, locals := 61 }
def fX4_copyFrom_b0 (i0 : Nat) (i1 : Nat) (x : xS) : Option xS :=
  Option.bind (fX2_copyFrom (i0 + 1) (i1 + 1) x) (fun r8 =>
  lt1 (up1 r8 i0 1 (r8.1 i1 1)) (fun x16 =>
  some x16))
def fX4_copyFrom (i0 : Nat) (i1 : Nat) (x : xS) : Option xS := fX4_copyFrom_b0 i0 i1 x
section
variable {p : Program} {l : Launch} {e : Env} {R : Room} {s : State} {m : MethodId} {args : Array Value} {below : List Frame} {meth : Method} {c : Code} {G : gT}
set_option maxHeartbeats 4000000 in
set_option maxRecDepth 100000 in
theorem wX4_copyFrom_b0 (C : CT p s m args meth c cX4_copyFrom 2 RX4 none G (pA G s.heap.size)) {i0 : Nat} {i1 : Nat} {x : xS} {r : xS} (hk0 : KD G i0 4) (hk1 : KD G i1 4) (hf : fX4_copyFrom_b0 i0 i1 x = some r) : WB p l e rX4_copyFrom s m args below meth c 2 G (pA G s.heap.size) (qV below G r args s 0 0) 0 0 0 [(0, .ref (G.2.2 i0)), (1, .ref (G.2.2 i1))] [] x := by
  unfold fX4_copyFrom_b0 at hf
  refine b_aload_n C dX4_copyFrom_0 rfl 0 rfl ?_
  refine gfX4_14 C hk0 dX4_copyFrom_1 ?_
  refine b_aload_n C dX4_copyFrom_4 rfl 1 rfl ?_
  refine gfX4_14 C hk1 dX4_copyFrom_5 ?_
  obtain ⟨r8, c8, hf⟩ := oB hf
  refine b_callVv (K := 2) (As := [.ref (G.2.2 (i1 + 1))]) (res := r8) C (metX2_copyFrom l G _ _ _ _ (kd4 C.cl hk0) (kd4 C.cl hk1) c8) (kd4 C.cl hk0) (by decide) rfl gkX4_24 ekX4_24 rfl ⟨rfl, rfl⟩ ⟨Nat.le_of_ble_eq_true rfl, Nat.le_of_ble_eq_true rfl⟩ (by simp [Value.category]) ⟨Nat.zero_le _, Nat.zero_le _⟩ rfl dX4_copyFrom_8 ?_
  refine b_aload_n C dX4_copyFrom_11 rfl 0 rfl ?_
  refine b_aload_n C dX4_copyFrom_12 rfl 1 rfl ?_
  refine gfX4_28 C hk1 dX4_copyFrom_13 ?_
  obtain ⟨x16, e16, hf⟩ := lN1 hf
  refine pfX4_28 C hk0 dX4_copyFrom_16 e16 ?_
  exact b_vret C dX4_copyFrom_19 hf
end
theorem metX4_copyFrom (l : Launch) (G : gT) (i0 : Nat) (i1 : Nat) (x : xS) (r : xS) (hk0 : KD G i0 4) (hk1 : KD G i1 4) (hf : fX4_copyFrom i0 i1 x = some r) : cV l yX4_copyFrom cX4_copyFrom 2 rX4_copyFrom [.ref (G.2.2 i0), .ref (G.2.2 i1)] G x r :=
  b_body (by decide) (Nat.le_of_ble_eq_true rfl) rfl (fun p e s m args below meth c C => wX4_copyFrom_b0 C hk0 hk1 hf)
-- X3_copyFrom
abbrev rX3_copyFrom : Room := { frames := 3, cells := 0, slots := 0, locals := 82 }
def fX3_copyFrom_b0 (i0 : Nat) (i1 : Nat) (x : xS) : Option xS :=
  Option.bind (fX4_copyFrom (i0 + 1) (i1 + 1) x) (fun r8 =>
  Option.bind (fX2_copyFrom (i0 + 4) (i1 + 4) r8) (fun r19 =>
  Option.bind (fX2_copyFrom (i0 + 6) (i1 + 6) r19) (fun r30 =>
  Option.bind (fX2_copyFrom (i0 + 8) (i1 + 8) r30) (fun r41 =>
  some r41))))
def fX3_copyFrom (i0 : Nat) (i1 : Nat) (x : xS) : Option xS := fX3_copyFrom_b0 i0 i1 x
section
variable {p : Program} {l : Launch} {e : Env} {R : Room} {s : State} {m : MethodId} {args : Array Value} {below : List Frame} {meth : Method} {c : Code} {G : gT}
set_option maxHeartbeats 4000000 in
set_option maxRecDepth 100000 in
theorem wX3_copyFrom_b0 (C : CT p s m args meth c cX3_copyFrom 2 RX3 none G (pA G s.heap.size)) {i0 : Nat} {i1 : Nat} {x : xS} {r : xS} (hk0 : KD G i0 3) (hk1 : KD G i1 3) (hf : fX3_copyFrom_b0 i0 i1 x = some r) : WB p l e rX3_copyFrom s m args below meth c 2 G (pA G s.heap.size) (qV below G r args s 0 0) 0 0 0 [(0, .ref (G.2.2 i0)), (1, .ref (G.2.2 i1))] [] x := by
  unfold fX3_copyFrom_b0 at hf
  refine b_aload_n C dX3_copyFrom_0 rfl 0 rfl ?_
  refine gfX3_12 C hk0 dX3_copyFrom_1 ?_
  refine b_aload_n C dX3_copyFrom_4 rfl 1 rfl ?_
  refine gfX3_12 C hk1 dX3_copyFrom_5 ?_
  obtain ⟨r8, c8, hf⟩ := oB hf
  refine b_callVv (K := 4) (As := [.ref (G.2.2 (i1 + 1))]) (res := r8) C (metX4_copyFrom l G _ _ _ _ ((kd3 C.cl hk0).1) ((kd3 C.cl hk1).1) c8) ((kd3 C.cl hk0).1) (by decide) rfl gkX3_37 ekX3_37 rfl ⟨rfl, rfl⟩ ⟨Nat.le_of_ble_eq_true rfl, Nat.le_of_ble_eq_true rfl⟩ (by simp [Value.category]) ⟨Nat.zero_le _, Nat.zero_le _⟩ rfl dX3_copyFrom_8 ?_
  refine b_aload_n C dX3_copyFrom_11 rfl 0 rfl ?_
  refine gfX3_23 C hk0 dX3_copyFrom_12 ?_
  refine b_aload_n C dX3_copyFrom_15 rfl 1 rfl ?_
  refine gfX3_23 C hk1 dX3_copyFrom_16 ?_
  obtain ⟨r19, c19, hf⟩ := oB hf
  refine b_callVv (K := 2) (As := [.ref (G.2.2 (i1 + 4))]) (res := r19) C (metX2_copyFrom l G _ _ _ _ ((kd3 C.cl hk0).2.1) ((kd3 C.cl hk1).2.1) c19) ((kd3 C.cl hk0).2.1) (by decide) rfl gkX3_41 ekX3_41 rfl ⟨rfl, rfl⟩ ⟨Nat.le_of_ble_eq_true rfl, Nat.le_of_ble_eq_true rfl⟩ (by simp [Value.category]) ⟨Nat.zero_le _, Nat.zero_le _⟩ rfl dX3_copyFrom_19 ?_
  refine b_aload_n C dX3_copyFrom_22 rfl 0 rfl ?_
  refine gfX3_27 C hk0 dX3_copyFrom_23 ?_
  refine b_aload_n C dX3_copyFrom_26 rfl 1 rfl ?_
  refine gfX3_27 C hk1 dX3_copyFrom_27 ?_
  obtain ⟨r30, c30, hf⟩ := oB hf
  refine b_callVv (K := 2) (As := [.ref (G.2.2 (i1 + 6))]) (res := r30) C (metX2_copyFrom l G _ _ _ _ ((kd3 C.cl hk0).2.2.1) ((kd3 C.cl hk1).2.2.1) c30) ((kd3 C.cl hk0).2.2.1) (by decide) rfl gkX3_41 ekX3_41 rfl ⟨rfl, rfl⟩ ⟨Nat.le_of_ble_eq_true rfl, Nat.le_of_ble_eq_true rfl⟩ (by simp [Value.category]) ⟨Nat.zero_le _, Nat.zero_le _⟩ rfl dX3_copyFrom_30 ?_
  refine b_aload_n C dX3_copyFrom_33 rfl 0 rfl ?_
  refine gfX3_30 C hk0 dX3_copyFrom_34 ?_
  refine b_aload_n C dX3_copyFrom_37 rfl 1 rfl ?_
  refine gfX3_30 C hk1 dX3_copyFrom_38 ?_
  obtain ⟨r41, c41, hf⟩ := oB hf
  refine b_callVv (K := 2) (As := [.ref (G.2.2 (i1 + 8))]) (res := r41) C (metX2_copyFrom l G _ _ _ _ ((kd3 C.cl hk0).2.2.2) ((kd3 C.cl hk1).2.2.2) c41) ((kd3 C.cl hk0).2.2.2) (by decide) rfl gkX3_41 ekX3_41 rfl ⟨rfl, rfl⟩ ⟨Nat.le_of_ble_eq_true rfl, Nat.le_of_ble_eq_true rfl⟩ (by simp [Value.category]) ⟨Nat.zero_le _, Nat.zero_le _⟩ rfl dX3_copyFrom_41 ?_
  exact b_vret C dX3_copyFrom_44 hf
end
theorem metX3_copyFrom (l : Launch) (G : gT) (i0 : Nat) (i1 : Nat) (x : xS) (r : xS) (hk0 : KD G i0 3) (hk1 : KD G i1 3) (hf : fX3_copyFrom i0 i1 x = some r) : cV l yX3_copyFrom cX3_copyFrom 2 rX3_copyFrom [.ref (G.2.2 i0), .ref (G.2.2 i1)] G x r :=
  b_body (by decide) (Nat.le_of_ble_eq_true rfl) rfl (fun p e s m args below meth c C => wX3_copyFrom_b0 C hk0 hk1 hf)
-- X3_countRefusal
abbrev rX3_countRefusal : Room := { frames := 1, cells := 0, slots := 0, locals := 23 }
def fX3_countRefusal_b0 (i0 : Nat) (v1 : Int32) (x : xS) : Option xS :=
  Option.bind (fX2_get (i0 + 4) v1 1 x) (fun r6 =>
  lt1 (r6 + 1) (fun y11 => 
  Option.bind (fX2_put (i0 + 4) v1 1 (if y11 < (7 : Int32) then y11 else (7 : Int32)) x) (fun r24 =>
  some r24)))
def fX3_countRefusal (i0 : Nat) (v1 : Int32) (x : xS) : Option xS := fX3_countRefusal_b0 i0 v1 x
section
variable {p : Program} {l : Launch} {e : Env} {R : Room} {s : State} {m : MethodId} {args : Array Value} {below : List Frame} {meth : Method} {c : Code} {G : gT}
set_option maxHeartbeats 4000000 in
set_option maxRecDepth 100000 in
theorem wX3_countRefusal_b0 (C : CT p s m args meth c cX3_countRefusal 3 RX3 none G (pA G s.heap.size)) {i0 : Nat} {v1 : Int32} {x : xS} {r : xS} (hk0 : KD G i0 3) (hf : fX3_countRefusal_b0 i0 v1 x = some r) : WB p l e rX3_countRefusal s m args below meth c 3 G (pA G s.heap.size) (qV below G r args s 0 0) 0 0 0 [(0, .ref (G.2.2 i0)), (1, .int v1)] [] x := by
  unfold fX3_countRefusal_b0 at hf
  refine b_aload_n C dX3_countRefusal_0 rfl 0 rfl ?_
  refine gfX3_23 C hk0 dX3_countRefusal_1 ?_
  refine b_iload_n C dX3_countRefusal_4 rfl 1 rfl ?_
  refine b_iconst (v := 1) C dX3_countRefusal_5 (by decide) ?_
  obtain ⟨r6, c6, hf⟩ := oB hf
  refine b_callVi (K := 2) (As := [.int v1, .int 1]) (res := (r6, x)) C (metX2_get l G _ _ _ _ _ ((kd3 C.cl hk0).2.1) c6) ((kd3 C.cl hk0).2.1) (by decide) rfl gkX3_51 ekX3_51 rfl ⟨rfl, rfl⟩ ⟨Nat.le_of_ble_eq_true rfl, Nat.le_of_ble_eq_true rfl⟩ (by simp [Value.category]) ⟨Nat.zero_le _, Nat.zero_le _⟩ rfl dX3_countRefusal_6 ?_
  refine b_iconst (v := 1) C dX3_countRefusal_9 (by decide) ?_
  refine b_iadd C dX3_countRefusal_10 ?_
  obtain ⟨y11, e11, hf⟩ := lN1 hf
  rw [e11]
  refine b_istore_n (lv' := [(2, .int y11), (0, .ref (G.2.2 i0)), (1, .int v1)]) C dX3_countRefusal_11 rfl (by decide) rfl ?_
  refine b_aload_n C dX3_countRefusal_12 rfl 1 rfl ?_
  refine gfX3_23 C hk0 dX3_countRefusal_13 ?_
  refine b_iload_n C dX3_countRefusal_16 rfl 2 rfl ?_
  refine b_iconst (v := 1) C dX3_countRefusal_17 (by decide) ?_
  refine b_bipush (v := 7) C dX3_countRefusal_18 (by decide) ?_
  refine b_iload_n C dX3_countRefusal_20 rfl 0 rfl ?_
  refine b_mmin C w_111 w_112 w_33 w_113 ⟨by decide, by decide⟩ (by simp [Value.category]) ⟨Nat.zero_le _, Nat.zero_le _⟩ dX3_countRefusal_21 ?_
  obtain ⟨r24, c24, hf⟩ := oB hf
  refine b_callVv (K := 2) (As := [.int v1, .int 1, .int (if y11 < (7 : Int32) then y11 else (7 : Int32))]) (res := r24) C (metX2_put l G _ _ _ _ _ _ ((kd3 C.cl hk0).2.1) c24) ((kd3 C.cl hk0).2.1) (by decide) rfl gkX3_33 ekX3_33 rfl ⟨rfl, rfl⟩ ⟨Nat.le_of_ble_eq_true rfl, Nat.le_of_ble_eq_true rfl⟩ (by simp [Value.category]) ⟨Nat.zero_le _, Nat.zero_le _⟩ rfl dX3_countRefusal_24 ?_
  exact b_vret C dX3_countRefusal_27 hf
end
theorem metX3_countRefusal (l : Launch) (G : gT) (i0 : Nat) (v1 : Int32) (x : xS) (r : xS) (hk0 : KD G i0 3) (hf : fX3_countRefusal i0 v1 x = some r) : cV l yX3_countRefusal cX3_countRefusal 3 rX3_countRefusal [.ref (G.2.2 i0), .int v1] G x r :=
  b_body (by decide) (Nat.le_of_ble_eq_true rfl) rfl (fun p e s m args below meth c C => wX3_countRefusal_b0 C hk0 hf)
-- X3_countPutOut
abbrev rX3_countPutOut : Room := { frames := 2, cells := 0, slots := 0, locals := 46 }
def fX3_countPutOut_b46 (k16 : Int32 → xS → Option xS) (i0 : Nat) (v1 : Int32) (v2 : Int32) (x : xS) : Option xS :=
  k16 (v2 + 1) x
def fX3_countPutOut_b16 (i0 : Nat) (v1 : Int32) : Nat → Int32 → xS → Option xS
  | 0, _, _ => none
  | n + 1, v2, x => (if (10 : Int32) ≤ v2 then
  some x
  else
  (if ((v1 >>> (v2 &&& 31)) &&& 1) = 1 then
  Option.bind (fX2_raise (i0 + 4) v2 5 1 x) (fun r38 =>
  Option.bind (fX3_countRefusal i0 v2 r38) (fun r43 =>
  fX3_countPutOut_b46 (fX3_countPutOut_b16 i0 v1 n) i0 v1 v2 r43))
  else
  fX3_countPutOut_b46 (fX3_countPutOut_b16 i0 v1 n) i0 v1 v2 x))
def fX3_countPutOut_b0 (i0 : Nat) (v1 : Int32) (x : xS) : Option xS :=
  Option.bind (fJ6_bitCount_0f7a4 v1 x) (fun r8 =>
  Option.bind (fX2_raise (i0 + 6) 0 6 r8 x) (fun r11 =>
  fX3_countPutOut_b16 i0 v1 FU 0 r11))
def fX3_countPutOut (i0 : Nat) (v1 : Int32) (x : xS) : Option xS := fX3_countPutOut_b0 i0 v1 x
section
variable {p : Program} {l : Launch} {e : Env} {R : Room} {s : State} {m : MethodId} {args : Array Value} {below : List Frame} {meth : Method} {c : Code} {G : gT}
set_option maxHeartbeats 4000000 in
set_option maxRecDepth 100000 in
theorem wX3_countPutOut_b46 (C : CT p s m args meth c cX3_countPutOut 3 RX3 none G (pA G s.heap.size)) {k16 : Int32 → xS → Option xS} {i0 : Nat} {v1 : Int32} {v2 : Int32} {x : xS} {r : xS} (h16 : ∀ (v2 : Int32) (x : xS), k16 v2 x = some r → WB p l e rX3_countPutOut s m args below meth c 3 G (pA G s.heap.size) (qV below G r args s 0 0) 0 0 16 [(0, .ref (G.2.2 i0)), (1, .int v1), (2, .int v2)] [] x) (hk0 : KD G i0 3) (hf : fX3_countPutOut_b46 k16 i0 v1 v2 x = some r) : WB p l e rX3_countPutOut s m args below meth c 3 G (pA G s.heap.size) (qV below G r args s 0 0) 0 0 46 [(0, .ref (G.2.2 i0)), (1, .int v1), (2, .int v2)] [] x := by
  unfold fX3_countPutOut_b46 at hf
  refine b_iinc (q := 2) (v' := (v2 + 1)) (lv' := [(2, .int (v2 + 1)), (0, .ref (G.2.2 i0)), (1, .int v1)]) C dX3_countPutOut_46 rfl rfl (by decide) rfl ?_
  refine b_goto (tgt := 16) C dX3_countPutOut_49 (by decide) ?_
  refine b_pm [1, 2, 0] (lv' := [(0, .ref (G.2.2 i0)), (1, .int v1), (2, .int (v2 + 1))]) rfl ?_
  exact h16 _ _ hf
set_option maxHeartbeats 4000000 in
set_option maxRecDepth 100000 in
theorem wX3_countPutOut_b16 (C : CT p s m args meth c cX3_countPutOut 3 RX3 none G (pA G s.heap.size)) {i0 : Nat} {v1 : Int32} {r : xS} (hk0 : KD G i0 3) : ∀ (n : Nat) (v2 : Int32) (x : xS), fX3_countPutOut_b16 i0 v1 n v2 x = some r → WB p l e rX3_countPutOut s m args below meth c 3 G (pA G s.heap.size) (qV below G r args s 0 0) 0 0 16 [(0, .ref (G.2.2 i0)), (1, .int v1), (2, .int v2)] [] x := by
  intro n
  induction n with
  | zero =>
    intro v2 x hf
    cases hf
  | succ n ih =>
    intro v2 x hf
    rw [fX3_countPutOut_b16] at hf
    refine b_iload_n C dX3_countPutOut_16 rfl 2 rfl ?_
    refine b_bipush (v := 10) C dX3_countPutOut_17 (by decide) ?_
    refine b_icmp_ge (tgt := 52) C dX3_countPutOut_19 (by decide) (fun c19 => ?_) (fun c19 => ?_)
    · have hf := iT c19 hf
      exact b_vret C dX3_countPutOut_52 hf
    · have hf := iF c19 hf
      refine b_iload_n C dX3_countPutOut_22 rfl 1 rfl ?_
      refine b_iload_n C dX3_countPutOut_23 rfl 2 rfl ?_
      refine b_ishr C dX3_countPutOut_24 ?_
      refine b_iconst (v := 1) C dX3_countPutOut_25 (by decide) ?_
      refine b_iand C dX3_countPutOut_26 ?_
      refine b_iconst (v := 1) C dX3_countPutOut_27 (by decide) ?_
      refine b_icmp_ne (tgt := 46) C dX3_countPutOut_28 (by decide) (fun c28 => ?_) (fun c28 => ?_)
      · have hf := iF c28 hf
        exact wX3_countPutOut_b46 C ih hk0 hf
      · have hf := iT c28 hf
        refine b_aload_n C dX3_countPutOut_31 rfl 0 rfl ?_
        refine gfX3_23 C hk0 dX3_countPutOut_32 ?_
        refine b_iload_n C dX3_countPutOut_35 rfl 2 rfl ?_
        refine b_iconst (v := 5) C dX3_countPutOut_36 (by decide) ?_
        refine b_iconst (v := 1) C dX3_countPutOut_37 (by decide) ?_
        obtain ⟨r38, c38, hf⟩ := oB hf
        refine b_callVv (K := 2) (As := [.int v2, .int 5, .int 1]) (res := r38) C (metX2_raise l G _ _ _ _ _ _ ((kd3 C.cl hk0).2.1) c38) ((kd3 C.cl hk0).2.1) (by decide) rfl gkX3_94 ekX3_94 rfl ⟨rfl, rfl⟩ ⟨Nat.le_of_ble_eq_true rfl, Nat.le_of_ble_eq_true rfl⟩ (by simp [Value.category]) ⟨Nat.zero_le _, Nat.zero_le _⟩ rfl dX3_countPutOut_38 ?_
        refine b_aload_n C dX3_countPutOut_41 rfl 0 rfl ?_
        refine b_iload_n C dX3_countPutOut_42 rfl 2 rfl ?_
        obtain ⟨r43, c43, hf⟩ := oB hf
        refine b_callVv (K := 3) (As := [.int v2]) (res := r43) C (metX3_countRefusal l G _ _ _ _ hk0 c43) hk0 (by decide) rfl gkX3_97 ekX3_97 rfl ⟨rfl, rfl⟩ ⟨Nat.le_of_ble_eq_true rfl, Nat.le_of_ble_eq_true rfl⟩ (by simp [Value.category]) ⟨Nat.zero_le _, Nat.zero_le _⟩ rfl dX3_countPutOut_43 ?_
        exact wX3_countPutOut_b46 C ih hk0 hf
set_option maxHeartbeats 4000000 in
set_option maxRecDepth 100000 in
theorem wX3_countPutOut_b0 (C : CT p s m args meth c cX3_countPutOut 3 RX3 none G (pA G s.heap.size)) {i0 : Nat} {v1 : Int32} {x : xS} {r : xS} (hk0 : KD G i0 3) (hf : fX3_countPutOut_b0 i0 v1 x = some r) : WB p l e rX3_countPutOut s m args below meth c 3 G (pA G s.heap.size) (qV below G r args s 0 0) 0 0 0 [(0, .ref (G.2.2 i0)), (1, .int v1)] [] x := by
  unfold fX3_countPutOut_b0 at hf
  refine b_aload_n C dX3_countPutOut_0 rfl 0 rfl ?_
  refine gfX3_27 C hk0 dX3_countPutOut_1 ?_
  refine b_iconst (v := 0) C dX3_countPutOut_4 (by decide) ?_
  refine b_bipush (v := 6) C dX3_countPutOut_5 (by decide) ?_
  refine b_iload_n C dX3_countPutOut_7 rfl 1 rfl ?_
  obtain ⟨r8, c8, hf⟩ := oB hf
  refine b_callSi (As := [.int v1]) (res := (r8, x)) C (metJ6_bitCount_0f7a4 l G _ _ _  c8) gkX3_115 ekX3_115 rfl ⟨rfl, rfl⟩ ⟨Nat.le_of_ble_eq_true rfl, Nat.le_of_ble_eq_true rfl⟩ (by simp [Value.category]) ⟨Nat.zero_le _, Nat.zero_le _⟩ rfl dX3_countPutOut_8 ?_
  obtain ⟨r11, c11, hf⟩ := oB hf
  refine b_callVv (K := 2) (As := [.int 0, .int 6, .int r8]) (res := r11) C (metX2_raise l G _ _ _ _ _ _ ((kd3 C.cl hk0).2.2.1) c11) ((kd3 C.cl hk0).2.2.1) (by decide) rfl gkX3_94 ekX3_94 rfl ⟨rfl, rfl⟩ ⟨Nat.le_of_ble_eq_true rfl, Nat.le_of_ble_eq_true rfl⟩ (by simp [Value.category]) ⟨Nat.zero_le _, Nat.zero_le _⟩ rfl dX3_countPutOut_11 ?_
  refine b_iconst (v := 0) C dX3_countPutOut_14 (by decide) ?_
  refine b_istore_n (lv' := [(2, .int 0), (0, .ref (G.2.2 i0)), (1, .int v1)]) C dX3_countPutOut_15 rfl (by decide) rfl ?_
  refine b_pm [1, 2, 0] (lv' := [(0, .ref (G.2.2 i0)), (1, .int v1), (2, .int 0)]) rfl ?_
  exact wX3_countPutOut_b16 C  hk0 FU _ _ hf
end
theorem metX3_countPutOut (l : Launch) (G : gT) (i0 : Nat) (v1 : Int32) (x : xS) (r : xS) (hk0 : KD G i0 3) (hf : fX3_countPutOut i0 v1 x = some r) : cV l yX3_countPutOut cX3_countPutOut 3 rX3_countPutOut [.ref (G.2.2 i0), .int v1] G x r :=
  b_body (by decide) (Nat.le_of_ble_eq_true rfl) rfl (fun p e s m args below meth c C => wX3_countPutOut_b0 C hk0 hf)
-- X3_giveFavour
abbrev rX3_giveFavour : Room := { frames := 2, cells := 0, slots := 0, locals := 46 }
def fX3_giveFavour_b0 (i0 : Nat) (v1 : Int32) (x : xS) : Option (Int32 × xS) :=
  Option.bind (fX2_get (i0 + 4) v1 2 x) (fun r6 =>
  (if r6 < 3 then
  Option.bind (fX2_raise (i0 + 4) v1 2 1 x) (fun r33 =>
  Option.bind (fX2_get (i0 + 4) v1 2 r33) (fun r42 =>
  some (r42, r33)))
  else
  Option.bind (fX2_raise (i0 + 6) 0 10 1 x) (fun r21 =>
  some ((-1), r21))))
def fX3_giveFavour (i0 : Nat) (v1 : Int32) (x : xS) : Option (Int32 × xS) := fX3_giveFavour_b0 i0 v1 x
section
variable {p : Program} {l : Launch} {e : Env} {R : Room} {s : State} {m : MethodId} {args : Array Value} {below : List Frame} {meth : Method} {c : Code} {G : gT}
set_option maxHeartbeats 4000000 in
set_option maxRecDepth 100000 in
theorem wX3_giveFavour_b0 (C : CT p s m args meth c cX3_giveFavour 2 RX3 (some (.int)) G (pA G s.heap.size)) {i0 : Nat} {v1 : Int32} {x : xS} {r : (Int32 × xS)} (hk0 : KD G i0 3) (hf : fX3_giveFavour_b0 i0 v1 x = some r) : WB p l e rX3_giveFavour s m args below meth c 2 G (pA G s.heap.size) (qI below G r args s 0 0) 0 0 0 [(0, .ref (G.2.2 i0)), (1, .int v1)] [] x := by
  unfold fX3_giveFavour_b0 at hf
  refine b_aload_n C dX3_giveFavour_0 rfl 0 rfl ?_
  refine gfX3_23 C hk0 dX3_giveFavour_1 ?_
  refine b_iload_n C dX3_giveFavour_4 rfl 1 rfl ?_
  refine b_iconst (v := 2) C dX3_giveFavour_5 (by decide) ?_
  obtain ⟨r6, c6, hf⟩ := oB hf
  refine b_callVi (K := 2) (As := [.int v1, .int 2]) (res := (r6, x)) C (metX2_get l G _ _ _ _ _ ((kd3 C.cl hk0).2.1) c6) ((kd3 C.cl hk0).2.1) (by decide) rfl gkX3_51 ekX3_51 rfl ⟨rfl, rfl⟩ ⟨Nat.le_of_ble_eq_true rfl, Nat.le_of_ble_eq_true rfl⟩ (by simp [Value.category]) ⟨Nat.zero_le _, Nat.zero_le _⟩ rfl dX3_giveFavour_6 ?_
  refine b_iconst (v := 3) C dX3_giveFavour_9 (by decide) ?_
  refine b_icmp_lt (tgt := 26) C dX3_giveFavour_10 (by decide) (fun c10 => ?_) (fun c10 => ?_)
  · have hf := iT c10 hf
    refine b_aload_n C dX3_giveFavour_26 rfl 0 rfl ?_
    refine gfX3_23 C hk0 dX3_giveFavour_27 ?_
    refine b_iload_n C dX3_giveFavour_30 rfl 1 rfl ?_
    refine b_iconst (v := 2) C dX3_giveFavour_31 (by decide) ?_
    refine b_iconst (v := 1) C dX3_giveFavour_32 (by decide) ?_
    obtain ⟨r33, c33, hf⟩ := oB hf
    refine b_callVv (K := 2) (As := [.int v1, .int 2, .int 1]) (res := r33) C (metX2_raise l G _ _ _ _ _ _ ((kd3 C.cl hk0).2.1) c33) ((kd3 C.cl hk0).2.1) (by decide) rfl gkX3_94 ekX3_94 rfl ⟨rfl, rfl⟩ ⟨Nat.le_of_ble_eq_true rfl, Nat.le_of_ble_eq_true rfl⟩ (by simp [Value.category]) ⟨Nat.zero_le _, Nat.zero_le _⟩ rfl dX3_giveFavour_33 ?_
    refine b_aload_n C dX3_giveFavour_36 rfl 0 rfl ?_
    refine gfX3_23 C hk0 dX3_giveFavour_37 ?_
    refine b_iload_n C dX3_giveFavour_40 rfl 1 rfl ?_
    refine b_iconst (v := 2) C dX3_giveFavour_41 (by decide) ?_
    obtain ⟨r42, c42, hf⟩ := oB hf
    refine b_callVi (K := 2) (As := [.int v1, .int 2]) (res := (r42, r33)) C (metX2_get l G _ _ _ _ _ ((kd3 C.cl hk0).2.1) c42) ((kd3 C.cl hk0).2.1) (by decide) rfl gkX3_51 ekX3_51 rfl ⟨rfl, rfl⟩ ⟨Nat.le_of_ble_eq_true rfl, Nat.le_of_ble_eq_true rfl⟩ (by simp [Value.category]) ⟨Nat.zero_le _, Nat.zero_le _⟩ rfl dX3_giveFavour_42 ?_
    exact b_ireti C dX3_giveFavour_45 hf
  · have hf := iF c10 hf
    refine b_aload_n C dX3_giveFavour_13 rfl 0 rfl ?_
    refine gfX3_27 C hk0 dX3_giveFavour_14 ?_
    refine b_iconst (v := 0) C dX3_giveFavour_17 (by decide) ?_
    refine b_bipush (v := 10) C dX3_giveFavour_18 (by decide) ?_
    refine b_iconst (v := 1) C dX3_giveFavour_20 (by decide) ?_
    obtain ⟨r21, c21, hf⟩ := oB hf
    refine b_callVv (K := 2) (As := [.int 0, .int 10, .int 1]) (res := r21) C (metX2_raise l G _ _ _ _ _ _ ((kd3 C.cl hk0).2.2.1) c21) ((kd3 C.cl hk0).2.2.1) (by decide) rfl gkX3_94 ekX3_94 rfl ⟨rfl, rfl⟩ ⟨Nat.le_of_ble_eq_true rfl, Nat.le_of_ble_eq_true rfl⟩ (by simp [Value.category]) ⟨Nat.zero_le _, Nat.zero_le _⟩ rfl dX3_giveFavour_21 ?_
    refine b_iconst (v := (-1)) C dX3_giveFavour_24 (by decide) ?_
    exact b_ireti C dX3_giveFavour_25 hf
end
theorem metX3_giveFavour (l : Launch) (G : gT) (i0 : Nat) (v1 : Int32) (x : xS) (r : (Int32 × xS)) (hk0 : KD G i0 3) (hf : fX3_giveFavour i0 v1 x = some r) : cI l yX3_giveFavour cX3_giveFavour 2 (.int) rX3_giveFavour [.ref (G.2.2 i0), .int v1] G x r :=
  b_body (by decide) (Nat.le_of_ble_eq_true rfl) rfl (fun p e s m args below meth c C => wX3_giveFavour_b0 C hk0 hf)
-- X4_lend
abbrev rX4_lend : Room := { frames := 1, cells := 0, slots := 0, locals := 23 }
def fX4_lend_b3 (i0 : Nat) (v1 : Int32) (v2 : Int32) (v3 : Int32) (v4 : Int32) : Nat → Int32 → xS → Option xS
  | 0, _, _ => none
  | n + 1, v5, x => (if (v3 + v4) ≤ v5 then
  some x
  else
  Option.bind (fX2_put (i0 + 1) v2 v5 v1 x) (fun r20 =>
  fX4_lend_b3 i0 v1 v2 v3 v4 n (v5 + 1) r20))
def fX4_lend_b0 (i0 : Nat) (v1 : Int32) (v2 : Int32) (v3 : Int32) (v4 : Int32) (x : xS) : Option xS :=
  fX4_lend_b3 i0 v1 v2 v3 v4 FU v3 x
def fX4_lend (i0 : Nat) (v1 : Int32) (v2 : Int32) (v3 : Int32) (v4 : Int32) (x : xS) : Option xS := fX4_lend_b0 i0 v1 v2 v3 v4 x
section
variable {p : Program} {l : Launch} {e : Env} {R : Room} {s : State} {m : MethodId} {args : Array Value} {below : List Frame} {meth : Method} {c : Code} {G : gT}
set_option maxHeartbeats 4000000 in
set_option maxRecDepth 100000 in
theorem wX4_lend_b3 (C : CT p s m args meth c cX4_lend 6 RX4 none G (pA G s.heap.size)) {i0 : Nat} {v1 : Int32} {v2 : Int32} {v3 : Int32} {v4 : Int32} {r : xS} (hk0 : KD G i0 4) : ∀ (n : Nat) (v5 : Int32) (x : xS), fX4_lend_b3 i0 v1 v2 v3 v4 n v5 x = some r → WB p l e rX4_lend s m args below meth c 6 G (pA G s.heap.size) (qV below G r args s 0 0) 0 0 3 [(0, .ref (G.2.2 i0)), (1, .int v1), (2, .int v2), (3, .int v3), (4, .int v4), (5, .int v5)] [] x := by
  intro n
  induction n with
  | zero =>
    intro v5 x hf
    cases hf
  | succ n ih =>
    intro v5 x hf
    rw [fX4_lend_b3] at hf
    refine b_iload C dX4_lend_3 5 rfl ?_
    refine b_iload_n C dX4_lend_5 rfl 3 rfl ?_
    refine b_iload C dX4_lend_6 4 rfl ?_
    refine b_iadd C dX4_lend_8 ?_
    refine b_icmp_ge (tgt := 29) C dX4_lend_9 (by decide) (fun c9 => ?_) (fun c9 => ?_)
    · have hf := iT c9 hf
      exact b_vret C dX4_lend_29 hf
    · have hf := iF c9 hf
      refine b_aload_n C dX4_lend_12 rfl 0 rfl ?_
      refine gfX4_14 C hk0 dX4_lend_13 ?_
      refine b_iload_n C dX4_lend_16 rfl 2 rfl ?_
      refine b_iload C dX4_lend_17 5 rfl ?_
      refine b_iload_n C dX4_lend_19 rfl 1 rfl ?_
      obtain ⟨r20, c20, hf⟩ := oB hf
      refine b_callVv (K := 2) (As := [.int v2, .int v5, .int v1]) (res := r20) C (metX2_put l G _ _ _ _ _ _ (kd4 C.cl hk0) c20) (kd4 C.cl hk0) (by decide) rfl gkX4_36 ekX4_36 rfl ⟨rfl, rfl⟩ ⟨Nat.le_of_ble_eq_true rfl, Nat.le_of_ble_eq_true rfl⟩ (by simp [Value.category]) ⟨Nat.zero_le _, Nat.zero_le _⟩ rfl dX4_lend_20 ?_
      refine b_iinc (q := 5) (v' := (v5 + 1)) (lv' := [(5, .int (v5 + 1)), (0, .ref (G.2.2 i0)), (1, .int v1), (2, .int v2), (3, .int v3), (4, .int v4)]) C dX4_lend_23 rfl rfl (by decide) rfl ?_
      refine b_goto (tgt := 3) C dX4_lend_26 (by decide) ?_
      refine b_pm [1, 2, 3, 4, 5, 0] (lv' := [(0, .ref (G.2.2 i0)), (1, .int v1), (2, .int v2), (3, .int v3), (4, .int v4), (5, .int (v5 + 1))]) rfl ?_
      exact ih _ _ hf
set_option maxHeartbeats 4000000 in
set_option maxRecDepth 100000 in
theorem wX4_lend_b0 (C : CT p s m args meth c cX4_lend 6 RX4 none G (pA G s.heap.size)) {i0 : Nat} {v1 : Int32} {v2 : Int32} {v3 : Int32} {v4 : Int32} {x : xS} {r : xS} (hk0 : KD G i0 4) (hf : fX4_lend_b0 i0 v1 v2 v3 v4 x = some r) : WB p l e rX4_lend s m args below meth c 6 G (pA G s.heap.size) (qV below G r args s 0 0) 0 0 0 [(0, .ref (G.2.2 i0)), (1, .int v1), (2, .int v2), (3, .int v3), (4, .int v4)] [] x := by
  unfold fX4_lend_b0 at hf
  refine b_iload_n C dX4_lend_0 rfl 3 rfl ?_
  refine b_istore (lv' := [(5, .int v3), (0, .ref (G.2.2 i0)), (1, .int v1), (2, .int v2), (3, .int v3), (4, .int v4)]) C dX4_lend_1 (by decide) rfl ?_
  refine b_pm [1, 2, 3, 4, 5, 0] (lv' := [(0, .ref (G.2.2 i0)), (1, .int v1), (2, .int v2), (3, .int v3), (4, .int v4), (5, .int v3)]) rfl ?_
  exact wX4_lend_b3 C  hk0 FU _ _ hf
end
theorem metX4_lend (l : Launch) (G : gT) (i0 : Nat) (v1 : Int32) (v2 : Int32) (v3 : Int32) (v4 : Int32) (x : xS) (r : xS) (hk0 : KD G i0 4) (hf : fX4_lend i0 v1 v2 v3 v4 x = some r) : cV l yX4_lend cX4_lend 6 rX4_lend [.ref (G.2.2 i0), .int v1, .int v2, .int v3, .int v4] G x r :=
  b_body (by decide) (Nat.le_of_ble_eq_true rfl) rfl (fun p e s m args below meth c C => wX4_lend_b0 C hk0 hf)
-- X4_holdersMask
abbrev rX4_holdersMask : Room := { frames := 1, cells := 0, slots := 0, locals := 22 }
def fX4_holdersMask_b42 (k6 : Int32 → Int32 → Option Int32) (i0 : Nat) (v1 : Int32) (v2 : Int32) (v3 : Int32) (x : xS) (v5 : Int32) (s0 : Int32) (s1 : Int32) : Option Int32 :=
  lt1 (s0 ||| s1) (fun y43 => 
  k6 y43 (v5 + 1))
def fX4_holdersMask_b6 (i0 : Nat) (v1 : Int32) (v2 : Int32) (v3 : Int32) (x : xS) : Nat → Int32 → Int32 → Option Int32
  | 0, _, _ => none
  | n + 1, v4, v5 => (if (v2 + v3) ≤ v5 then
  some v4
  else
  Option.bind (fX2_get (i0 + 1) v1 v5 x) (fun r21 =>
  (if r21 = (-1) then
  fX4_holdersMask_b42 (fX4_holdersMask_b6 i0 v1 v2 v3 x n) i0 v1 v2 v3 x v5 v4 0
  else
  fX4_holdersMask_b42 (fX4_holdersMask_b6 i0 v1 v2 v3 x n) i0 v1 v2 v3 x v5 v4 ((1 : Int32) <<< (r21 &&& 31)))))
def fX4_holdersMask_b0 (i0 : Nat) (v1 : Int32) (v2 : Int32) (v3 : Int32) (x : xS)  : Option Int32 :=
  fX4_holdersMask_b6 i0 v1 v2 v3 x FU 0 v2
def fX4_holdersMask (i0 : Nat) (v1 : Int32) (v2 : Int32) (v3 : Int32) (x : xS) : Option Int32 := fX4_holdersMask_b0 i0 v1 v2 v3 x
section
variable {p : Program} {l : Launch} {e : Env} {R : Room} {s : State} {m : MethodId} {args : Array Value} {below : List Frame} {meth : Method} {c : Code} {G : gT}
set_option maxHeartbeats 4000000 in
set_option maxRecDepth 100000 in
theorem wX4_holdersMask_b42 (C : CT p s m args meth c cX4_holdersMask 7 RX4 (some (.int)) G (pA G s.heap.size)) {k6 : Int32 → Int32 → Option Int32} {i0 : Nat} {v1 : Int32} {v2 : Int32} {v3 : Int32} {x : xS} {v5 : Int32} {s0 : Int32} {s1 : Int32} {r : Int32} (h6 : ∀ (v4 : Int32) (v5 : Int32), k6 v4 v5 = some r → WB p l e rX4_holdersMask s m args below meth c 7 G (pA G s.heap.size) (qI below G (r, x) args s 0 0) 0 0 6 [(0, .ref (G.2.2 i0)), (1, .int v1), (2, .int v2), (3, .int v3), (4, .int v4), (5, .int v5)] [] x) (hk0 : KD G i0 4) (hf : fX4_holdersMask_b42 k6 i0 v1 v2 v3 x v5 s0 s1 = some r) : WB p l e rX4_holdersMask s m args below meth c 7 G (pA G s.heap.size) (qI below G (r, x) args s 0 0) 0 0 42 [(0, .ref (G.2.2 i0)), (1, .int v1), (2, .int v2), (3, .int v3), (5, .int v5)] [.int s1, .int s0] x := by
  unfold fX4_holdersMask_b42 at hf
  refine b_ior C dX4_holdersMask_42 ?_
  obtain ⟨y43, e43, hf⟩ := lN1 hf
  rw [e43]
  refine b_istore (lv' := [(4, .int y43), (0, .ref (G.2.2 i0)), (1, .int v1), (2, .int v2), (3, .int v3), (5, .int v5)]) C dX4_holdersMask_43 (by decide) rfl ?_
  refine b_iinc (q := 5) (v' := (v5 + 1)) (lv' := [(5, .int (v5 + 1)), (4, .int y43), (0, .ref (G.2.2 i0)), (1, .int v1), (2, .int v2), (3, .int v3)]) C dX4_holdersMask_45 rfl rfl (by decide) rfl ?_
  refine b_goto (tgt := 6) C dX4_holdersMask_48 (by decide) ?_
  refine b_pm [2, 3, 4, 5, 1, 0] (lv' := [(0, .ref (G.2.2 i0)), (1, .int v1), (2, .int v2), (3, .int v3), (4, .int y43), (5, .int (v5 + 1))]) rfl ?_
  exact h6 _ _ hf
set_option maxHeartbeats 4000000 in
set_option maxRecDepth 100000 in
theorem wX4_holdersMask_b6 (C : CT p s m args meth c cX4_holdersMask 7 RX4 (some (.int)) G (pA G s.heap.size)) {i0 : Nat} {v1 : Int32} {v2 : Int32} {v3 : Int32} {x : xS} {r : Int32} (hk0 : KD G i0 4) : ∀ (n : Nat) (v4 : Int32) (v5 : Int32), fX4_holdersMask_b6 i0 v1 v2 v3 x n v4 v5 = some r → WB p l e rX4_holdersMask s m args below meth c 7 G (pA G s.heap.size) (qI below G (r, x) args s 0 0) 0 0 6 [(0, .ref (G.2.2 i0)), (1, .int v1), (2, .int v2), (3, .int v3), (4, .int v4), (5, .int v5)] [] x := by
  intro n
  induction n with
  | zero =>
    intro v4 v5 hf
    cases hf
  | succ n ih =>
    intro v4 v5 hf
    rw [fX4_holdersMask_b6] at hf
    refine b_iload C dX4_holdersMask_6 5 rfl ?_
    refine b_iload_n C dX4_holdersMask_8 rfl 2 rfl ?_
    refine b_iload_n C dX4_holdersMask_9 rfl 3 rfl ?_
    refine b_iadd C dX4_holdersMask_10 ?_
    refine b_icmp_ge (tgt := 51) C dX4_holdersMask_11 (by decide) (fun c11 => ?_) (fun c11 => ?_)
    · have hf := iT c11 hf
      refine b_iload C dX4_holdersMask_51 4 rfl ?_
      exact b_ireti C dX4_holdersMask_53 (congrArg (Option.map (fun q => (q, x))) hf)
    · have hf := iF c11 hf
      refine b_aload_n C dX4_holdersMask_14 rfl 0 rfl ?_
      refine gfX4_14 C hk0 dX4_holdersMask_15 ?_
      refine b_iload_n C dX4_holdersMask_18 rfl 1 rfl ?_
      refine b_iload C dX4_holdersMask_19 5 rfl ?_
      obtain ⟨r21, c21, hf⟩ := oB hf
      refine b_callVi (K := 2) (As := [.int v1, .int v5]) (res := (r21, x)) C (metX2_get l G _ _ _ _ _ (kd4 C.cl hk0) c21) (kd4 C.cl hk0) (by decide) rfl gkX4_32 ekX4_32 rfl ⟨rfl, rfl⟩ ⟨Nat.le_of_ble_eq_true rfl, Nat.le_of_ble_eq_true rfl⟩ (by simp [Value.category]) ⟨Nat.zero_le _, Nat.zero_le _⟩ rfl dX4_holdersMask_21 ?_
      refine b_istore (lv' := [(6, .int r21), (0, .ref (G.2.2 i0)), (1, .int v1), (2, .int v2), (3, .int v3), (4, .int v4), (5, .int v5)]) C dX4_holdersMask_24 (by decide) rfl ?_
      refine b_iload C dX4_holdersMask_26 5 rfl ?_
      refine b_iload C dX4_holdersMask_28 0 rfl ?_
      refine b_iconst (v := (-1)) C dX4_holdersMask_30 (by decide) ?_
      refine b_icmp_ne (tgt := 38) C dX4_holdersMask_31 (by decide) (fun c31 => ?_) (fun c31 => ?_)
      · have hf := iF c31 hf
        refine b_iconst (v := 1) C dX4_holdersMask_38 (by decide) ?_
        refine b_iload C dX4_holdersMask_39 0 rfl ?_
        refine b_ishl C dX4_holdersMask_41 ?_
        refine b_pm [1, 2, 3, 4, 6] (lv' := [(0, .ref (G.2.2 i0)), (1, .int v1), (2, .int v2), (3, .int v3), (5, .int v5)]) rfl ?_
        exact wX4_holdersMask_b42 C ih hk0 hf
      · have hf := iT c31 hf
        refine b_iconst (v := 0) C dX4_holdersMask_34 (by decide) ?_
        refine b_goto (tgt := 42) C dX4_holdersMask_35 (by decide) ?_
        refine b_pm [1, 2, 3, 4, 6] (lv' := [(0, .ref (G.2.2 i0)), (1, .int v1), (2, .int v2), (3, .int v3), (5, .int v5)]) rfl ?_
        exact wX4_holdersMask_b42 C ih hk0 hf
set_option maxHeartbeats 4000000 in
set_option maxRecDepth 100000 in
theorem wX4_holdersMask_b0 (C : CT p s m args meth c cX4_holdersMask 7 RX4 (some (.int)) G (pA G s.heap.size)) {i0 : Nat} {v1 : Int32} {v2 : Int32} {v3 : Int32} {x : xS}  {r : Int32} (hk0 : KD G i0 4) (hf : fX4_holdersMask_b0 i0 v1 v2 v3 x  = some r) : WB p l e rX4_holdersMask s m args below meth c 7 G (pA G s.heap.size) (qI below G (r, x) args s 0 0) 0 0 0 [(0, .ref (G.2.2 i0)), (1, .int v1), (2, .int v2), (3, .int v3)] [] x := by
  unfold fX4_holdersMask_b0 at hf
  refine b_iconst (v := 0) C dX4_holdersMask_0 (by decide) ?_
  refine b_istore (lv' := [(4, .int 0), (0, .ref (G.2.2 i0)), (1, .int v1), (2, .int v2), (3, .int v3)]) C dX4_holdersMask_1 (by decide) rfl ?_
  refine b_iload_n C dX4_holdersMask_3 rfl 3 rfl ?_
  refine b_istore (lv' := [(5, .int v2), (4, .int 0), (0, .ref (G.2.2 i0)), (1, .int v1), (2, .int v2), (3, .int v3)]) C dX4_holdersMask_4 (by decide) rfl ?_
  refine b_pm [2, 3, 4, 5, 1, 0] (lv' := [(0, .ref (G.2.2 i0)), (1, .int v1), (2, .int v2), (3, .int v3), (4, .int 0), (5, .int v2)]) rfl ?_
  exact wX4_holdersMask_b6 C  hk0 FU _ _ hf
end
theorem metX4_holdersMask (l : Launch) (G : gT) (i0 : Nat) (v1 : Int32) (v2 : Int32) (v3 : Int32) (x : xS) (r : Int32) (hk0 : KD G i0 4) (hf : fX4_holdersMask i0 v1 v2 v3 x = some r) : cI l yX4_holdersMask cX4_holdersMask 7 (.int) rX4_holdersMask [.ref (G.2.2 i0), .int v1, .int v2, .int v3] G x (r, x) :=
  b_body (by decide) (Nat.le_of_ble_eq_true rfl) rfl (fun p e s m args below meth c C => wX4_holdersMask_b0 C hk0 hf)
-- X4_freePiecesIn
abbrev rX4_freePiecesIn : Room := { frames := 2, cells := 0, slots := 0, locals := 48 }
def fX4_freePiecesIn_b42 (i0 : Nat) (v1 : Int32) (v2 : Int32) (v3 : Int32) (v4 : Int32) (x : xS) : Option (Int32 × xS) :=
  Option.bind (fX4_pieceEnd i0 v1 ((v2 + v3) - 1) x) (fun r49 =>
  Option.bind (fX4_lentHoursIn i0 v1 v4 (r49 - v4) x) (fun r63 =>
  Option.bind (fX4_lend i0 (-1) v1 v4 (r49 - v4) x) (fun r78 =>
  some (r63, r78))))
def fX4_freePiecesIn_b3 (i0 : Nat) (v1 : Int32) (v2 : Int32) (v3 : Int32) : Nat → Int32 → xS → Option (Int32 × xS)
  | 0, _, _ => none
  | n + 1, v4, x => (if v4 ≤ (x.1 i0 1) then
  fX4_freePiecesIn_b42 i0 v1 v2 v3 v4 x
  else
  Option.bind (fX2_get (i0 + 1) v1 (v4 - 1) x) (fun r21 =>
  Option.bind (fX2_get (i0 + 1) v1 v2 x) (fun r30 =>
  (if r21 = r30 then
  fX4_freePiecesIn_b3 i0 v1 v2 v3 n (v4 + (-1)) x
  else
  fX4_freePiecesIn_b42 i0 v1 v2 v3 v4 x))))
def fX4_freePiecesIn_b0 (i0 : Nat) (v1 : Int32) (v2 : Int32) (v3 : Int32) (x : xS) : Option (Int32 × xS) :=
  fX4_freePiecesIn_b3 i0 v1 v2 v3 FU v2 x
def fX4_freePiecesIn (i0 : Nat) (v1 : Int32) (v2 : Int32) (v3 : Int32) (x : xS) : Option (Int32 × xS) := fX4_freePiecesIn_b0 i0 v1 v2 v3 x
section
variable {p : Program} {l : Launch} {e : Env} {R : Room} {s : State} {m : MethodId} {args : Array Value} {below : List Frame} {meth : Method} {c : Code} {G : gT}
set_option maxHeartbeats 4000000 in
set_option maxRecDepth 100000 in
theorem wX4_freePiecesIn_b42 (C : CT p s m args meth c cX4_freePiecesIn 7 RX4 (some (.int)) G (pA G s.heap.size)) {i0 : Nat} {v1 : Int32} {v2 : Int32} {v3 : Int32} {v4 : Int32} {x : xS} {r : (Int32 × xS)} (hk0 : KD G i0 4) (hf : fX4_freePiecesIn_b42 i0 v1 v2 v3 v4 x = some r) : WB p l e rX4_freePiecesIn s m args below meth c 7 G (pA G s.heap.size) (qI below G r args s 0 0) 0 0 42 [(0, .ref (G.2.2 i0)), (1, .int v1), (2, .int v2), (3, .int v3), (4, .int v4)] [] x := by
  unfold fX4_freePiecesIn_b42 at hf
  refine b_aload_n C dX4_freePiecesIn_42 rfl 0 rfl ?_
  refine b_iload_n C dX4_freePiecesIn_43 rfl 1 rfl ?_
  refine b_iload_n C dX4_freePiecesIn_44 rfl 2 rfl ?_
  refine b_iload_n C dX4_freePiecesIn_45 rfl 3 rfl ?_
  refine b_iadd C dX4_freePiecesIn_46 ?_
  refine b_iconst (v := 1) C dX4_freePiecesIn_47 (by decide) ?_
  refine b_isub C dX4_freePiecesIn_48 ?_
  obtain ⟨r49, c49, hf⟩ := oB hf
  refine b_callVi (K := 4) (As := [.int v1, .int ((v2 + v3) - 1)]) (res := (r49, x)) C (metX4_pieceEnd l G _ _ _ _ _ hk0 c49) hk0 (by decide) rfl gkX4_56 ekX4_56 rfl ⟨rfl, rfl⟩ ⟨Nat.le_of_ble_eq_true rfl, Nat.le_of_ble_eq_true rfl⟩ (by simp [Value.category]) ⟨Nat.zero_le _, Nat.zero_le _⟩ rfl dX4_freePiecesIn_49 ?_
  refine b_istore (lv' := [(5, .int r49), (0, .ref (G.2.2 i0)), (1, .int v1), (2, .int v2), (3, .int v3), (4, .int v4)]) C dX4_freePiecesIn_52 (by decide) rfl ?_
  refine b_aload_n C dX4_freePiecesIn_54 rfl 1 rfl ?_
  refine b_iload_n C dX4_freePiecesIn_55 rfl 2 rfl ?_
  refine b_iload C dX4_freePiecesIn_56 5 rfl ?_
  refine b_iload C dX4_freePiecesIn_58 0 rfl ?_
  refine b_iload C dX4_freePiecesIn_60 5 rfl ?_
  refine b_isub C dX4_freePiecesIn_62 ?_
  obtain ⟨r63, c63, hf⟩ := oB hf
  refine b_callVi (K := 4) (As := [.int v1, .int v4, .int (r49 - v4)]) (res := (r63, x)) C (metX4_lentHoursIn l G _ _ _ _ _ _ hk0 c63) hk0 (by decide) rfl gkX4_52 ekX4_52 rfl ⟨rfl, rfl⟩ ⟨Nat.le_of_ble_eq_true rfl, Nat.le_of_ble_eq_true rfl⟩ (by simp [Value.category]) ⟨Nat.zero_le _, Nat.zero_le _⟩ rfl dX4_freePiecesIn_63 ?_
  refine b_istore (lv' := [(6, .int r63), (5, .int r49), (0, .ref (G.2.2 i0)), (1, .int v1), (2, .int v2), (3, .int v3), (4, .int v4)]) C dX4_freePiecesIn_66 (by decide) rfl ?_
  refine b_aload_n C dX4_freePiecesIn_68 rfl 2 rfl ?_
  refine b_iconst (v := (-1)) C dX4_freePiecesIn_69 (by decide) ?_
  refine b_iload_n C dX4_freePiecesIn_70 rfl 3 rfl ?_
  refine b_iload C dX4_freePiecesIn_71 6 rfl ?_
  refine b_iload C dX4_freePiecesIn_73 1 rfl ?_
  refine b_iload C dX4_freePiecesIn_75 6 rfl ?_
  refine b_isub C dX4_freePiecesIn_77 ?_
  obtain ⟨r78, c78, hf⟩ := oB hf
  refine b_callVv (K := 4) (As := [.int (-1), .int v1, .int v4, .int (r49 - v4)]) (res := r78) C (metX4_lend l G _ _ _ _ _ _ _ hk0 c78) hk0 (by decide) rfl gkX4_59 ekX4_59 rfl ⟨rfl, rfl⟩ ⟨Nat.le_of_ble_eq_true rfl, Nat.le_of_ble_eq_true rfl⟩ (by simp [Value.category]) ⟨Nat.zero_le _, Nat.zero_le _⟩ rfl dX4_freePiecesIn_78 ?_
  refine b_iload C dX4_freePiecesIn_81 0 rfl ?_
  exact b_ireti C dX4_freePiecesIn_83 hf
set_option maxHeartbeats 4000000 in
set_option maxRecDepth 100000 in
theorem wX4_freePiecesIn_b3 (C : CT p s m args meth c cX4_freePiecesIn 7 RX4 (some (.int)) G (pA G s.heap.size)) {i0 : Nat} {v1 : Int32} {v2 : Int32} {v3 : Int32} {r : (Int32 × xS)} (hk0 : KD G i0 4) : ∀ (n : Nat) (v4 : Int32) (x : xS), fX4_freePiecesIn_b3 i0 v1 v2 v3 n v4 x = some r → WB p l e rX4_freePiecesIn s m args below meth c 7 G (pA G s.heap.size) (qI below G r args s 0 0) 0 0 3 [(0, .ref (G.2.2 i0)), (1, .int v1), (2, .int v2), (3, .int v3), (4, .int v4)] [] x := by
  intro n
  induction n with
  | zero =>
    intro v4 x hf
    cases hf
  | succ n ih =>
    intro v4 x hf
    rw [fX4_freePiecesIn_b3] at hf
    refine b_iload C dX4_freePiecesIn_3 4 rfl ?_
    refine b_aload_n C dX4_freePiecesIn_5 rfl 0 rfl ?_
    refine gfX4_28 C hk0 dX4_freePiecesIn_6 ?_
    refine b_icmp_le (tgt := 42) C dX4_freePiecesIn_9 (by decide) (fun c9 => ?_) (fun c9 => ?_)
    · have hf := iT c9 hf
      exact wX4_freePiecesIn_b42 C  hk0 hf
    · have hf := iF c9 hf
      refine b_aload_n C dX4_freePiecesIn_12 rfl 0 rfl ?_
      refine gfX4_14 C hk0 dX4_freePiecesIn_13 ?_
      refine b_iload_n C dX4_freePiecesIn_16 rfl 1 rfl ?_
      refine b_iload C dX4_freePiecesIn_17 4 rfl ?_
      refine b_iconst (v := 1) C dX4_freePiecesIn_19 (by decide) ?_
      refine b_isub C dX4_freePiecesIn_20 ?_
      obtain ⟨r21, c21, hf⟩ := oB hf
      refine b_callVi (K := 2) (As := [.int v1, .int (v4 - 1)]) (res := (r21, x)) C (metX2_get l G _ _ _ _ _ (kd4 C.cl hk0) c21) (kd4 C.cl hk0) (by decide) rfl gkX4_32 ekX4_32 rfl ⟨rfl, rfl⟩ ⟨Nat.le_of_ble_eq_true rfl, Nat.le_of_ble_eq_true rfl⟩ (by simp [Value.category]) ⟨Nat.zero_le _, Nat.zero_le _⟩ rfl dX4_freePiecesIn_21 ?_
      refine b_aload_n C dX4_freePiecesIn_24 rfl 0 rfl ?_
      refine gfX4_14 C hk0 dX4_freePiecesIn_25 ?_
      refine b_iload_n C dX4_freePiecesIn_28 rfl 1 rfl ?_
      refine b_iload_n C dX4_freePiecesIn_29 rfl 2 rfl ?_
      obtain ⟨r30, c30, hf⟩ := oB hf
      refine b_callVi (K := 2) (As := [.int v1, .int v2]) (res := (r30, x)) C (metX2_get l G _ _ _ _ _ (kd4 C.cl hk0) c30) (kd4 C.cl hk0) (by decide) rfl gkX4_32 ekX4_32 rfl ⟨rfl, rfl⟩ ⟨Nat.le_of_ble_eq_true rfl, Nat.le_of_ble_eq_true rfl⟩ (by simp [Value.category]) ⟨Nat.zero_le _, Nat.zero_le _⟩ rfl dX4_freePiecesIn_30 ?_
      refine b_icmp_ne (tgt := 42) C dX4_freePiecesIn_33 (by decide) (fun c33 => ?_) (fun c33 => ?_)
      · have hf := iF c33 hf
        exact wX4_freePiecesIn_b42 C  hk0 hf
      · have hf := iT c33 hf
        refine b_iinc (q := 4) (v' := (v4 + (-1))) (lv' := [(4, .int (v4 + (-1))), (0, .ref (G.2.2 i0)), (1, .int v1), (2, .int v2), (3, .int v3)]) C dX4_freePiecesIn_36 rfl rfl (by decide) rfl ?_
        refine b_goto (tgt := 3) C dX4_freePiecesIn_39 (by decide) ?_
        refine b_pm [1, 2, 3, 4, 0] (lv' := [(0, .ref (G.2.2 i0)), (1, .int v1), (2, .int v2), (3, .int v3), (4, .int (v4 + (-1)))]) rfl ?_
        exact ih _ _ hf
set_option maxHeartbeats 4000000 in
set_option maxRecDepth 100000 in
theorem wX4_freePiecesIn_b0 (C : CT p s m args meth c cX4_freePiecesIn 7 RX4 (some (.int)) G (pA G s.heap.size)) {i0 : Nat} {v1 : Int32} {v2 : Int32} {v3 : Int32} {x : xS} {r : (Int32 × xS)} (hk0 : KD G i0 4) (hf : fX4_freePiecesIn_b0 i0 v1 v2 v3 x = some r) : WB p l e rX4_freePiecesIn s m args below meth c 7 G (pA G s.heap.size) (qI below G r args s 0 0) 0 0 0 [(0, .ref (G.2.2 i0)), (1, .int v1), (2, .int v2), (3, .int v3)] [] x := by
  unfold fX4_freePiecesIn_b0 at hf
  refine b_iload_n C dX4_freePiecesIn_0 rfl 2 rfl ?_
  refine b_istore (lv' := [(4, .int v2), (0, .ref (G.2.2 i0)), (1, .int v1), (2, .int v2), (3, .int v3)]) C dX4_freePiecesIn_1 (by decide) rfl ?_
  refine b_pm [1, 2, 3, 4, 0] (lv' := [(0, .ref (G.2.2 i0)), (1, .int v1), (2, .int v2), (3, .int v3), (4, .int v2)]) rfl ?_
  exact wX4_freePiecesIn_b3 C  hk0 FU _ _ hf
end
theorem metX4_freePiecesIn (l : Launch) (G : gT) (i0 : Nat) (v1 : Int32) (v2 : Int32) (v3 : Int32) (x : xS) (r : (Int32 × xS)) (hk0 : KD G i0 4) (hf : fX4_freePiecesIn i0 v1 v2 v3 x = some r) : cI l yX4_freePiecesIn cX4_freePiecesIn 7 (.int) rX4_freePiecesIn [.ref (G.2.2 i0), .int v1, .int v2, .int v3] G x r :=
  b_body (by decide) (Nat.le_of_ble_eq_true rfl) rfl (fun p e s m args below meth c C => wX4_freePiecesIn_b0 C hk0 hf)
-- X3_grant
abbrev rX3_grant : Room := { frames := 3, cells := 0, slots := 0, locals := 74 }
def fX3_grant_b87 (i0 : Nat) (v1 : Int32) (v2 : Int32) (v3 : Int32) (v4 : Int32) (x : xS) : Option xS :=
  Option.bind (fX2_put (i0 + 4) v1 1 0 x) (fun r94 =>
  Option.bind (fX4_lend (i0 + 1) v1 v2 v3 v4 r94) (fun r106 =>
  Option.bind (fX2_raise (i0 + 6) 0 4 1 r106) (fun r116 =>
  some r116)))
def fX3_grant_b0 (i0 : Nat) (v1 : Int32) (v2 : Int32) (v3 : Int32) (v4 : Int32) (x : xS) : Option xS :=
  Option.bind (fX3_isEighth i0 v1 x) (fun r2 =>
  (if r2 = 0 then
  Option.bind (fX3_hasTooLittleNeed i0 v1 x) (fun r60 =>
  (if r60 = 0 then
  fX3_grant_b87 i0 v1 v2 v3 v4 x
  else
  Option.bind (fX2_raise (i0 + 4) v1 2 (-1) x) (fun r73 =>
  Option.bind (fX2_raise (i0 + 6) 0 8 1 r73) (fun r84 =>
  fX3_grant_b87 i0 v1 v2 v3 v4 r84))))
  else
  Option.bind (fX2_raise (i0 + 4) v1 6 1 x) (fun r16 =>
  Option.bind (fX4_holdersMask (i0 + 1) v2 v3 v4 r16) (fun r28 =>
  Option.bind (fX3_countPutOut i0 r28 r16) (fun r31 =>
  Option.bind (fX4_freePiecesIn (i0 + 1) v2 v3 v4 r31) (fun r49 =>
  Option.bind (fX2_raise (i0 + 6) 0 7 r49.1 r49.2) (fun r52 =>
  fX3_grant_b87 i0 v1 v2 v3 v4 r52)))))))
def fX3_grant (i0 : Nat) (v1 : Int32) (v2 : Int32) (v3 : Int32) (v4 : Int32) (x : xS) : Option xS := fX3_grant_b0 i0 v1 v2 v3 v4 x
section
variable {p : Program} {l : Launch} {e : Env} {R : Room} {s : State} {m : MethodId} {args : Array Value} {below : List Frame} {meth : Method} {c : Code} {G : gT}
set_option maxHeartbeats 4000000 in
set_option maxRecDepth 100000 in
theorem wX3_grant_b87 (C : CT p s m args meth c cX3_grant 5 RX3 none G (pA G s.heap.size)) {i0 : Nat} {v1 : Int32} {v2 : Int32} {v3 : Int32} {v4 : Int32} {x : xS} {r : xS} (hk0 : KD G i0 3) (hf : fX3_grant_b87 i0 v1 v2 v3 v4 x = some r) : WB p l e rX3_grant s m args below meth c 5 G (pA G s.heap.size) (qV below G r args s 0 0) 0 0 87 [(0, .ref (G.2.2 i0)), (1, .int v1), (2, .int v2), (3, .int v3), (4, .int v4)] [] x := by
  unfold fX3_grant_b87 at hf
  refine b_aload_n C dX3_grant_87 rfl 0 rfl ?_
  refine gfX3_23 C hk0 dX3_grant_88 ?_
  refine b_iload_n C dX3_grant_91 rfl 1 rfl ?_
  refine b_iconst (v := 1) C dX3_grant_92 (by decide) ?_
  refine b_iconst (v := 0) C dX3_grant_93 (by decide) ?_
  obtain ⟨r94, c94, hf⟩ := oB hf
  refine b_callVv (K := 2) (As := [.int v1, .int 1, .int 0]) (res := r94) C (metX2_put l G _ _ _ _ _ _ ((kd3 C.cl hk0).2.1) c94) ((kd3 C.cl hk0).2.1) (by decide) rfl gkX3_33 ekX3_33 rfl ⟨rfl, rfl⟩ ⟨Nat.le_of_ble_eq_true rfl, Nat.le_of_ble_eq_true rfl⟩ (by simp [Value.category]) ⟨Nat.zero_le _, Nat.zero_le _⟩ rfl dX3_grant_94 ?_
  refine b_aload_n C dX3_grant_97 rfl 0 rfl ?_
  refine gfX3_12 C hk0 dX3_grant_98 ?_
  refine b_iload_n C dX3_grant_101 rfl 1 rfl ?_
  refine b_iload_n C dX3_grant_102 rfl 2 rfl ?_
  refine b_iload_n C dX3_grant_103 rfl 3 rfl ?_
  refine b_iload C dX3_grant_104 4 rfl ?_
  obtain ⟨r106, c106, hf⟩ := oB hf
  refine b_callVv (K := 4) (As := [.int v1, .int v2, .int v3, .int v4]) (res := r106) C (metX4_lend l G _ _ _ _ _ _ _ ((kd3 C.cl hk0).1) c106) ((kd3 C.cl hk0).1) (by decide) rfl gkX3_112 ekX3_112 rfl ⟨rfl, rfl⟩ ⟨Nat.le_of_ble_eq_true rfl, Nat.le_of_ble_eq_true rfl⟩ (by simp [Value.category]) ⟨Nat.zero_le _, Nat.zero_le _⟩ rfl dX3_grant_106 ?_
  refine b_aload_n C dX3_grant_109 rfl 0 rfl ?_
  refine gfX3_27 C hk0 dX3_grant_110 ?_
  refine b_iconst (v := 0) C dX3_grant_113 (by decide) ?_
  refine b_iconst (v := 4) C dX3_grant_114 (by decide) ?_
  refine b_iconst (v := 1) C dX3_grant_115 (by decide) ?_
  obtain ⟨r116, c116, hf⟩ := oB hf
  refine b_callVv (K := 2) (As := [.int 0, .int 4, .int 1]) (res := r116) C (metX2_raise l G _ _ _ _ _ _ ((kd3 C.cl hk0).2.2.1) c116) ((kd3 C.cl hk0).2.2.1) (by decide) rfl gkX3_94 ekX3_94 rfl ⟨rfl, rfl⟩ ⟨Nat.le_of_ble_eq_true rfl, Nat.le_of_ble_eq_true rfl⟩ (by simp [Value.category]) ⟨Nat.zero_le _, Nat.zero_le _⟩ rfl dX3_grant_116 ?_
  exact b_vret C dX3_grant_119 hf
set_option maxHeartbeats 4000000 in
set_option maxRecDepth 100000 in
theorem wX3_grant_b0 (C : CT p s m args meth c cX3_grant 5 RX3 none G (pA G s.heap.size)) {i0 : Nat} {v1 : Int32} {v2 : Int32} {v3 : Int32} {v4 : Int32} {x : xS} {r : xS} (hk0 : KD G i0 3) (hf : fX3_grant_b0 i0 v1 v2 v3 v4 x = some r) : WB p l e rX3_grant s m args below meth c 5 G (pA G s.heap.size) (qV below G r args s 0 0) 0 0 0 [(0, .ref (G.2.2 i0)), (1, .int v1), (2, .int v2), (3, .int v3), (4, .int v4)] [] x := by
  unfold fX3_grant_b0 at hf
  refine b_aload_n C dX3_grant_0 rfl 0 rfl ?_
  refine b_iload_n C dX3_grant_1 rfl 1 rfl ?_
  obtain ⟨r2, c2, hf⟩ := oB hf
  refine b_callVi (K := 3) (As := [.int v1]) (res := (r2, x)) C (metX3_isEighth l G _ _ _ _ hk0 c2) hk0 (by decide) rfl gkX3_69 ekX3_69 rfl ⟨rfl, rfl⟩ ⟨Nat.le_of_ble_eq_true rfl, Nat.le_of_ble_eq_true rfl⟩ (by simp [Value.category]) ⟨Nat.zero_le _, Nat.zero_le _⟩ rfl dX3_grant_2 ?_
  refine b_if_eq (tgt := 58) C dX3_grant_5 (by decide) (fun c5 => ?_) (fun c5 => ?_)
  · have hf := iT c5 hf
    refine b_aload_n C dX3_grant_58 rfl 0 rfl ?_
    refine b_iload_n C dX3_grant_59 rfl 1 rfl ?_
    obtain ⟨r60, c60, hf⟩ := oB hf
    refine b_callVi (K := 3) (As := [.int v1]) (res := (r60, x)) C (metX3_hasTooLittleNeed l G _ _ _ _ hk0 c60) hk0 (by decide) rfl gkX3_72 ekX3_72 rfl ⟨rfl, rfl⟩ ⟨Nat.le_of_ble_eq_true rfl, Nat.le_of_ble_eq_true rfl⟩ (by simp [Value.category]) ⟨Nat.zero_le _, Nat.zero_le _⟩ rfl dX3_grant_60 ?_
    refine b_if_eq (tgt := 87) C dX3_grant_63 (by decide) (fun c63 => ?_) (fun c63 => ?_)
    · have hf := iT c63 hf
      exact wX3_grant_b87 C  hk0 hf
    · have hf := iF c63 hf
      refine b_aload_n C dX3_grant_66 rfl 0 rfl ?_
      refine gfX3_23 C hk0 dX3_grant_67 ?_
      refine b_iload_n C dX3_grant_70 rfl 1 rfl ?_
      refine b_iconst (v := 2) C dX3_grant_71 (by decide) ?_
      refine b_iconst (v := (-1)) C dX3_grant_72 (by decide) ?_
      obtain ⟨r73, c73, hf⟩ := oB hf
      refine b_callVv (K := 2) (As := [.int v1, .int 2, .int (-1)]) (res := r73) C (metX2_raise l G _ _ _ _ _ _ ((kd3 C.cl hk0).2.1) c73) ((kd3 C.cl hk0).2.1) (by decide) rfl gkX3_94 ekX3_94 rfl ⟨rfl, rfl⟩ ⟨Nat.le_of_ble_eq_true rfl, Nat.le_of_ble_eq_true rfl⟩ (by simp [Value.category]) ⟨Nat.zero_le _, Nat.zero_le _⟩ rfl dX3_grant_73 ?_
      refine b_aload_n C dX3_grant_76 rfl 0 rfl ?_
      refine gfX3_27 C hk0 dX3_grant_77 ?_
      refine b_iconst (v := 0) C dX3_grant_80 (by decide) ?_
      refine b_bipush (v := 8) C dX3_grant_81 (by decide) ?_
      refine b_iconst (v := 1) C dX3_grant_83 (by decide) ?_
      obtain ⟨r84, c84, hf⟩ := oB hf
      refine b_callVv (K := 2) (As := [.int 0, .int 8, .int 1]) (res := r84) C (metX2_raise l G _ _ _ _ _ _ ((kd3 C.cl hk0).2.2.1) c84) ((kd3 C.cl hk0).2.2.1) (by decide) rfl gkX3_94 ekX3_94 rfl ⟨rfl, rfl⟩ ⟨Nat.le_of_ble_eq_true rfl, Nat.le_of_ble_eq_true rfl⟩ (by simp [Value.category]) ⟨Nat.zero_le _, Nat.zero_le _⟩ rfl dX3_grant_84 ?_
      exact wX3_grant_b87 C  hk0 hf
  · have hf := iF c5 hf
    refine b_aload_n C dX3_grant_8 rfl 0 rfl ?_
    refine gfX3_23 C hk0 dX3_grant_9 ?_
    refine b_iload_n C dX3_grant_12 rfl 1 rfl ?_
    refine b_bipush (v := 6) C dX3_grant_13 (by decide) ?_
    refine b_iconst (v := 1) C dX3_grant_15 (by decide) ?_
    obtain ⟨r16, c16, hf⟩ := oB hf
    refine b_callVv (K := 2) (As := [.int v1, .int 6, .int 1]) (res := r16) C (metX2_raise l G _ _ _ _ _ _ ((kd3 C.cl hk0).2.1) c16) ((kd3 C.cl hk0).2.1) (by decide) rfl gkX3_94 ekX3_94 rfl ⟨rfl, rfl⟩ ⟨Nat.le_of_ble_eq_true rfl, Nat.le_of_ble_eq_true rfl⟩ (by simp [Value.category]) ⟨Nat.zero_le _, Nat.zero_le _⟩ rfl dX3_grant_16 ?_
    refine b_aload_n C dX3_grant_19 rfl 0 rfl ?_
    refine b_aload_n C dX3_grant_20 rfl 0 rfl ?_
    refine gfX3_12 C hk0 dX3_grant_21 ?_
    refine b_iload_n C dX3_grant_24 rfl 2 rfl ?_
    refine b_iload_n C dX3_grant_25 rfl 3 rfl ?_
    refine b_iload C dX3_grant_26 4 rfl ?_
    obtain ⟨r28, c28, hf⟩ := oB hf
    refine b_callVi (K := 4) (As := [.int v2, .int v3, .int v4]) (res := (r28, r16)) C (metX4_holdersMask l G _ _ _ _ _ _ ((kd3 C.cl hk0).1) c28) ((kd3 C.cl hk0).1) (by decide) rfl gkX3_84 ekX3_84 rfl ⟨rfl, rfl⟩ ⟨Nat.le_of_ble_eq_true rfl, Nat.le_of_ble_eq_true rfl⟩ (by simp [Value.category]) ⟨Nat.zero_le _, Nat.zero_le _⟩ rfl dX3_grant_28 ?_
    obtain ⟨r31, c31, hf⟩ := oB hf
    refine b_callVv (K := 3) (As := [.int r28]) (res := r31) C (metX3_countPutOut l G _ _ _ _ hk0 c31) hk0 (by decide) rfl gkX3_106 ekX3_106 rfl ⟨rfl, rfl⟩ ⟨Nat.le_of_ble_eq_true rfl, Nat.le_of_ble_eq_true rfl⟩ (by simp [Value.category]) ⟨Nat.zero_le _, Nat.zero_le _⟩ rfl dX3_grant_31 ?_
    refine b_aload_n C dX3_grant_34 rfl 0 rfl ?_
    refine gfX3_27 C hk0 dX3_grant_35 ?_
    refine b_iconst (v := 0) C dX3_grant_38 (by decide) ?_
    refine b_bipush (v := 7) C dX3_grant_39 (by decide) ?_
    refine b_aload_n C dX3_grant_41 rfl 0 rfl ?_
    refine gfX3_12 C hk0 dX3_grant_42 ?_
    refine b_iload_n C dX3_grant_45 rfl 2 rfl ?_
    refine b_iload_n C dX3_grant_46 rfl 3 rfl ?_
    refine b_iload C dX3_grant_47 4 rfl ?_
    obtain ⟨r49, c49, hf⟩ := oB hf
    refine b_callVi (K := 4) (As := [.int v2, .int v3, .int v4]) (res := r49) C (metX4_freePiecesIn l G _ _ _ _ _ _ ((kd3 C.cl hk0).1) c49) ((kd3 C.cl hk0).1) (by decide) rfl gkX3_109 ekX3_109 rfl ⟨rfl, rfl⟩ ⟨Nat.le_of_ble_eq_true rfl, Nat.le_of_ble_eq_true rfl⟩ (by simp [Value.category]) ⟨Nat.zero_le _, Nat.zero_le _⟩ rfl dX3_grant_49 ?_
    obtain ⟨r52, c52, hf⟩ := oB hf
    refine b_callVv (K := 2) (As := [.int 0, .int 7, .int r49.1]) (res := r52) C (metX2_raise l G _ _ _ _ _ _ ((kd3 C.cl hk0).2.2.1) c52) ((kd3 C.cl hk0).2.2.1) (by decide) rfl gkX3_94 ekX3_94 rfl ⟨rfl, rfl⟩ ⟨Nat.le_of_ble_eq_true rfl, Nat.le_of_ble_eq_true rfl⟩ (by simp [Value.category]) ⟨Nat.zero_le _, Nat.zero_le _⟩ rfl dX3_grant_52 ?_
    refine b_goto (tgt := 87) C dX3_grant_55 (by decide) ?_
    exact wX3_grant_b87 C  hk0 hf
end
theorem metX3_grant (l : Launch) (G : gT) (i0 : Nat) (v1 : Int32) (v2 : Int32) (v3 : Int32) (v4 : Int32) (x : xS) (r : xS) (hk0 : KD G i0 3) (hf : fX3_grant i0 v1 v2 v3 v4 x = some r) : cV l yX3_grant cX3_grant 5 rX3_grant [.ref (G.2.2 i0), .int v1, .int v2, .int v3, .int v4] G x r :=
  b_body (by decide) (Nat.le_of_ble_eq_true rfl) rfl (fun p e s m args below meth c C => wX3_grant_b0 C hk0 hf)
-- X3_isPoorer
abbrev rX3_isPoorer : Room := { frames := 1, cells := 0, slots := 0, locals := 22 }
def fX3_isPoorer_b49 (i0 : Nat) (x : xS)  : Option Int32 :=
  some 1
def fX3_isPoorer_b53 (i0 : Nat) (x : xS)  : Option Int32 :=
  some 0
def fX3_isPoorer_b0 (i0 : Nat) (v1 : Int32) (v2 : Int32) (x : xS)  : Option Int32 :=
  Option.bind (fX2_get (i0 + 4) v1 1 x) (fun r6 =>
  Option.bind (fX2_get (i0 + 4) v2 1 x) (fun r15 =>
  lt1 (r6 - r15) (fun y19 => 
  (if (0 : Int32) < y19 then
  fX3_isPoorer_b49 i0 x 
  else
  (if y19 = 0 then
  Option.bind (fX2_get (i0 + 4) v1 0 x) (fun r34 =>
  Option.bind (fX2_get (i0 + 4) v2 0 x) (fun r43 =>
  (if r34 ≤ r43 then
  fX3_isPoorer_b53 i0 x 
  else
  fX3_isPoorer_b49 i0 x )))
  else
  fX3_isPoorer_b53 i0 x )))))
def fX3_isPoorer (i0 : Nat) (v1 : Int32) (v2 : Int32) (x : xS) : Option Int32 := fX3_isPoorer_b0 i0 v1 v2 x
section
variable {p : Program} {l : Launch} {e : Env} {R : Room} {s : State} {m : MethodId} {args : Array Value} {below : List Frame} {meth : Method} {c : Code} {G : gT}
set_option maxHeartbeats 4000000 in
set_option maxRecDepth 100000 in
theorem wX3_isPoorer_b49 (C : CT p s m args meth c cX3_isPoorer 4 RX3 (some (.boolean)) G (pA G s.heap.size)) {i0 : Nat} {x : xS}  {r : Int32} (hk0 : KD G i0 3) (hf : fX3_isPoorer_b49 i0 x  = some r) : WB p l e rX3_isPoorer s m args below meth c 4 G (pA G s.heap.size) (qI below G (r, x) args s 0 0) 0 0 49 [(0, .ref (G.2.2 i0))] [] x := by
  unfold fX3_isPoorer_b49 at hf
  refine b_iconst (v := 1) C dX3_isPoorer_49 (by decide) ?_
  refine b_goto (tgt := 54) C dX3_isPoorer_50 (by decide) ?_
  exact b_iretz C (by decide) dX3_isPoorer_54 (congrArg (Option.map (fun q => (q, x))) hf)
set_option maxHeartbeats 4000000 in
set_option maxRecDepth 100000 in
theorem wX3_isPoorer_b53 (C : CT p s m args meth c cX3_isPoorer 4 RX3 (some (.boolean)) G (pA G s.heap.size)) {i0 : Nat} {x : xS}  {r : Int32} (hk0 : KD G i0 3) (hf : fX3_isPoorer_b53 i0 x  = some r) : WB p l e rX3_isPoorer s m args below meth c 4 G (pA G s.heap.size) (qI below G (r, x) args s 0 0) 0 0 53 [(0, .ref (G.2.2 i0))] [] x := by
  unfold fX3_isPoorer_b53 at hf
  refine b_iconst (v := 0) C dX3_isPoorer_53 (by decide) ?_
  exact b_iretz C (by decide) dX3_isPoorer_54 (congrArg (Option.map (fun q => (q, x))) hf)
set_option maxHeartbeats 4000000 in
set_option maxRecDepth 100000 in
theorem wX3_isPoorer_b0 (C : CT p s m args meth c cX3_isPoorer 4 RX3 (some (.boolean)) G (pA G s.heap.size)) {i0 : Nat} {v1 : Int32} {v2 : Int32} {x : xS}  {r : Int32} (hk0 : KD G i0 3) (hf : fX3_isPoorer_b0 i0 v1 v2 x  = some r) : WB p l e rX3_isPoorer s m args below meth c 4 G (pA G s.heap.size) (qI below G (r, x) args s 0 0) 0 0 0 [(0, .ref (G.2.2 i0)), (1, .int v1), (2, .int v2)] [] x := by
  unfold fX3_isPoorer_b0 at hf
  refine b_aload_n C dX3_isPoorer_0 rfl 0 rfl ?_
  refine gfX3_23 C hk0 dX3_isPoorer_1 ?_
  refine b_iload_n C dX3_isPoorer_4 rfl 1 rfl ?_
  refine b_iconst (v := 1) C dX3_isPoorer_5 (by decide) ?_
  obtain ⟨r6, c6, hf⟩ := oB hf
  refine b_callVi (K := 2) (As := [.int v1, .int 1]) (res := (r6, x)) C (metX2_get l G _ _ _ _ _ ((kd3 C.cl hk0).2.1) c6) ((kd3 C.cl hk0).2.1) (by decide) rfl gkX3_51 ekX3_51 rfl ⟨rfl, rfl⟩ ⟨Nat.le_of_ble_eq_true rfl, Nat.le_of_ble_eq_true rfl⟩ (by simp [Value.category]) ⟨Nat.zero_le _, Nat.zero_le _⟩ rfl dX3_isPoorer_6 ?_
  refine b_aload_n C dX3_isPoorer_9 rfl 0 rfl ?_
  refine gfX3_23 C hk0 dX3_isPoorer_10 ?_
  refine b_iload_n C dX3_isPoorer_13 rfl 2 rfl ?_
  refine b_iconst (v := 1) C dX3_isPoorer_14 (by decide) ?_
  obtain ⟨r15, c15, hf⟩ := oB hf
  refine b_callVi (K := 2) (As := [.int v2, .int 1]) (res := (r15, x)) C (metX2_get l G _ _ _ _ _ ((kd3 C.cl hk0).2.1) c15) ((kd3 C.cl hk0).2.1) (by decide) rfl gkX3_51 ekX3_51 rfl ⟨rfl, rfl⟩ ⟨Nat.le_of_ble_eq_true rfl, Nat.le_of_ble_eq_true rfl⟩ (by simp [Value.category]) ⟨Nat.zero_le _, Nat.zero_le _⟩ rfl dX3_isPoorer_15 ?_
  refine b_isub C dX3_isPoorer_18 ?_
  obtain ⟨y19, e19, hf⟩ := lN1 hf
  rw [e19]
  refine b_istore_n (lv' := [(3, .int y19), (0, .ref (G.2.2 i0)), (1, .int v1), (2, .int v2)]) C dX3_isPoorer_19 rfl (by decide) rfl ?_
  refine b_iload_n C dX3_isPoorer_20 rfl 0 rfl ?_
  refine b_if_gt (tgt := 49) C dX3_isPoorer_21 (by decide) (fun c21 => ?_) (fun c21 => ?_)
  · have hf := iT c21 hf
    refine b_pm [1] (lv' := [(0, .ref (G.2.2 i0))]) rfl ?_
    exact wX3_isPoorer_b49 C  hk0 hf
  · have hf := iF c21 hf
    refine b_iload_n C dX3_isPoorer_24 rfl 0 rfl ?_
    refine b_if_ne (tgt := 53) C dX3_isPoorer_25 (by decide) (fun c25 => ?_) (fun c25 => ?_)
    · have hf := iF c25 hf
      refine b_pm [1] (lv' := [(0, .ref (G.2.2 i0))]) rfl ?_
      exact wX3_isPoorer_b53 C  hk0 hf
    · have hf := iT c25 hf
      refine b_aload_n C dX3_isPoorer_28 rfl 1 rfl ?_
      refine gfX3_23 C hk0 dX3_isPoorer_29 ?_
      refine b_iload_n C dX3_isPoorer_32 rfl 2 rfl ?_
      refine b_iconst (v := 0) C dX3_isPoorer_33 (by decide) ?_
      obtain ⟨r34, c34, hf⟩ := oB hf
      refine b_callVi (K := 2) (As := [.int v1, .int 0]) (res := (r34, x)) C (metX2_get l G _ _ _ _ _ ((kd3 C.cl hk0).2.1) c34) ((kd3 C.cl hk0).2.1) (by decide) rfl gkX3_51 ekX3_51 rfl ⟨rfl, rfl⟩ ⟨Nat.le_of_ble_eq_true rfl, Nat.le_of_ble_eq_true rfl⟩ (by simp [Value.category]) ⟨Nat.zero_le _, Nat.zero_le _⟩ rfl dX3_isPoorer_34 ?_
      refine b_aload_n C dX3_isPoorer_37 rfl 1 rfl ?_
      refine gfX3_23 C hk0 dX3_isPoorer_38 ?_
      refine b_iload_n C dX3_isPoorer_41 rfl 3 rfl ?_
      refine b_iconst (v := 0) C dX3_isPoorer_42 (by decide) ?_
      obtain ⟨r43, c43, hf⟩ := oB hf
      refine b_callVi (K := 2) (As := [.int v2, .int 0]) (res := (r43, x)) C (metX2_get l G _ _ _ _ _ ((kd3 C.cl hk0).2.1) c43) ((kd3 C.cl hk0).2.1) (by decide) rfl gkX3_51 ekX3_51 rfl ⟨rfl, rfl⟩ ⟨Nat.le_of_ble_eq_true rfl, Nat.le_of_ble_eq_true rfl⟩ (by simp [Value.category]) ⟨Nat.zero_le _, Nat.zero_le _⟩ rfl dX3_isPoorer_43 ?_
      refine b_icmp_le (tgt := 53) C dX3_isPoorer_46 (by decide) (fun c46 => ?_) (fun c46 => ?_)
      · have hf := iT c46 hf
        refine b_pm [1] (lv' := [(0, .ref (G.2.2 i0))]) rfl ?_
        exact wX3_isPoorer_b53 C  hk0 hf
      · have hf := iF c46 hf
        refine b_pm [1] (lv' := [(0, .ref (G.2.2 i0))]) rfl ?_
        exact wX3_isPoorer_b49 C  hk0 hf
end
theorem metX3_isPoorer (l : Launch) (G : gT) (i0 : Nat) (v1 : Int32) (v2 : Int32) (x : xS) (r : Int32) (hk0 : KD G i0 3) (hf : fX3_isPoorer i0 v1 v2 x = some r) : cI l yX3_isPoorer cX3_isPoorer 4 (.boolean) rX3_isPoorer [.ref (G.2.2 i0), .int v1, .int v2] G x (r, x) :=
  b_body (by decide) (Nat.le_of_ble_eq_true rfl) rfl (fun p e s m args below meth c C => wX3_isPoorer_b0 C hk0 hf)
-- X4_advance
abbrev rX4_advance : Room := { frames := 2, cells := 0, slots := 0, locals := 44 }
def fX4_advance_b0 (i0 : Nat) (x : xS) : Option xS :=
  lt1 (up1 x i0 1 ((x.1 i0 1) + 1)) (fun x7 =>
  (if (x7.1 i0 1) < 12 then
  some x7
  else
  Option.bind (fX2_fill (i0 + 1) (-1) x7) (fun r24 =>
  lt1 (up1 r24 i0 1 0) (fun x29 =>
  some x29))))
def fX4_advance (i0 : Nat) (x : xS) : Option xS := fX4_advance_b0 i0 x
section
variable {p : Program} {l : Launch} {e : Env} {R : Room} {s : State} {m : MethodId} {args : Array Value} {below : List Frame} {meth : Method} {c : Code} {G : gT}
set_option maxHeartbeats 4000000 in
set_option maxRecDepth 100000 in
theorem wX4_advance_b0 (C : CT p s m args meth c cX4_advance 1 RX4 none G (pA G s.heap.size)) {i0 : Nat} {x : xS} {r : xS} (hk0 : KD G i0 4) (hf : fX4_advance_b0 i0 x = some r) : WB p l e rX4_advance s m args below meth c 1 G (pA G s.heap.size) (qV below G r args s 0 0) 0 0 0 [(0, .ref (G.2.2 i0))] [] x := by
  unfold fX4_advance_b0 at hf
  refine b_aload_n C dX4_advance_0 rfl 0 rfl ?_
  refine b_dup C dX4_advance_1 rfl ?_
  refine gfX4_28 C hk0 dX4_advance_2 ?_
  refine b_iconst (v := 1) C dX4_advance_5 (by decide) ?_
  refine b_iadd C dX4_advance_6 ?_
  obtain ⟨x7, e7, hf⟩ := lN1 hf
  refine pfX4_28 C hk0 dX4_advance_7 e7 ?_
  refine b_aload_n C dX4_advance_10 rfl 0 rfl ?_
  refine gfX4_28 C hk0 dX4_advance_11 ?_
  refine b_bipush (v := 12) C dX4_advance_14 (by decide) ?_
  refine b_icmp_lt (tgt := 32) C dX4_advance_16 (by decide) (fun c16 => ?_) (fun c16 => ?_)
  · have hf := iT c16 hf
    exact b_vret C dX4_advance_32 hf
  · have hf := iF c16 hf
    refine b_aload_n C dX4_advance_19 rfl 0 rfl ?_
    refine gfX4_14 C hk0 dX4_advance_20 ?_
    refine b_iconst (v := (-1)) C dX4_advance_23 (by decide) ?_
    obtain ⟨r24, c24, hf⟩ := oB hf
    refine b_callVv (K := 2) (As := [.int (-1)]) (res := r24) C (metX2_fill l G _ _ _ _ (kd4 C.cl hk0) c24) (kd4 C.cl hk0) (by decide) rfl gkX4_20 ekX4_20 rfl ⟨rfl, rfl⟩ ⟨Nat.le_of_ble_eq_true rfl, Nat.le_of_ble_eq_true rfl⟩ (by simp [Value.category]) ⟨Nat.zero_le _, Nat.zero_le _⟩ rfl dX4_advance_24 ?_
    refine b_aload_n C dX4_advance_27 rfl 0 rfl ?_
    refine b_iconst (v := 0) C dX4_advance_28 (by decide) ?_
    obtain ⟨x29, e29, hf⟩ := lN1 hf
    refine pfX4_28 C hk0 dX4_advance_29 e29 ?_
    exact b_vret C dX4_advance_32 hf
end
theorem metX4_advance (l : Launch) (G : gT) (i0 : Nat) (x : xS) (r : xS) (hk0 : KD G i0 4) (hf : fX4_advance i0 x = some r) : cV l yX4_advance cX4_advance 1 rX4_advance [.ref (G.2.2 i0)] G x r :=
  b_body (by decide) (Nat.le_of_ble_eq_true rfl) rfl (fun p e s m args below meth c C => wX4_advance_b0 C hk0 hf)
-- X3_letHourGo
abbrev rX3_letHourGo : Room := { frames := 3, cells := 0, slots := 0, locals := 70 }
def fX3_letHourGo_b87 (i0 : Nat) (v2 : Int32) (x : xS) : Option (Int32 × xS) :=
  some (v2, x)
def fX3_letHourGo_b19 (i0 : Nat) : Nat → Int32 → Int32 → Int32 → xS → Option (Int32 × xS)
  | 0, _, _, _, _ => none
  | n + 1, v1, v2, v3, x => (if (10 : Int32) ≤ v3 then
  Option.bind (fX2_raise (i0 + 6) 0 3 v2 x) (fun r57 =>
  Option.bind (fX4_advance (i0 + 1) r57) (fun r64 =>
  Option.bind (fX4_goneHours (i0 + 1) r64) (fun r71 =>
  (if r71 = 0 then
  Option.bind (fX2_raise (i0 + 6) 0 1 1 r64) (fun r84 =>
  fX3_letHourGo_b87 i0 v2 r84)
  else
  fX3_letHourGo_b87 i0 v2 r64))))
  else
  Option.bind (fX4_hoursWithBed (i0 + 1) v3 v1 1 x) (fun r38 =>
  Option.bind (fX2_raise (i0 + 4) v3 4 r38 x) (fun r41 =>
  fX3_letHourGo_b19 i0 n v1 v2 (v3 + 1) r41)))
def fX3_letHourGo_b0 (i0 : Nat) (x : xS) : Option (Int32 × xS) :=
  Option.bind (fX4_goneHours (i0 + 1) x) (fun r4 =>
  Option.bind (fX4_lentBeds (i0 + 1) r4 x) (fun r13 =>
  fX3_letHourGo_b19 i0 FU r4 r13 0 x))
def fX3_letHourGo (i0 : Nat) (x : xS) : Option (Int32 × xS) := fX3_letHourGo_b0 i0 x
section
variable {p : Program} {l : Launch} {e : Env} {R : Room} {s : State} {m : MethodId} {args : Array Value} {below : List Frame} {meth : Method} {c : Code} {G : gT}
set_option maxHeartbeats 4000000 in
set_option maxRecDepth 100000 in
theorem wX3_letHourGo_b87 (C : CT p s m args meth c cX3_letHourGo 4 RX3 (some (.int)) G (pA G s.heap.size)) {i0 : Nat} {v2 : Int32} {x : xS} {r : (Int32 × xS)} (hk0 : KD G i0 3) (hf : fX3_letHourGo_b87 i0 v2 x = some r) : WB p l e rX3_letHourGo s m args below meth c 4 G (pA G s.heap.size) (qI below G r args s 0 0) 0 0 87 [(0, .ref (G.2.2 i0)), (2, .int v2)] [] x := by
  unfold fX3_letHourGo_b87 at hf
  refine b_iload_n C dX3_letHourGo_87 rfl 1 rfl ?_
  exact b_ireti C dX3_letHourGo_88 hf
set_option maxHeartbeats 4000000 in
set_option maxRecDepth 100000 in
theorem wX3_letHourGo_b19 (C : CT p s m args meth c cX3_letHourGo 4 RX3 (some (.int)) G (pA G s.heap.size)) {i0 : Nat} {r : (Int32 × xS)} (hk0 : KD G i0 3) : ∀ (n : Nat) (v1 : Int32) (v2 : Int32) (v3 : Int32) (x : xS), fX3_letHourGo_b19 i0 n v1 v2 v3 x = some r → WB p l e rX3_letHourGo s m args below meth c 4 G (pA G s.heap.size) (qI below G r args s 0 0) 0 0 19 [(0, .ref (G.2.2 i0)), (1, .int v1), (2, .int v2), (3, .int v3)] [] x := by
  intro n
  induction n with
  | zero =>
    intro v1 v2 v3 x hf
    cases hf
  | succ n ih =>
    intro v1 v2 v3 x hf
    rw [fX3_letHourGo_b19] at hf
    refine b_iload_n C dX3_letHourGo_19 rfl 3 rfl ?_
    refine b_bipush (v := 10) C dX3_letHourGo_20 (by decide) ?_
    refine b_icmp_ge (tgt := 50) C dX3_letHourGo_22 (by decide) (fun c22 => ?_) (fun c22 => ?_)
    · have hf := iT c22 hf
      refine b_aload_n C dX3_letHourGo_50 rfl 0 rfl ?_
      refine gfX3_27 C hk0 dX3_letHourGo_51 ?_
      refine b_iconst (v := 0) C dX3_letHourGo_54 (by decide) ?_
      refine b_iconst (v := 3) C dX3_letHourGo_55 (by decide) ?_
      refine b_iload_n C dX3_letHourGo_56 rfl 2 rfl ?_
      obtain ⟨r57, c57, hf⟩ := oB hf
      refine b_callVv (K := 2) (As := [.int 0, .int 3, .int v2]) (res := r57) C (metX2_raise l G _ _ _ _ _ _ ((kd3 C.cl hk0).2.2.1) c57) ((kd3 C.cl hk0).2.2.1) (by decide) rfl gkX3_94 ekX3_94 rfl ⟨rfl, rfl⟩ ⟨Nat.le_of_ble_eq_true rfl, Nat.le_of_ble_eq_true rfl⟩ (by simp [Value.category]) ⟨Nat.zero_le _, Nat.zero_le _⟩ rfl dX3_letHourGo_57 ?_
      refine b_aload_n C dX3_letHourGo_60 rfl 0 rfl ?_
      refine gfX3_12 C hk0 dX3_letHourGo_61 ?_
      obtain ⟨r64, c64, hf⟩ := oB hf
      refine b_callVv (K := 4) (As := []) (res := r64) C (metX4_advance l G _ _ _ ((kd3 C.cl hk0).1) c64) ((kd3 C.cl hk0).1) (by decide) rfl gkX3_130 ekX3_130 rfl ⟨rfl, rfl⟩ ⟨Nat.le_of_ble_eq_true rfl, Nat.le_of_ble_eq_true rfl⟩ (by simp [Value.category]) ⟨Nat.zero_le _, Nat.zero_le _⟩ rfl dX3_letHourGo_64 ?_
      refine b_aload_n C dX3_letHourGo_67 rfl 0 rfl ?_
      refine gfX3_12 C hk0 dX3_letHourGo_68 ?_
      obtain ⟨r71, c71, hf⟩ := oB hf
      refine b_callVi (K := 4) (As := []) (res := (r71, r64)) C (metX4_goneHours l G _ _ _ ((kd3 C.cl hk0).1) c71) ((kd3 C.cl hk0).1) (by decide) rfl gkX3_44 ekX3_44 rfl ⟨rfl, rfl⟩ ⟨Nat.le_of_ble_eq_true rfl, Nat.le_of_ble_eq_true rfl⟩ (by simp [Value.category]) ⟨Nat.zero_le _, Nat.zero_le _⟩ rfl dX3_letHourGo_71 ?_
      refine b_if_ne (tgt := 87) C dX3_letHourGo_74 (by decide) (fun c74 => ?_) (fun c74 => ?_)
      · have hf := iF c74 hf
        refine b_pm [0, 2] (lv' := [(0, .ref (G.2.2 i0)), (2, .int v2)]) rfl ?_
        exact wX3_letHourGo_b87 C  hk0 hf
      · have hf := iT c74 hf
        refine b_aload_n C dX3_letHourGo_77 rfl 0 rfl ?_
        refine gfX3_27 C hk0 dX3_letHourGo_78 ?_
        refine b_iconst (v := 0) C dX3_letHourGo_81 (by decide) ?_
        refine b_iconst (v := 1) C dX3_letHourGo_82 (by decide) ?_
        refine b_iconst (v := 1) C dX3_letHourGo_83 (by decide) ?_
        obtain ⟨r84, c84, hf⟩ := oB hf
        refine b_callVv (K := 2) (As := [.int 0, .int 1, .int 1]) (res := r84) C (metX2_raise l G _ _ _ _ _ _ ((kd3 C.cl hk0).2.2.1) c84) ((kd3 C.cl hk0).2.2.1) (by decide) rfl gkX3_94 ekX3_94 rfl ⟨rfl, rfl⟩ ⟨Nat.le_of_ble_eq_true rfl, Nat.le_of_ble_eq_true rfl⟩ (by simp [Value.category]) ⟨Nat.zero_le _, Nat.zero_le _⟩ rfl dX3_letHourGo_84 ?_
        refine b_pm [0, 2] (lv' := [(0, .ref (G.2.2 i0)), (2, .int v2)]) rfl ?_
        exact wX3_letHourGo_b87 C  hk0 hf
    · have hf := iF c22 hf
      refine b_aload_n C dX3_letHourGo_25 rfl 0 rfl ?_
      refine gfX3_23 C hk0 dX3_letHourGo_26 ?_
      refine b_iload_n C dX3_letHourGo_29 rfl 3 rfl ?_
      refine b_iconst (v := 4) C dX3_letHourGo_30 (by decide) ?_
      refine b_aload_n C dX3_letHourGo_31 rfl 0 rfl ?_
      refine gfX3_12 C hk0 dX3_letHourGo_32 ?_
      refine b_iload_n C dX3_letHourGo_35 rfl 3 rfl ?_
      refine b_iload_n C dX3_letHourGo_36 rfl 1 rfl ?_
      refine b_iconst (v := 1) C dX3_letHourGo_37 (by decide) ?_
      obtain ⟨r38, c38, hf⟩ := oB hf
      refine b_callVi (K := 4) (As := [.int v3, .int v1, .int 1]) (res := (r38, x)) C (metX4_hoursWithBed l G _ _ _ _ _ _ ((kd3 C.cl hk0).1) c38) ((kd3 C.cl hk0).1) (by decide) rfl gkX3_55 ekX3_55 rfl ⟨rfl, rfl⟩ ⟨Nat.le_of_ble_eq_true rfl, Nat.le_of_ble_eq_true rfl⟩ (by simp [Value.category]) ⟨Nat.zero_le _, Nat.zero_le _⟩ rfl dX3_letHourGo_38 ?_
      obtain ⟨r41, c41, hf⟩ := oB hf
      refine b_callVv (K := 2) (As := [.int v3, .int 4, .int r38]) (res := r41) C (metX2_raise l G _ _ _ _ _ _ ((kd3 C.cl hk0).2.1) c41) ((kd3 C.cl hk0).2.1) (by decide) rfl gkX3_94 ekX3_94 rfl ⟨rfl, rfl⟩ ⟨Nat.le_of_ble_eq_true rfl, Nat.le_of_ble_eq_true rfl⟩ (by simp [Value.category]) ⟨Nat.zero_le _, Nat.zero_le _⟩ rfl dX3_letHourGo_41 ?_
      refine b_iinc (q := 3) (v' := (v3 + 1)) (lv' := [(3, .int (v3 + 1)), (0, .ref (G.2.2 i0)), (1, .int v1), (2, .int v2)]) C dX3_letHourGo_44 rfl rfl (by decide) rfl ?_
      refine b_goto (tgt := 19) C dX3_letHourGo_47 (by decide) ?_
      refine b_pm [1, 2, 3, 0] (lv' := [(0, .ref (G.2.2 i0)), (1, .int v1), (2, .int v2), (3, .int (v3 + 1))]) rfl ?_
      exact ih _ _ _ _ hf
set_option maxHeartbeats 4000000 in
set_option maxRecDepth 100000 in
theorem wX3_letHourGo_b0 (C : CT p s m args meth c cX3_letHourGo 4 RX3 (some (.int)) G (pA G s.heap.size)) {i0 : Nat} {x : xS} {r : (Int32 × xS)} (hk0 : KD G i0 3) (hf : fX3_letHourGo_b0 i0 x = some r) : WB p l e rX3_letHourGo s m args below meth c 4 G (pA G s.heap.size) (qI below G r args s 0 0) 0 0 0 [(0, .ref (G.2.2 i0))] [] x := by
  unfold fX3_letHourGo_b0 at hf
  refine b_aload_n C dX3_letHourGo_0 rfl 0 rfl ?_
  refine gfX3_12 C hk0 dX3_letHourGo_1 ?_
  obtain ⟨r4, c4, hf⟩ := oB hf
  refine b_callVi (K := 4) (As := []) (res := (r4, x)) C (metX4_goneHours l G _ _ _ ((kd3 C.cl hk0).1) c4) ((kd3 C.cl hk0).1) (by decide) rfl gkX3_44 ekX3_44 rfl ⟨rfl, rfl⟩ ⟨Nat.le_of_ble_eq_true rfl, Nat.le_of_ble_eq_true rfl⟩ (by simp [Value.category]) ⟨Nat.zero_le _, Nat.zero_le _⟩ rfl dX3_letHourGo_4 ?_
  refine b_istore_n (lv' := [(1, .int r4), (0, .ref (G.2.2 i0))]) C dX3_letHourGo_7 rfl (by decide) rfl ?_
  refine b_aload_n C dX3_letHourGo_8 rfl 1 rfl ?_
  refine gfX3_12 C hk0 dX3_letHourGo_9 ?_
  refine b_iload_n C dX3_letHourGo_12 rfl 0 rfl ?_
  obtain ⟨r13, c13, hf⟩ := oB hf
  refine b_callVi (K := 4) (As := [.int r4]) (res := (r13, x)) C (metX4_lentBeds l G _ _ _ _ ((kd3 C.cl hk0).1) c13) ((kd3 C.cl hk0).1) (by decide) rfl gkX3_127 ekX3_127 rfl ⟨rfl, rfl⟩ ⟨Nat.le_of_ble_eq_true rfl, Nat.le_of_ble_eq_true rfl⟩ (by simp [Value.category]) ⟨Nat.zero_le _, Nat.zero_le _⟩ rfl dX3_letHourGo_13 ?_
  refine b_istore_n (lv' := [(2, .int r13), (1, .int r4), (0, .ref (G.2.2 i0))]) C dX3_letHourGo_16 rfl (by decide) rfl ?_
  refine b_iconst (v := 0) C dX3_letHourGo_17 (by decide) ?_
  refine b_istore_n (lv' := [(3, .int 0), (2, .int r13), (1, .int r4), (0, .ref (G.2.2 i0))]) C dX3_letHourGo_18 rfl (by decide) rfl ?_
  refine b_pm [3, 2, 1, 0] (lv' := [(0, .ref (G.2.2 i0)), (1, .int r4), (2, .int r13), (3, .int 0)]) rfl ?_
  exact wX3_letHourGo_b19 C  hk0 FU _ _ _ _ hf
end
theorem metX3_letHourGo (l : Launch) (G : gT) (i0 : Nat) (x : xS) (r : (Int32 × xS)) (hk0 : KD G i0 3) (hf : fX3_letHourGo i0 x = some r) : cI l yX3_letHourGo cX3_letHourGo 4 (.int) rX3_letHourGo [.ref (G.2.2 i0)] G x r :=
  b_body (by decide) (Nat.le_of_ble_eq_true rfl) rfl (fun p e s m args below meth c C => wX3_letHourGo_b0 C hk0 hf)
-- X3_lodgerNumber
abbrev rX3_lodgerNumber : Room := { frames := 3, cells := 0, slots := 0, locals := 70 }
def fX3_lodgerNumber_b0 (i0 : Nat) (v1 : Int32) (v2 : Int32) (x : xS)  : Option Int32 :=
  (if v2 = 3 then
  Option.bind (fX4_hoursWithBed (i0 + 1) v1 0 12 x) (fun r13 =>
  some r13)
  else
  Option.bind (fX2_get (i0 + 4) v1 v2 x) (fun r23 =>
  some r23))
def fX3_lodgerNumber (i0 : Nat) (v1 : Int32) (v2 : Int32) (x : xS) : Option Int32 := fX3_lodgerNumber_b0 i0 v1 v2 x
section
variable {p : Program} {l : Launch} {e : Env} {R : Room} {s : State} {m : MethodId} {args : Array Value} {below : List Frame} {meth : Method} {c : Code} {G : gT}
set_option maxHeartbeats 4000000 in
set_option maxRecDepth 100000 in
theorem wX3_lodgerNumber_b0 (C : CT p s m args meth c cX3_lodgerNumber 3 RX3 (some (.int)) G (pA G s.heap.size)) {i0 : Nat} {v1 : Int32} {v2 : Int32} {x : xS}  {r : Int32} (hk0 : KD G i0 3) (hf : fX3_lodgerNumber_b0 i0 v1 v2 x  = some r) : WB p l e rX3_lodgerNumber s m args below meth c 3 G (pA G s.heap.size) (qI below G (r, x) args s 0 0) 0 0 0 [(0, .ref (G.2.2 i0)), (1, .int v1), (2, .int v2)] [] x := by
  unfold fX3_lodgerNumber_b0 at hf
  refine b_iload_n C dX3_lodgerNumber_0 rfl 2 rfl ?_
  refine b_iconst (v := 3) C dX3_lodgerNumber_1 (by decide) ?_
  refine b_icmp_ne (tgt := 17) C dX3_lodgerNumber_2 (by decide) (fun c2 => ?_) (fun c2 => ?_)
  · have hf := iF c2 hf
    refine b_aload_n C dX3_lodgerNumber_17 rfl 0 rfl ?_
    refine gfX3_23 C hk0 dX3_lodgerNumber_18 ?_
    refine b_iload_n C dX3_lodgerNumber_21 rfl 1 rfl ?_
    refine b_iload_n C dX3_lodgerNumber_22 rfl 2 rfl ?_
    obtain ⟨r23, c23, hf⟩ := oB hf
    refine b_callVi (K := 2) (As := [.int v1, .int v2]) (res := (r23, x)) C (metX2_get l G _ _ _ _ _ ((kd3 C.cl hk0).2.1) c23) ((kd3 C.cl hk0).2.1) (by decide) rfl gkX3_51 ekX3_51 rfl ⟨rfl, rfl⟩ ⟨Nat.le_of_ble_eq_true rfl, Nat.le_of_ble_eq_true rfl⟩ (by simp [Value.category]) ⟨Nat.zero_le _, Nat.zero_le _⟩ rfl dX3_lodgerNumber_23 ?_
    exact b_ireti C dX3_lodgerNumber_26 (congrArg (Option.map (fun q => (q, x))) hf)
  · have hf := iT c2 hf
    refine b_aload_n C dX3_lodgerNumber_5 rfl 0 rfl ?_
    refine gfX3_12 C hk0 dX3_lodgerNumber_6 ?_
    refine b_iload_n C dX3_lodgerNumber_9 rfl 1 rfl ?_
    refine b_iconst (v := 0) C dX3_lodgerNumber_10 (by decide) ?_
    refine b_bipush (v := 12) C dX3_lodgerNumber_11 (by decide) ?_
    obtain ⟨r13, c13, hf⟩ := oB hf
    refine b_callVi (K := 4) (As := [.int v1, .int 0, .int 12]) (res := (r13, x)) C (metX4_hoursWithBed l G _ _ _ _ _ _ ((kd3 C.cl hk0).1) c13) ((kd3 C.cl hk0).1) (by decide) rfl gkX3_55 ekX3_55 rfl ⟨rfl, rfl⟩ ⟨Nat.le_of_ble_eq_true rfl, Nat.le_of_ble_eq_true rfl⟩ (by simp [Value.category]) ⟨Nat.zero_le _, Nat.zero_le _⟩ rfl dX3_lodgerNumber_13 ?_
    exact b_ireti C dX3_lodgerNumber_16 (congrArg (Option.map (fun q => (q, x))) hf)
end
theorem metX3_lodgerNumber (l : Launch) (G : gT) (i0 : Nat) (v1 : Int32) (v2 : Int32) (x : xS) (r : Int32) (hk0 : KD G i0 3) (hf : fX3_lodgerNumber i0 v1 v2 x = some r) : cI l yX3_lodgerNumber cX3_lodgerNumber 3 (.int) rX3_lodgerNumber [.ref (G.2.2 i0), .int v1, .int v2] G x (r, x) :=
  b_body (by decide) (Nat.le_of_ble_eq_true rfl) rfl (fun p e s m args below meth c C => wX3_lodgerNumber_b0 C hk0 hf)
-- X3_poorestLodger
abbrev rX3_poorestLodger : Room := { frames := 2, cells := 0, slots := 0, locals := 45 }
def fX3_poorestLodger_b21 (k4 : Int32 → Int32 → Option Int32) (i0 : Nat) (x : xS) (v1 : Int32) (v2 : Int32) : Option Int32 :=
  k4 v1 (v2 + 1)
def fX3_poorestLodger_b4 (i0 : Nat) (x : xS) : Nat → Int32 → Int32 → Option Int32
  | 0, _, _ => none
  | n + 1, v1, v2 => (if (10 : Int32) ≤ v2 then
  some v1
  else
  Option.bind (fX3_isPoorer i0 v2 v1 x) (fun r13 =>
  (if r13 = 0 then
  fX3_poorestLodger_b21 (fX3_poorestLodger_b4 i0 x n) i0 x v1 v2
  else
  fX3_poorestLodger_b21 (fX3_poorestLodger_b4 i0 x n) i0 x v2 v2)))
def fX3_poorestLodger_b0 (i0 : Nat) (x : xS)  : Option Int32 :=
  fX3_poorestLodger_b4 i0 x FU 0 1
def fX3_poorestLodger (i0 : Nat) (x : xS) : Option Int32 := fX3_poorestLodger_b0 i0 x
section
variable {p : Program} {l : Launch} {e : Env} {R : Room} {s : State} {m : MethodId} {args : Array Value} {below : List Frame} {meth : Method} {c : Code} {G : gT}
set_option maxHeartbeats 4000000 in
set_option maxRecDepth 100000 in
theorem wX3_poorestLodger_b21 (C : CT p s m args meth c cX3_poorestLodger 3 RX3 (some (.int)) G (pA G s.heap.size)) {k4 : Int32 → Int32 → Option Int32} {i0 : Nat} {x : xS} {v1 : Int32} {v2 : Int32} {r : Int32} (h4 : ∀ (v1 : Int32) (v2 : Int32), k4 v1 v2 = some r → WB p l e rX3_poorestLodger s m args below meth c 3 G (pA G s.heap.size) (qI below G (r, x) args s 0 0) 0 0 4 [(0, .ref (G.2.2 i0)), (1, .int v1), (2, .int v2)] [] x) (hk0 : KD G i0 3) (hf : fX3_poorestLodger_b21 k4 i0 x v1 v2 = some r) : WB p l e rX3_poorestLodger s m args below meth c 3 G (pA G s.heap.size) (qI below G (r, x) args s 0 0) 0 0 21 [(0, .ref (G.2.2 i0)), (1, .int v1), (2, .int v2)] [] x := by
  unfold fX3_poorestLodger_b21 at hf
  refine b_iinc (q := 2) (v' := (v2 + 1)) (lv' := [(2, .int (v2 + 1)), (0, .ref (G.2.2 i0)), (1, .int v1)]) C dX3_poorestLodger_21 rfl rfl (by decide) rfl ?_
  refine b_goto (tgt := 4) C dX3_poorestLodger_24 (by decide) ?_
  refine b_pm [1, 2, 0] (lv' := [(0, .ref (G.2.2 i0)), (1, .int v1), (2, .int (v2 + 1))]) rfl ?_
  exact h4 _ _ hf
set_option maxHeartbeats 4000000 in
set_option maxRecDepth 100000 in
theorem wX3_poorestLodger_b4 (C : CT p s m args meth c cX3_poorestLodger 3 RX3 (some (.int)) G (pA G s.heap.size)) {i0 : Nat} {x : xS} {r : Int32} (hk0 : KD G i0 3) : ∀ (n : Nat) (v1 : Int32) (v2 : Int32), fX3_poorestLodger_b4 i0 x n v1 v2 = some r → WB p l e rX3_poorestLodger s m args below meth c 3 G (pA G s.heap.size) (qI below G (r, x) args s 0 0) 0 0 4 [(0, .ref (G.2.2 i0)), (1, .int v1), (2, .int v2)] [] x := by
  intro n
  induction n with
  | zero =>
    intro v1 v2 hf
    cases hf
  | succ n ih =>
    intro v1 v2 hf
    rw [fX3_poorestLodger_b4] at hf
    refine b_iload_n C dX3_poorestLodger_4 rfl 2 rfl ?_
    refine b_bipush (v := 10) C dX3_poorestLodger_5 (by decide) ?_
    refine b_icmp_ge (tgt := 27) C dX3_poorestLodger_7 (by decide) (fun c7 => ?_) (fun c7 => ?_)
    · have hf := iT c7 hf
      refine b_iload_n C dX3_poorestLodger_27 rfl 1 rfl ?_
      exact b_ireti C dX3_poorestLodger_28 (congrArg (Option.map (fun q => (q, x))) hf)
    · have hf := iF c7 hf
      refine b_aload_n C dX3_poorestLodger_10 rfl 0 rfl ?_
      refine b_iload_n C dX3_poorestLodger_11 rfl 2 rfl ?_
      refine b_iload_n C dX3_poorestLodger_12 rfl 1 rfl ?_
      obtain ⟨r13, c13, hf⟩ := oB hf
      refine b_callVi (K := 3) (As := [.int v2, .int v1]) (res := (r13, x)) C (metX3_isPoorer l G _ _ _ _ _ hk0 c13) hk0 (by decide) rfl gkX3_61 ekX3_61 rfl ⟨rfl, rfl⟩ ⟨Nat.le_of_ble_eq_true rfl, Nat.le_of_ble_eq_true rfl⟩ (by simp [Value.category]) ⟨Nat.zero_le _, Nat.zero_le _⟩ rfl dX3_poorestLodger_13 ?_
      refine b_if_eq (tgt := 21) C dX3_poorestLodger_16 (by decide) (fun c16 => ?_) (fun c16 => ?_)
      · have hf := iT c16 hf
        exact wX3_poorestLodger_b21 C ih hk0 hf
      · have hf := iF c16 hf
        refine b_iload_n C dX3_poorestLodger_19 rfl 2 rfl ?_
        refine b_istore_n (lv' := [(1, .int v2), (0, .ref (G.2.2 i0)), (2, .int v2)]) C dX3_poorestLodger_20 rfl (by decide) rfl ?_
        refine b_pm [1, 0, 2] (lv' := [(0, .ref (G.2.2 i0)), (1, .int v2), (2, .int v2)]) rfl ?_
        exact wX3_poorestLodger_b21 C ih hk0 hf
set_option maxHeartbeats 4000000 in
set_option maxRecDepth 100000 in
theorem wX3_poorestLodger_b0 (C : CT p s m args meth c cX3_poorestLodger 3 RX3 (some (.int)) G (pA G s.heap.size)) {i0 : Nat} {x : xS}  {r : Int32} (hk0 : KD G i0 3) (hf : fX3_poorestLodger_b0 i0 x  = some r) : WB p l e rX3_poorestLodger s m args below meth c 3 G (pA G s.heap.size) (qI below G (r, x) args s 0 0) 0 0 0 [(0, .ref (G.2.2 i0))] [] x := by
  unfold fX3_poorestLodger_b0 at hf
  refine b_iconst (v := 0) C dX3_poorestLodger_0 (by decide) ?_
  refine b_istore_n (lv' := [(1, .int 0), (0, .ref (G.2.2 i0))]) C dX3_poorestLodger_1 rfl (by decide) rfl ?_
  refine b_iconst (v := 1) C dX3_poorestLodger_2 (by decide) ?_
  refine b_istore_n (lv' := [(2, .int 1), (1, .int 0), (0, .ref (G.2.2 i0))]) C dX3_poorestLodger_3 rfl (by decide) rfl ?_
  refine b_pm [2, 1, 0] (lv' := [(0, .ref (G.2.2 i0)), (1, .int 0), (2, .int 1)]) rfl ?_
  exact wX3_poorestLodger_b4 C  hk0 FU _ _ hf
end
theorem metX3_poorestLodger (l : Launch) (G : gT) (i0 : Nat) (x : xS) (r : Int32) (hk0 : KD G i0 3) (hf : fX3_poorestLodger i0 x = some r) : cI l yX3_poorestLodger cX3_poorestLodger 3 (.int) rX3_poorestLodger [.ref (G.2.2 i0)] G x (r, x) :=
  b_body (by decide) (Nat.le_of_ble_eq_true rfl) rfl (fun p e s m args below meth c C => wX3_poorestLodger_b0 C hk0 hf)
-- X3_refuse
abbrev rX3_refuse : Room := { frames := 2, cells := 0, slots := 0, locals := 46 }
def fX3_refuse_b30 (i0 : Nat) (v1 : Int32) (x : xS) : Option xS :=
  Option.bind (fX3_countRefusal i0 v1 x) (fun r32 =>
  some r32)
def fX3_refuse_b0 (i0 : Nat) (v1 : Int32) (v2 : Int32) (x : xS) : Option xS :=
  Option.bind (fX2_raise (i0 + 8) 0 v2 1 x) (fun r7 =>
  Option.bind (fX2_raise (i0 + 6) 0 5 1 r7) (fun r17 =>
  (if v2 = 3 then
  fX3_refuse_b30 i0 v1 r17
  else
  (if v2 = 4 then
  fX3_refuse_b30 i0 v1 r17
  else
  some r17))))
def fX3_refuse (i0 : Nat) (v1 : Int32) (v2 : Int32) (x : xS) : Option xS := fX3_refuse_b0 i0 v1 v2 x
section
variable {p : Program} {l : Launch} {e : Env} {R : Room} {s : State} {m : MethodId} {args : Array Value} {below : List Frame} {meth : Method} {c : Code} {G : gT}
set_option maxHeartbeats 4000000 in
set_option maxRecDepth 100000 in
theorem wX3_refuse_b30 (C : CT p s m args meth c cX3_refuse 3 RX3 none G (pA G s.heap.size)) {i0 : Nat} {v1 : Int32} {x : xS} {r : xS} (hk0 : KD G i0 3) (hf : fX3_refuse_b30 i0 v1 x = some r) : WB p l e rX3_refuse s m args below meth c 3 G (pA G s.heap.size) (qV below G r args s 0 0) 0 0 30 [(0, .ref (G.2.2 i0)), (1, .int v1)] [] x := by
  unfold fX3_refuse_b30 at hf
  refine b_aload_n C dX3_refuse_30 rfl 0 rfl ?_
  refine b_iload_n C dX3_refuse_31 rfl 1 rfl ?_
  obtain ⟨r32, c32, hf⟩ := oB hf
  refine b_callVv (K := 3) (As := [.int v1]) (res := r32) C (metX3_countRefusal l G _ _ _ _ hk0 c32) hk0 (by decide) rfl gkX3_97 ekX3_97 rfl ⟨rfl, rfl⟩ ⟨Nat.le_of_ble_eq_true rfl, Nat.le_of_ble_eq_true rfl⟩ (by simp [Value.category]) ⟨Nat.zero_le _, Nat.zero_le _⟩ rfl dX3_refuse_32 ?_
  exact b_vret C dX3_refuse_35 hf
set_option maxHeartbeats 4000000 in
set_option maxRecDepth 100000 in
theorem wX3_refuse_b0 (C : CT p s m args meth c cX3_refuse 3 RX3 none G (pA G s.heap.size)) {i0 : Nat} {v1 : Int32} {v2 : Int32} {x : xS} {r : xS} (hk0 : KD G i0 3) (hf : fX3_refuse_b0 i0 v1 v2 x = some r) : WB p l e rX3_refuse s m args below meth c 3 G (pA G s.heap.size) (qV below G r args s 0 0) 0 0 0 [(0, .ref (G.2.2 i0)), (1, .int v1), (2, .int v2)] [] x := by
  unfold fX3_refuse_b0 at hf
  refine b_aload_n C dX3_refuse_0 rfl 0 rfl ?_
  refine gfX3_30 C hk0 dX3_refuse_1 ?_
  refine b_iconst (v := 0) C dX3_refuse_4 (by decide) ?_
  refine b_iload_n C dX3_refuse_5 rfl 2 rfl ?_
  refine b_iconst (v := 1) C dX3_refuse_6 (by decide) ?_
  obtain ⟨r7, c7, hf⟩ := oB hf
  refine b_callVv (K := 2) (As := [.int 0, .int v2, .int 1]) (res := r7) C (metX2_raise l G _ _ _ _ _ _ ((kd3 C.cl hk0).2.2.2) c7) ((kd3 C.cl hk0).2.2.2) (by decide) rfl gkX3_94 ekX3_94 rfl ⟨rfl, rfl⟩ ⟨Nat.le_of_ble_eq_true rfl, Nat.le_of_ble_eq_true rfl⟩ (by simp [Value.category]) ⟨Nat.zero_le _, Nat.zero_le _⟩ rfl dX3_refuse_7 ?_
  refine b_aload_n C dX3_refuse_10 rfl 0 rfl ?_
  refine gfX3_27 C hk0 dX3_refuse_11 ?_
  refine b_iconst (v := 0) C dX3_refuse_14 (by decide) ?_
  refine b_iconst (v := 5) C dX3_refuse_15 (by decide) ?_
  refine b_iconst (v := 1) C dX3_refuse_16 (by decide) ?_
  obtain ⟨r17, c17, hf⟩ := oB hf
  refine b_callVv (K := 2) (As := [.int 0, .int 5, .int 1]) (res := r17) C (metX2_raise l G _ _ _ _ _ _ ((kd3 C.cl hk0).2.2.1) c17) ((kd3 C.cl hk0).2.2.1) (by decide) rfl gkX3_94 ekX3_94 rfl ⟨rfl, rfl⟩ ⟨Nat.le_of_ble_eq_true rfl, Nat.le_of_ble_eq_true rfl⟩ (by simp [Value.category]) ⟨Nat.zero_le _, Nat.zero_le _⟩ rfl dX3_refuse_17 ?_
  refine b_iload_n C dX3_refuse_20 rfl 2 rfl ?_
  refine b_iconst (v := 3) C dX3_refuse_21 (by decide) ?_
  refine b_icmp_eq (tgt := 30) C dX3_refuse_22 (by decide) (fun c22 => ?_) (fun c22 => ?_)
  · have hf := iT c22 hf
    refine b_pm [0, 1] (lv' := [(0, .ref (G.2.2 i0)), (1, .int v1)]) rfl ?_
    exact wX3_refuse_b30 C  hk0 hf
  · have hf := iF c22 hf
    refine b_iload_n C dX3_refuse_25 rfl 2 rfl ?_
    refine b_iconst (v := 4) C dX3_refuse_26 (by decide) ?_
    refine b_icmp_ne (tgt := 35) C dX3_refuse_27 (by decide) (fun c27 => ?_) (fun c27 => ?_)
    · have hf := iF c27 hf
      exact b_vret C dX3_refuse_35 hf
    · have hf := iT c27 hf
      refine b_pm [0, 1] (lv' := [(0, .ref (G.2.2 i0)), (1, .int v1)]) rfl ?_
      exact wX3_refuse_b30 C  hk0 hf
end
theorem metX3_refuse (l : Launch) (G : gT) (i0 : Nat) (v1 : Int32) (v2 : Int32) (x : xS) (r : xS) (hk0 : KD G i0 3) (hf : fX3_refuse i0 v1 v2 x = some r) : cV l yX3_refuse cX3_refuse 3 rX3_refuse [.ref (G.2.2 i0), .int v1, .int v2] G x r :=
  b_body (by decide) (Nat.le_of_ble_eq_true rfl) rfl (fun p e s m args below meth c C => wX3_refuse_b0 C hk0 hf)
-- X3_refusedFor
abbrev rX3_refusedFor : Room := { frames := 1, cells := 0, slots := 0, locals := 22 }
def fX3_refusedFor_b0 (i0 : Nat) (v1 : Int32) (x : xS)  : Option Int32 :=
  Option.bind (fX2_get (i0 + 8) 0 v1 x) (fun r6 =>
  some r6)
def fX3_refusedFor (i0 : Nat) (v1 : Int32) (x : xS) : Option Int32 := fX3_refusedFor_b0 i0 v1 x
section
variable {p : Program} {l : Launch} {e : Env} {R : Room} {s : State} {m : MethodId} {args : Array Value} {below : List Frame} {meth : Method} {c : Code} {G : gT}
set_option maxHeartbeats 4000000 in
set_option maxRecDepth 100000 in
theorem wX3_refusedFor_b0 (C : CT p s m args meth c cX3_refusedFor 2 RX3 (some (.int)) G (pA G s.heap.size)) {i0 : Nat} {v1 : Int32} {x : xS}  {r : Int32} (hk0 : KD G i0 3) (hf : fX3_refusedFor_b0 i0 v1 x  = some r) : WB p l e rX3_refusedFor s m args below meth c 2 G (pA G s.heap.size) (qI below G (r, x) args s 0 0) 0 0 0 [(0, .ref (G.2.2 i0)), (1, .int v1)] [] x := by
  unfold fX3_refusedFor_b0 at hf
  refine b_aload_n C dX3_refusedFor_0 rfl 0 rfl ?_
  refine gfX3_30 C hk0 dX3_refusedFor_1 ?_
  refine b_iconst (v := 0) C dX3_refusedFor_4 (by decide) ?_
  refine b_iload_n C dX3_refusedFor_5 rfl 1 rfl ?_
  obtain ⟨r6, c6, hf⟩ := oB hf
  refine b_callVi (K := 2) (As := [.int 0, .int v1]) (res := (r6, x)) C (metX2_get l G _ _ _ _ _ ((kd3 C.cl hk0).2.2.2) c6) ((kd3 C.cl hk0).2.2.2) (by decide) rfl gkX3_51 ekX3_51 rfl ⟨rfl, rfl⟩ ⟨Nat.le_of_ble_eq_true rfl, Nat.le_of_ble_eq_true rfl⟩ (by simp [Value.category]) ⟨Nat.zero_le _, Nat.zero_le _⟩ rfl dX3_refusedFor_6 ?_
  exact b_ireti C dX3_refusedFor_9 (congrArg (Option.map (fun q => (q, x))) hf)
end
theorem metX3_refusedFor (l : Launch) (G : gT) (i0 : Nat) (v1 : Int32) (x : xS) (r : Int32) (hk0 : KD G i0 3) (hf : fX3_refusedFor i0 v1 x = some r) : cI l yX3_refusedFor cX3_refusedFor 2 (.int) rX3_refusedFor [.ref (G.2.2 i0), .int v1] G x (r, x) :=
  b_body (by decide) (Nat.le_of_ble_eq_true rfl) rfl (fun p e s m args below meth c C => wX3_refusedFor_b0 C hk0 hf)
-- X3_shareLent
abbrev rX3_shareLent : Room := { frames := 3, cells := 0, slots := 0, locals := 67 }
def fX3_shareLent_b0 (i0 : Nat) (x : xS)  : Option UInt64 :=
  Option.bind (fX4_lentHours (i0 + 1) x) (fun r4 =>
  (if (FP.ddiv (FP.i2d r4) (4631952216750555136 : UInt64)) &&& 0x7fffffffffffffff ≤ (0x7ff0000000000000 : UInt64) then
  some (FP.ddiv (FP.i2d r4) (4631952216750555136 : UInt64)) else none))
def fX3_shareLent (i0 : Nat) (x : xS) : Option UInt64 := fX3_shareLent_b0 i0 x
section
variable {p : Program} {l : Launch} {e : Env} {R : Room} {s : State} {m : MethodId} {args : Array Value} {below : List Frame} {meth : Method} {c : Code} {G : gT}
set_option maxHeartbeats 4000000 in
set_option maxRecDepth 100000 in
theorem wX3_shareLent_b0 (C : CT p s m args meth c cX3_shareLent 1 RX3 (some (.double)) G (pA G s.heap.size)) {i0 : Nat} {x : xS}  {r : UInt64} (hk0 : KD G i0 3) (hf : fX3_shareLent_b0 i0 x  = some r) : WB p l e rX3_shareLent s m args below meth c 1 G (pA G s.heap.size) (qD below G (r, x) args s 0 0) 0 0 0 [(0, .ref (G.2.2 i0))] [] x := by
  unfold fX3_shareLent_b0 at hf
  refine b_aload_n C dX3_shareLent_0 rfl 0 rfl ?_
  refine gfX3_12 C hk0 dX3_shareLent_1 ?_
  obtain ⟨r4, c4, hf⟩ := oB hf
  refine b_callVi (K := 4) (As := []) (res := (r4, x)) C (metX4_lentHours l G _ _ _ ((kd3 C.cl hk0).1) c4) ((kd3 C.cl hk0).1) (by decide) rfl gkX3_48 ekX3_48 rfl ⟨rfl, rfl⟩ ⟨Nat.le_of_ble_eq_true rfl, Nat.le_of_ble_eq_true rfl⟩ (by simp [Value.category]) ⟨Nat.zero_le _, Nat.zero_le _⟩ rfl dX3_shareLent_4 ?_
  refine b_i2d C dX3_shareLent_7 ?_
  refine b_ldc2d C w_150 dX3_shareLent_8 ?_
  obtain ⟨g11, hf⟩ := iP hf
  refine b_ddiv C dX3_shareLent_11 g11 ?_
  exact b_dret C dX3_shareLent_12 (congrArg (Option.map (fun q => (q, x))) hf)
end
theorem metX3_shareLent (l : Launch) (G : gT) (i0 : Nat) (x : xS) (r : UInt64) (hk0 : KD G i0 3) (hf : fX3_shareLent i0 x = some r) : cD l yX3_shareLent cX3_shareLent 1 rX3_shareLent [.ref (G.2.2 i0)] G x (r, x) :=
  b_body (by decide) (Nat.le_of_ble_eq_true rfl) rfl (fun p e s m args below meth c C => wX3_shareLent_b0 C hk0 hf)
-- X3_takeAsking
abbrev rX3_takeAsking : Room := { frames := 4, cells := 0, slots := 0, locals := 98 }
def fX3_takeAsking_b38 (i0 : Nat) (v4 : Int32) (x : xS) : Option (Int32 × xS) :=
  some (v4, x)
def fX3_takeAsking_b0 (i0 : Nat) (v1 : Int32) (v2 : Int32) (v3 : Int32) (x : xS) : Option (Int32 × xS) :=
  Option.bind (fX3_answerTo i0 v1 v2 v3 x) (fun r4 =>
  (if (10 : Int32) ≤ r4 then
  Option.bind (fX3_grant i0 v1 (r4 - 10) v2 v3 x) (fun r35 =>
  fX3_takeAsking_b38 i0 r4 r35)
  else
  Option.bind (fX3_refuse i0 v1 r4 x) (fun r20 =>
  fX3_takeAsking_b38 i0 r4 r20)))
def fX3_takeAsking (i0 : Nat) (v1 : Int32) (v2 : Int32) (v3 : Int32) (x : xS) : Option (Int32 × xS) := fX3_takeAsking_b0 i0 v1 v2 v3 x
section
variable {p : Program} {l : Launch} {e : Env} {R : Room} {s : State} {m : MethodId} {args : Array Value} {below : List Frame} {meth : Method} {c : Code} {G : gT}
set_option maxHeartbeats 4000000 in
set_option maxRecDepth 100000 in
theorem wX3_takeAsking_b38 (C : CT p s m args meth c cX3_takeAsking 5 RX3 (some (.int)) G (pA G s.heap.size)) {i0 : Nat} {v4 : Int32} {x : xS} {r : (Int32 × xS)} (hk0 : KD G i0 3) (hf : fX3_takeAsking_b38 i0 v4 x = some r) : WB p l e rX3_takeAsking s m args below meth c 5 G (pA G s.heap.size) (qI below G r args s 0 0) 0 0 38 [(0, .ref (G.2.2 i0)), (4, .int v4)] [] x := by
  unfold fX3_takeAsking_b38 at hf
  refine b_iload C dX3_takeAsking_38 1 rfl ?_
  exact b_ireti C dX3_takeAsking_40 hf
set_option maxHeartbeats 4000000 in
set_option maxRecDepth 100000 in
theorem wX3_takeAsking_b0 (C : CT p s m args meth c cX3_takeAsking 5 RX3 (some (.int)) G (pA G s.heap.size)) {i0 : Nat} {v1 : Int32} {v2 : Int32} {v3 : Int32} {x : xS} {r : (Int32 × xS)} (hk0 : KD G i0 3) (hf : fX3_takeAsking_b0 i0 v1 v2 v3 x = some r) : WB p l e rX3_takeAsking s m args below meth c 5 G (pA G s.heap.size) (qI below G r args s 0 0) 0 0 0 [(0, .ref (G.2.2 i0)), (1, .int v1), (2, .int v2), (3, .int v3)] [] x := by
  unfold fX3_takeAsking_b0 at hf
  refine b_aload_n C dX3_takeAsking_0 rfl 0 rfl ?_
  refine b_iload_n C dX3_takeAsking_1 rfl 1 rfl ?_
  refine b_iload_n C dX3_takeAsking_2 rfl 2 rfl ?_
  refine b_iload_n C dX3_takeAsking_3 rfl 3 rfl ?_
  obtain ⟨r4, c4, hf⟩ := oB hf
  refine b_callVi (K := 3) (As := [.int v1, .int v2, .int v3]) (res := (r4, x)) C (metX3_answerTo l G _ _ _ _ _ _ hk0 c4) hk0 (by decide) rfl gkX3_81 ekX3_81 rfl ⟨rfl, rfl⟩ ⟨Nat.le_of_ble_eq_true rfl, Nat.le_of_ble_eq_true rfl⟩ (by simp [Value.category]) ⟨Nat.zero_le _, Nat.zero_le _⟩ rfl dX3_takeAsking_4 ?_
  refine b_istore (lv' := [(4, .int r4), (0, .ref (G.2.2 i0)), (1, .int v1), (2, .int v2), (3, .int v3)]) C dX3_takeAsking_7 (by decide) rfl ?_
  refine b_iload C dX3_takeAsking_9 0 rfl ?_
  refine b_bipush (v := 10) C dX3_takeAsking_11 (by decide) ?_
  refine b_icmp_ge (tgt := 26) C dX3_takeAsking_13 (by decide) (fun c13 => ?_) (fun c13 => ?_)
  · have hf := iT c13 hf
    refine b_aload_n C dX3_takeAsking_26 rfl 1 rfl ?_
    refine b_iload_n C dX3_takeAsking_27 rfl 2 rfl ?_
    refine b_iload C dX3_takeAsking_28 0 rfl ?_
    refine b_bipush (v := 10) C dX3_takeAsking_30 (by decide) ?_
    refine b_isub C dX3_takeAsking_32 ?_
    refine b_iload_n C dX3_takeAsking_33 rfl 3 rfl ?_
    refine b_iload_n C dX3_takeAsking_34 rfl 4 rfl ?_
    obtain ⟨r35, c35, hf⟩ := oB hf
    refine b_callVv (K := 3) (As := [.int v1, .int (r4 - 10), .int v2, .int v3]) (res := r35) C (metX3_grant l G _ _ _ _ _ _ _ hk0 c35) hk0 (by decide) rfl gkX3_90 ekX3_90 rfl ⟨rfl, rfl⟩ ⟨Nat.le_of_ble_eq_true rfl, Nat.le_of_ble_eq_true rfl⟩ (by simp [Value.category]) ⟨Nat.zero_le _, Nat.zero_le _⟩ rfl dX3_takeAsking_35 ?_
    refine b_pm [1, 0] (lv' := [(0, .ref (G.2.2 i0)), (4, .int r4)]) rfl ?_
    exact wX3_takeAsking_b38 C  hk0 hf
  · have hf := iF c13 hf
    refine b_aload_n C dX3_takeAsking_16 rfl 1 rfl ?_
    refine b_iload_n C dX3_takeAsking_17 rfl 2 rfl ?_
    refine b_iload C dX3_takeAsking_18 0 rfl ?_
    obtain ⟨r20, c20, hf⟩ := oB hf
    refine b_callVv (K := 3) (As := [.int v1, .int r4]) (res := r20) C (metX3_refuse l G _ _ _ _ _ hk0 c20) hk0 (by decide) rfl gkX3_87 ekX3_87 rfl ⟨rfl, rfl⟩ ⟨Nat.le_of_ble_eq_true rfl, Nat.le_of_ble_eq_true rfl⟩ (by simp [Value.category]) ⟨Nat.zero_le _, Nat.zero_le _⟩ rfl dX3_takeAsking_20 ?_
    refine b_goto (tgt := 38) C dX3_takeAsking_23 (by decide) ?_
    refine b_pm [1, 0] (lv' := [(0, .ref (G.2.2 i0)), (4, .int r4)]) rfl ?_
    exact wX3_takeAsking_b38 C  hk0 hf
end
theorem metX3_takeAsking (l : Launch) (G : gT) (i0 : Nat) (v1 : Int32) (v2 : Int32) (v3 : Int32) (x : xS) (r : (Int32 × xS)) (hk0 : KD G i0 3) (hf : fX3_takeAsking i0 v1 v2 v3 x = some r) : cI l yX3_takeAsking cX3_takeAsking 5 (.int) rX3_takeAsking [.ref (G.2.2 i0), .int v1, .int v2, .int v3] G x r :=
  b_body (by decide) (Nat.le_of_ble_eq_true rfl) rfl (fun p e s m args below meth c C => wX3_takeAsking_b0 C hk0 hf)
-- X4_freePieceFrom
abbrev rX4_freePieceFrom : Room := { frames := 2, cells := 0, slots := 0, locals := 48 }
def fX4_freePieceFrom_b0 (i0 : Nat) (v1 : Int32) (v2 : Int32) (x : xS) : Option (Int32 × xS) :=
  Option.bind (fX4_pieceEnd i0 v1 v2 x) (fun r3 =>
  lt1 (r3 - v2) (fun y8 => 
  Option.bind (fX4_lend i0 (-1) v1 v2 y8 x) (fun r14 =>
  some (y8, r14))))
def fX4_freePieceFrom (i0 : Nat) (v1 : Int32) (v2 : Int32) (x : xS) : Option (Int32 × xS) := fX4_freePieceFrom_b0 i0 v1 v2 x
section
variable {p : Program} {l : Launch} {e : Env} {R : Room} {s : State} {m : MethodId} {args : Array Value} {below : List Frame} {meth : Method} {c : Code} {G : gT}
set_option maxHeartbeats 4000000 in
set_option maxRecDepth 100000 in
theorem wX4_freePieceFrom_b0 (C : CT p s m args meth c cX4_freePieceFrom 4 RX4 (some (.int)) G (pA G s.heap.size)) {i0 : Nat} {v1 : Int32} {v2 : Int32} {x : xS} {r : (Int32 × xS)} (hk0 : KD G i0 4) (hf : fX4_freePieceFrom_b0 i0 v1 v2 x = some r) : WB p l e rX4_freePieceFrom s m args below meth c 4 G (pA G s.heap.size) (qI below G r args s 0 0) 0 0 0 [(0, .ref (G.2.2 i0)), (1, .int v1), (2, .int v2)] [] x := by
  unfold fX4_freePieceFrom_b0 at hf
  refine b_aload_n C dX4_freePieceFrom_0 rfl 0 rfl ?_
  refine b_iload_n C dX4_freePieceFrom_1 rfl 1 rfl ?_
  refine b_iload_n C dX4_freePieceFrom_2 rfl 2 rfl ?_
  obtain ⟨r3, c3, hf⟩ := oB hf
  refine b_callVi (K := 4) (As := [.int v1, .int v2]) (res := (r3, x)) C (metX4_pieceEnd l G _ _ _ _ _ hk0 c3) hk0 (by decide) rfl gkX4_56 ekX4_56 rfl ⟨rfl, rfl⟩ ⟨Nat.le_of_ble_eq_true rfl, Nat.le_of_ble_eq_true rfl⟩ (by simp [Value.category]) ⟨Nat.zero_le _, Nat.zero_le _⟩ rfl dX4_freePieceFrom_3 ?_
  refine b_iload_n C dX4_freePieceFrom_6 rfl 2 rfl ?_
  refine b_isub C dX4_freePieceFrom_7 ?_
  obtain ⟨y8, e8, hf⟩ := lN1 hf
  rw [e8]
  refine b_istore_n (lv' := [(3, .int y8), (0, .ref (G.2.2 i0)), (1, .int v1), (2, .int v2)]) C dX4_freePieceFrom_8 rfl (by decide) rfl ?_
  refine b_aload_n C dX4_freePieceFrom_9 rfl 1 rfl ?_
  refine b_iconst (v := (-1)) C dX4_freePieceFrom_10 (by decide) ?_
  refine b_iload_n C dX4_freePieceFrom_11 rfl 2 rfl ?_
  refine b_iload_n C dX4_freePieceFrom_12 rfl 3 rfl ?_
  refine b_iload_n C dX4_freePieceFrom_13 rfl 0 rfl ?_
  obtain ⟨r14, c14, hf⟩ := oB hf
  refine b_callVv (K := 4) (As := [.int (-1), .int v1, .int v2, .int y8]) (res := r14) C (metX4_lend l G _ _ _ _ _ _ _ hk0 c14) hk0 (by decide) rfl gkX4_59 ekX4_59 rfl ⟨rfl, rfl⟩ ⟨Nat.le_of_ble_eq_true rfl, Nat.le_of_ble_eq_true rfl⟩ (by simp [Value.category]) ⟨Nat.zero_le _, Nat.zero_le _⟩ rfl dX4_freePieceFrom_14 ?_
  refine b_iload_n C dX4_freePieceFrom_17 rfl 0 rfl ?_
  exact b_ireti C dX4_freePieceFrom_18 hf
end
theorem metX4_freePieceFrom (l : Launch) (G : gT) (i0 : Nat) (v1 : Int32) (v2 : Int32) (x : xS) (r : (Int32 × xS)) (hk0 : KD G i0 4) (hf : fX4_freePieceFrom i0 v1 v2 x = some r) : cI l yX4_freePieceFrom cX4_freePieceFrom 4 (.int) rX4_freePieceFrom [.ref (G.2.2 i0), .int v1, .int v2] G x r :=
  b_body (by decide) (Nat.le_of_ble_eq_true rfl) rfl (fun p e s m args below meth c C => wX4_freePieceFrom_b0 C hk0 hf)
-- X3_takeBack
abbrev rX3_takeBack : Room := { frames := 3, cells := 0, slots := 0, locals := 71 }
def fX3_takeBack_b26 (i0 : Nat) (x : xS) : Option (Int32 × xS) :=
  Option.bind (fX2_raise (i0 + 6) 0 10 1 x) (fun r34 =>
  some ((-1), r34))
def fX3_takeBack_b0 (i0 : Nat) (v1 : Int32) (v2 : Int32) (x : xS) : Option (Int32 × xS) :=
  Option.bind (fX4_bedOf (i0 + 1) v1 v2 x) (fun r6 =>
  (if r6 = (-1) then
  fX3_takeBack_b26 i0 x
  else
  Option.bind (fX4_wentBy (i0 + 1) v2 x) (fun r20 =>
  (if r20 = 0 then
  Option.bind (fX4_freePieceFrom (i0 + 1) r6 v2 x) (fun r45 =>
  some (r45.1, r45.2))
  else
  fX3_takeBack_b26 i0 x))))
def fX3_takeBack (i0 : Nat) (v1 : Int32) (v2 : Int32) (x : xS) : Option (Int32 × xS) := fX3_takeBack_b0 i0 v1 v2 x
section
variable {p : Program} {l : Launch} {e : Env} {R : Room} {s : State} {m : MethodId} {args : Array Value} {below : List Frame} {meth : Method} {c : Code} {G : gT}
set_option maxHeartbeats 4000000 in
set_option maxRecDepth 100000 in
theorem wX3_takeBack_b26 (C : CT p s m args meth c cX3_takeBack 4 RX3 (some (.int)) G (pA G s.heap.size)) {i0 : Nat} {x : xS} {r : (Int32 × xS)} (hk0 : KD G i0 3) (hf : fX3_takeBack_b26 i0 x = some r) : WB p l e rX3_takeBack s m args below meth c 4 G (pA G s.heap.size) (qI below G r args s 0 0) 0 0 26 [(0, .ref (G.2.2 i0))] [] x := by
  unfold fX3_takeBack_b26 at hf
  refine b_aload_n C dX3_takeBack_26 rfl 0 rfl ?_
  refine gfX3_27 C hk0 dX3_takeBack_27 ?_
  refine b_iconst (v := 0) C dX3_takeBack_30 (by decide) ?_
  refine b_bipush (v := 10) C dX3_takeBack_31 (by decide) ?_
  refine b_iconst (v := 1) C dX3_takeBack_33 (by decide) ?_
  obtain ⟨r34, c34, hf⟩ := oB hf
  refine b_callVv (K := 2) (As := [.int 0, .int 10, .int 1]) (res := r34) C (metX2_raise l G _ _ _ _ _ _ ((kd3 C.cl hk0).2.2.1) c34) ((kd3 C.cl hk0).2.2.1) (by decide) rfl gkX3_94 ekX3_94 rfl ⟨rfl, rfl⟩ ⟨Nat.le_of_ble_eq_true rfl, Nat.le_of_ble_eq_true rfl⟩ (by simp [Value.category]) ⟨Nat.zero_le _, Nat.zero_le _⟩ rfl dX3_takeBack_34 ?_
  refine b_iconst (v := (-1)) C dX3_takeBack_37 (by decide) ?_
  exact b_ireti C dX3_takeBack_38 hf
set_option maxHeartbeats 4000000 in
set_option maxRecDepth 100000 in
theorem wX3_takeBack_b0 (C : CT p s m args meth c cX3_takeBack 4 RX3 (some (.int)) G (pA G s.heap.size)) {i0 : Nat} {v1 : Int32} {v2 : Int32} {x : xS} {r : (Int32 × xS)} (hk0 : KD G i0 3) (hf : fX3_takeBack_b0 i0 v1 v2 x = some r) : WB p l e rX3_takeBack s m args below meth c 4 G (pA G s.heap.size) (qI below G r args s 0 0) 0 0 0 [(0, .ref (G.2.2 i0)), (1, .int v1), (2, .int v2)] [] x := by
  unfold fX3_takeBack_b0 at hf
  refine b_aload_n C dX3_takeBack_0 rfl 0 rfl ?_
  refine gfX3_12 C hk0 dX3_takeBack_1 ?_
  refine b_iload_n C dX3_takeBack_4 rfl 1 rfl ?_
  refine b_iload_n C dX3_takeBack_5 rfl 2 rfl ?_
  obtain ⟨r6, c6, hf⟩ := oB hf
  refine b_callVi (K := 4) (As := [.int v1, .int v2]) (res := (r6, x)) C (metX4_bedOf l G _ _ _ _ _ ((kd3 C.cl hk0).1) c6) ((kd3 C.cl hk0).1) (by decide) rfl gkX3_121 ekX3_121 rfl ⟨rfl, rfl⟩ ⟨Nat.le_of_ble_eq_true rfl, Nat.le_of_ble_eq_true rfl⟩ (by simp [Value.category]) ⟨Nat.zero_le _, Nat.zero_le _⟩ rfl dX3_takeBack_6 ?_
  refine b_istore_n (lv' := [(3, .int r6), (0, .ref (G.2.2 i0)), (1, .int v1), (2, .int v2)]) C dX3_takeBack_9 rfl (by decide) rfl ?_
  refine b_iload_n C dX3_takeBack_10 rfl 0 rfl ?_
  refine b_iconst (v := (-1)) C dX3_takeBack_11 (by decide) ?_
  refine b_icmp_eq (tgt := 26) C dX3_takeBack_12 (by decide) (fun c12 => ?_) (fun c12 => ?_)
  · have hf := iT c12 hf
    refine b_pm [1] (lv' := [(0, .ref (G.2.2 i0))]) rfl ?_
    exact wX3_takeBack_b26 C  hk0 hf
  · have hf := iF c12 hf
    refine b_aload_n C dX3_takeBack_15 rfl 1 rfl ?_
    refine gfX3_12 C hk0 dX3_takeBack_16 ?_
    refine b_iload_n C dX3_takeBack_19 rfl 3 rfl ?_
    obtain ⟨r20, c20, hf⟩ := oB hf
    refine b_callVi (K := 4) (As := [.int v2]) (res := (r20, x)) C (metX4_wentBy l G _ _ _ _ ((kd3 C.cl hk0).1) c20) ((kd3 C.cl hk0).1) (by decide) rfl gkX3_65 ekX3_65 rfl ⟨rfl, rfl⟩ ⟨Nat.le_of_ble_eq_true rfl, Nat.le_of_ble_eq_true rfl⟩ (by simp [Value.category]) ⟨Nat.zero_le _, Nat.zero_le _⟩ rfl dX3_takeBack_20 ?_
    refine b_if_eq (tgt := 39) C dX3_takeBack_23 (by decide) (fun c23 => ?_) (fun c23 => ?_)
    · have hf := iT c23 hf
      refine b_aload_n C dX3_takeBack_39 rfl 1 rfl ?_
      refine gfX3_12 C hk0 dX3_takeBack_40 ?_
      refine b_iload_n C dX3_takeBack_43 rfl 0 rfl ?_
      refine b_iload_n C dX3_takeBack_44 rfl 3 rfl ?_
      obtain ⟨r45, c45, hf⟩ := oB hf
      refine b_callVi (K := 4) (As := [.int r6, .int v2]) (res := r45) C (metX4_freePieceFrom l G _ _ _ _ _ ((kd3 C.cl hk0).1) c45) ((kd3 C.cl hk0).1) (by decide) rfl gkX3_124 ekX3_124 rfl ⟨rfl, rfl⟩ ⟨Nat.le_of_ble_eq_true rfl, Nat.le_of_ble_eq_true rfl⟩ (by simp [Value.category]) ⟨Nat.zero_le _, Nat.zero_le _⟩ rfl dX3_takeBack_45 ?_
      exact b_ireti C dX3_takeBack_48 hf
    · have hf := iF c23 hf
      refine b_pm [1] (lv' := [(0, .ref (G.2.2 i0))]) rfl ?_
      exact wX3_takeBack_b26 C  hk0 hf
end
theorem metX3_takeBack (l : Launch) (G : gT) (i0 : Nat) (v1 : Int32) (v2 : Int32) (x : xS) (r : (Int32 × xS)) (hk0 : KD G i0 3) (hf : fX3_takeBack i0 v1 v2 x = some r) : cI l yX3_takeBack cX3_takeBack 4 (.int) rX3_takeBack [.ref (G.2.2 i0), .int v1, .int v2] G x r :=
  b_body (by decide) (Nat.le_of_ble_eq_true rfl) rfl (fun p e s m args below meth c C => wX3_takeBack_b0 C hk0 hf)
-- X3_wouldBePutOut
abbrev rX3_wouldBePutOut : Room := { frames := 4, cells := 0, slots := 0, locals := 96 }
def fX3_wouldBePutOut_b0 (i0 : Nat) (v1 : Int32) (v2 : Int32) (v3 : Int32) (x : xS)  : Option Int32 :=
  Option.bind (fX3_answerTo i0 v1 v2 v3 x) (fun r4 =>
  (if (10 : Int32) ≤ r4 then
  Option.bind (fX4_holdersMask (i0 + 1) (r4 - 10) v2 v3 x) (fun r31 =>
  some r31)
  else
  some 0))
def fX3_wouldBePutOut (i0 : Nat) (v1 : Int32) (v2 : Int32) (v3 : Int32) (x : xS) : Option Int32 := fX3_wouldBePutOut_b0 i0 v1 v2 v3 x
section
variable {p : Program} {l : Launch} {e : Env} {R : Room} {s : State} {m : MethodId} {args : Array Value} {below : List Frame} {meth : Method} {c : Code} {G : gT}
set_option maxHeartbeats 4000000 in
set_option maxRecDepth 100000 in
theorem wX3_wouldBePutOut_b0 (C : CT p s m args meth c cX3_wouldBePutOut 5 RX3 (some (.int)) G (pA G s.heap.size)) {i0 : Nat} {v1 : Int32} {v2 : Int32} {v3 : Int32} {x : xS}  {r : Int32} (hk0 : KD G i0 3) (hf : fX3_wouldBePutOut_b0 i0 v1 v2 v3 x  = some r) : WB p l e rX3_wouldBePutOut s m args below meth c 5 G (pA G s.heap.size) (qI below G (r, x) args s 0 0) 0 0 0 [(0, .ref (G.2.2 i0)), (1, .int v1), (2, .int v2), (3, .int v3)] [] x := by
  unfold fX3_wouldBePutOut_b0 at hf
  refine b_aload_n C dX3_wouldBePutOut_0 rfl 0 rfl ?_
  refine b_iload_n C dX3_wouldBePutOut_1 rfl 1 rfl ?_
  refine b_iload_n C dX3_wouldBePutOut_2 rfl 2 rfl ?_
  refine b_iload_n C dX3_wouldBePutOut_3 rfl 3 rfl ?_
  obtain ⟨r4, c4, hf⟩ := oB hf
  refine b_callVi (K := 3) (As := [.int v1, .int v2, .int v3]) (res := (r4, x)) C (metX3_answerTo l G _ _ _ _ _ _ hk0 c4) hk0 (by decide) rfl gkX3_81 ekX3_81 rfl ⟨rfl, rfl⟩ ⟨Nat.le_of_ble_eq_true rfl, Nat.le_of_ble_eq_true rfl⟩ (by simp [Value.category]) ⟨Nat.zero_le _, Nat.zero_le _⟩ rfl dX3_wouldBePutOut_4 ?_
  refine b_istore (lv' := [(4, .int r4), (0, .ref (G.2.2 i0)), (1, .int v1), (2, .int v2), (3, .int v3)]) C dX3_wouldBePutOut_7 (by decide) rfl ?_
  refine b_iload C dX3_wouldBePutOut_9 0 rfl ?_
  refine b_bipush (v := 10) C dX3_wouldBePutOut_11 (by decide) ?_
  refine b_icmp_ge (tgt := 20) C dX3_wouldBePutOut_13 (by decide) (fun c13 => ?_) (fun c13 => ?_)
  · have hf := iT c13 hf
    refine b_aload_n C dX3_wouldBePutOut_20 rfl 1 rfl ?_
    refine gfX3_12 C hk0 dX3_wouldBePutOut_21 ?_
    refine b_iload C dX3_wouldBePutOut_24 0 rfl ?_
    refine b_bipush (v := 10) C dX3_wouldBePutOut_26 (by decide) ?_
    refine b_isub C dX3_wouldBePutOut_28 ?_
    refine b_iload_n C dX3_wouldBePutOut_29 rfl 3 rfl ?_
    refine b_iload_n C dX3_wouldBePutOut_30 rfl 4 rfl ?_
    obtain ⟨r31, c31, hf⟩ := oB hf
    refine b_callVi (K := 4) (As := [.int (r4 - 10), .int v2, .int v3]) (res := (r31, x)) C (metX4_holdersMask l G _ _ _ _ _ _ ((kd3 C.cl hk0).1) c31) ((kd3 C.cl hk0).1) (by decide) rfl gkX3_84 ekX3_84 rfl ⟨rfl, rfl⟩ ⟨Nat.le_of_ble_eq_true rfl, Nat.le_of_ble_eq_true rfl⟩ (by simp [Value.category]) ⟨Nat.zero_le _, Nat.zero_le _⟩ rfl dX3_wouldBePutOut_31 ?_
    exact b_ireti C dX3_wouldBePutOut_34 (congrArg (Option.map (fun q => (q, x))) hf)
  · have hf := iF c13 hf
    refine b_iconst (v := 0) C dX3_wouldBePutOut_16 (by decide) ?_
    refine b_goto (tgt := 34) C dX3_wouldBePutOut_17 (by decide) ?_
    exact b_ireti C dX3_wouldBePutOut_34 (congrArg (Option.map (fun q => (q, x))) hf)
end
theorem metX3_wouldBePutOut (l : Launch) (G : gT) (i0 : Nat) (v1 : Int32) (v2 : Int32) (v3 : Int32) (x : xS) (r : Int32) (hk0 : KD G i0 3) (hf : fX3_wouldBePutOut i0 v1 v2 v3 x = some r) : cI l yX3_wouldBePutOut cX3_wouldBePutOut 5 (.int) rX3_wouldBePutOut [.ref (G.2.2 i0), .int v1, .int v2, .int v3] G x (r, x) :=
  b_body (by decide) (Nat.le_of_ble_eq_true rfl) rfl (fun p e s m args below meth c C => wX3_wouldBePutOut_b0 C hk0 hf)
-- X4_holder
abbrev rX4_holder : Room := { frames := 1, cells := 0, slots := 0, locals := 22 }
def fX4_holder_b0 (i0 : Nat) (v1 : Int32) (v2 : Int32) (x : xS)  : Option Int32 :=
  Option.bind (fX2_get (i0 + 1) v1 v2 x) (fun r6 =>
  some r6)
def fX4_holder (i0 : Nat) (v1 : Int32) (v2 : Int32) (x : xS) : Option Int32 := fX4_holder_b0 i0 v1 v2 x
section
variable {p : Program} {l : Launch} {e : Env} {R : Room} {s : State} {m : MethodId} {args : Array Value} {below : List Frame} {meth : Method} {c : Code} {G : gT}
set_option maxHeartbeats 4000000 in
set_option maxRecDepth 100000 in
theorem wX4_holder_b0 (C : CT p s m args meth c cX4_holder 3 RX4 (some (.int)) G (pA G s.heap.size)) {i0 : Nat} {v1 : Int32} {v2 : Int32} {x : xS}  {r : Int32} (hk0 : KD G i0 4) (hf : fX4_holder_b0 i0 v1 v2 x  = some r) : WB p l e rX4_holder s m args below meth c 3 G (pA G s.heap.size) (qI below G (r, x) args s 0 0) 0 0 0 [(0, .ref (G.2.2 i0)), (1, .int v1), (2, .int v2)] [] x := by
  unfold fX4_holder_b0 at hf
  refine b_aload_n C dX4_holder_0 rfl 0 rfl ?_
  refine gfX4_14 C hk0 dX4_holder_1 ?_
  refine b_iload_n C dX4_holder_4 rfl 1 rfl ?_
  refine b_iload_n C dX4_holder_5 rfl 2 rfl ?_
  obtain ⟨r6, c6, hf⟩ := oB hf
  refine b_callVi (K := 2) (As := [.int v1, .int v2]) (res := (r6, x)) C (metX2_get l G _ _ _ _ _ (kd4 C.cl hk0) c6) (kd4 C.cl hk0) (by decide) rfl gkX4_32 ekX4_32 rfl ⟨rfl, rfl⟩ ⟨Nat.le_of_ble_eq_true rfl, Nat.le_of_ble_eq_true rfl⟩ (by simp [Value.category]) ⟨Nat.zero_le _, Nat.zero_le _⟩ rfl dX4_holder_6 ?_
  exact b_ireti C dX4_holder_9 (congrArg (Option.map (fun q => (q, x))) hf)
end
theorem metX4_holder (l : Launch) (G : gT) (i0 : Nat) (v1 : Int32) (v2 : Int32) (x : xS) (r : Int32) (hk0 : KD G i0 4) (hf : fX4_holder i0 v1 v2 x = some r) : cI l yX4_holder cX4_holder 3 (.int) rX4_holder [.ref (G.2.2 i0), .int v1, .int v2] G x (r, x) :=
  b_body (by decide) (Nat.le_of_ble_eq_true rfl) rfl (fun p e s m args below meth c C => wX4_holder_b0 C hk0 hf)
-- X6_isWithinNight
abbrev rX6_isWithinNight : Room := { frames := 0, cells := 0, slots := 0, locals := 0 }
def fX6_isWithinNight_b33 (x : xS)  : Option Int32 :=
  some 0
def fX6_isWithinNight_b0 (v0 : Int32) (v1 : Int32) (x : xS)  : Option Int32 :=
  (if v0 < 0 then
  fX6_isWithinNight_b33 x 
  else
  (if (12 : Int32) ≤ v0 then
  fX6_isWithinNight_b33 x 
  else
  (if v1 < 1 then
  fX6_isWithinNight_b33 x 
  else
  (if (9 : Int32) < v1 then
  fX6_isWithinNight_b33 x 
  else
  (if (12 : Int32) < (v0 + v1) then
  fX6_isWithinNight_b33 x 
  else
  some 1)))))
def fX6_isWithinNight (v0 : Int32) (v1 : Int32) (x : xS) : Option Int32 := fX6_isWithinNight_b0 v0 v1 x
section
variable {p : Program} {l : Launch} {e : Env} {R : Room} {s : State} {m : MethodId} {args : Array Value} {below : List Frame} {meth : Method} {c : Code} {G : gT}
set_option maxHeartbeats 4000000 in
set_option maxRecDepth 100000 in
theorem wX6_isWithinNight_b33 (C : CT p s m args meth c cX6_isWithinNight 2 RX6 (some (.boolean)) G (pA G s.heap.size)) {x : xS}  {r : Int32}  (hf : fX6_isWithinNight_b33 x  = some r) : WB p l e rX6_isWithinNight s m args below meth c 2 G (pA G s.heap.size) (qI below G (r, x) args s 0 0) 0 0 33 [] [] x := by
  unfold fX6_isWithinNight_b33 at hf
  refine b_iconst (v := 0) C dX6_isWithinNight_33 (by decide) ?_
  exact b_iretz C (by decide) dX6_isWithinNight_34 (congrArg (Option.map (fun q => (q, x))) hf)
set_option maxHeartbeats 4000000 in
set_option maxRecDepth 100000 in
theorem wX6_isWithinNight_b0 (C : CT p s m args meth c cX6_isWithinNight 2 RX6 (some (.boolean)) G (pA G s.heap.size)) {v0 : Int32} {v1 : Int32} {x : xS}  {r : Int32}  (hf : fX6_isWithinNight_b0 v0 v1 x  = some r) : WB p l e rX6_isWithinNight s m args below meth c 2 G (pA G s.heap.size) (qI below G (r, x) args s 0 0) 0 0 0 [(0, .int v0), (1, .int v1)] [] x := by
  unfold fX6_isWithinNight_b0 at hf
  refine b_iload_n C dX6_isWithinNight_0 rfl 0 rfl ?_
  refine b_if_lt (tgt := 33) C dX6_isWithinNight_1 (by decide) (fun c1 => ?_) (fun c1 => ?_)
  · have hf := iT c1 hf
    refine b_pm [] (lv' := []) rfl ?_
    exact wX6_isWithinNight_b33 C   hf
  · have hf := iF c1 hf
    refine b_iload_n C dX6_isWithinNight_4 rfl 0 rfl ?_
    refine b_bipush (v := 12) C dX6_isWithinNight_5 (by decide) ?_
    refine b_icmp_ge (tgt := 33) C dX6_isWithinNight_7 (by decide) (fun c7 => ?_) (fun c7 => ?_)
    · have hf := iT c7 hf
      refine b_pm [] (lv' := []) rfl ?_
      exact wX6_isWithinNight_b33 C   hf
    · have hf := iF c7 hf
      refine b_iload_n C dX6_isWithinNight_10 rfl 1 rfl ?_
      refine b_iconst (v := 1) C dX6_isWithinNight_11 (by decide) ?_
      refine b_icmp_lt (tgt := 33) C dX6_isWithinNight_12 (by decide) (fun c12 => ?_) (fun c12 => ?_)
      · have hf := iT c12 hf
        refine b_pm [] (lv' := []) rfl ?_
        exact wX6_isWithinNight_b33 C   hf
      · have hf := iF c12 hf
        refine b_iload_n C dX6_isWithinNight_15 rfl 1 rfl ?_
        refine b_bipush (v := 9) C dX6_isWithinNight_16 (by decide) ?_
        refine b_icmp_gt (tgt := 33) C dX6_isWithinNight_18 (by decide) (fun c18 => ?_) (fun c18 => ?_)
        · have hf := iT c18 hf
          refine b_pm [] (lv' := []) rfl ?_
          exact wX6_isWithinNight_b33 C   hf
        · have hf := iF c18 hf
          refine b_iload_n C dX6_isWithinNight_21 rfl 0 rfl ?_
          refine b_iload_n C dX6_isWithinNight_22 rfl 1 rfl ?_
          refine b_iadd C dX6_isWithinNight_23 ?_
          refine b_bipush (v := 12) C dX6_isWithinNight_24 (by decide) ?_
          refine b_icmp_gt (tgt := 33) C dX6_isWithinNight_26 (by decide) (fun c26 => ?_) (fun c26 => ?_)
          · have hf := iT c26 hf
            refine b_pm [] (lv' := []) rfl ?_
            exact wX6_isWithinNight_b33 C   hf
          · have hf := iF c26 hf
            refine b_iconst (v := 1) C dX6_isWithinNight_29 (by decide) ?_
            refine b_goto (tgt := 34) C dX6_isWithinNight_30 (by decide) ?_
            exact b_iretz C (by decide) dX6_isWithinNight_34 (congrArg (Option.map (fun q => (q, x))) hf)
end
theorem metX6_isWithinNight (l : Launch) (G : gT) (v0 : Int32) (v1 : Int32) (x : xS) (r : Int32)  (hf : fX6_isWithinNight v0 v1 x = some r) : cI l yX6_isWithinNight cX6_isWithinNight 2 (.boolean) rX6_isWithinNight [.int v0, .int v1] G x (r, x) :=
  b_body (by decide) (Nat.le_of_ble_eq_true rfl) rfl (fun p e s m args below meth c C => wX6_isWithinNight_b0 C  hf)
-- X4_isOpenTo
abbrev rX4_isOpenTo : Room := { frames := 3, cells := 0, slots := 0, locals := 71 }
def fX4_isOpenTo_b16 (i0 : Nat) (x : xS)  : Option Int32 :=
  some 0
def fX4_isOpenTo_b47 (i0 : Nat) (x : xS)  : Option Int32 :=
  some 0
def fX4_isOpenTo_b0 (i0 : Nat) (v1 : Int32) (v2 : Int32) (v3 : Int32) (x : xS)  : Option Int32 :=
  Option.bind (fX6_isWithinNight v2 v3 x) (fun r2 =>
  (if r2 = 0 then
  fX4_isOpenTo_b16 i0 x 
  else
  Option.bind (fX4_wentBy i0 v2 x) (fun r10 =>
  (if r10 = 0 then
  Option.bind (fX4_hoursWithBed i0 v1 v2 v3 x) (fun r22 =>
  (if r22 = 0 then
  Option.bind (fX4_leastLentBed i0 v2 v3 x) (fun r32 =>
  Option.bind (fX4_lentHoursIn i0 r32 v2 v3 x) (fun r37 =>
  (if r37 = 0 then
  some 1
  else
  fX4_isOpenTo_b47 i0 x )))
  else
  fX4_isOpenTo_b47 i0 x ))
  else
  fX4_isOpenTo_b16 i0 x ))))
def fX4_isOpenTo (i0 : Nat) (v1 : Int32) (v2 : Int32) (v3 : Int32) (x : xS) : Option Int32 := fX4_isOpenTo_b0 i0 v1 v2 v3 x
section
variable {p : Program} {l : Launch} {e : Env} {R : Room} {s : State} {m : MethodId} {args : Array Value} {below : List Frame} {meth : Method} {c : Code} {G : gT}
set_option maxHeartbeats 4000000 in
set_option maxRecDepth 100000 in
theorem wX4_isOpenTo_b16 (C : CT p s m args meth c cX4_isOpenTo 4 RX4 (some (.boolean)) G (pA G s.heap.size)) {i0 : Nat} {x : xS}  {r : Int32} (hk0 : KD G i0 4) (hf : fX4_isOpenTo_b16 i0 x  = some r) : WB p l e rX4_isOpenTo s m args below meth c 4 G (pA G s.heap.size) (qI below G (r, x) args s 0 0) 0 0 16 [(0, .ref (G.2.2 i0))] [] x := by
  unfold fX4_isOpenTo_b16 at hf
  refine b_iconst (v := 0) C dX4_isOpenTo_16 (by decide) ?_
  exact b_iretz C (by decide) dX4_isOpenTo_17 (congrArg (Option.map (fun q => (q, x))) hf)
set_option maxHeartbeats 4000000 in
set_option maxRecDepth 100000 in
theorem wX4_isOpenTo_b47 (C : CT p s m args meth c cX4_isOpenTo 4 RX4 (some (.boolean)) G (pA G s.heap.size)) {i0 : Nat} {x : xS}  {r : Int32} (hk0 : KD G i0 4) (hf : fX4_isOpenTo_b47 i0 x  = some r) : WB p l e rX4_isOpenTo s m args below meth c 4 G (pA G s.heap.size) (qI below G (r, x) args s 0 0) 0 0 47 [(0, .ref (G.2.2 i0))] [] x := by
  unfold fX4_isOpenTo_b47 at hf
  refine b_iconst (v := 0) C dX4_isOpenTo_47 (by decide) ?_
  exact b_iretz C (by decide) dX4_isOpenTo_48 (congrArg (Option.map (fun q => (q, x))) hf)
set_option maxHeartbeats 4000000 in
set_option maxRecDepth 100000 in
theorem wX4_isOpenTo_b0 (C : CT p s m args meth c cX4_isOpenTo 4 RX4 (some (.boolean)) G (pA G s.heap.size)) {i0 : Nat} {v1 : Int32} {v2 : Int32} {v3 : Int32} {x : xS}  {r : Int32} (hk0 : KD G i0 4) (hf : fX4_isOpenTo_b0 i0 v1 v2 v3 x  = some r) : WB p l e rX4_isOpenTo s m args below meth c 4 G (pA G s.heap.size) (qI below G (r, x) args s 0 0) 0 0 0 [(0, .ref (G.2.2 i0)), (1, .int v1), (2, .int v2), (3, .int v3)] [] x := by
  unfold fX4_isOpenTo_b0 at hf
  refine b_iload_n C dX4_isOpenTo_0 rfl 2 rfl ?_
  refine b_iload_n C dX4_isOpenTo_1 rfl 3 rfl ?_
  obtain ⟨r2, c2, hf⟩ := oB hf
  refine b_callSiN (As := [.int v2, .int v3]) (res := (r2, x)) C (metX6_isWithinNight l G _ _ _ _  c2) gkX4_67 w_169 w_170 ekX4_67 rfl ⟨rfl, rfl⟩ ⟨Nat.le_of_ble_eq_true rfl, Nat.le_of_ble_eq_true rfl⟩ (by simp [Value.category]) ⟨Nat.zero_le _, Nat.zero_le _⟩ rfl dX4_isOpenTo_2 ?_
  refine b_if_eq (tgt := 16) C dX4_isOpenTo_5 (by decide) (fun c5 => ?_) (fun c5 => ?_)
  · have hf := iT c5 hf
    refine b_pm [0] (lv' := [(0, .ref (G.2.2 i0))]) rfl ?_
    exact wX4_isOpenTo_b16 C  hk0 hf
  · have hf := iF c5 hf
    refine b_aload_n C dX4_isOpenTo_8 rfl 0 rfl ?_
    refine b_iload_n C dX4_isOpenTo_9 rfl 2 rfl ?_
    obtain ⟨r10, c10, hf⟩ := oB hf
    refine b_callVi (K := 4) (As := [.int v2]) (res := (r10, x)) C (metX4_wentBy l G _ _ _ _ hk0 c10) hk0 (by decide) rfl gkX4_71 ekX4_71 rfl ⟨rfl, rfl⟩ ⟨Nat.le_of_ble_eq_true rfl, Nat.le_of_ble_eq_true rfl⟩ (by simp [Value.category]) ⟨Nat.zero_le _, Nat.zero_le _⟩ rfl dX4_isOpenTo_10 ?_
    refine b_if_eq (tgt := 18) C dX4_isOpenTo_13 (by decide) (fun c13 => ?_) (fun c13 => ?_)
    · have hf := iT c13 hf
      refine b_aload_n C dX4_isOpenTo_18 rfl 0 rfl ?_
      refine b_iload_n C dX4_isOpenTo_19 rfl 1 rfl ?_
      refine b_iload_n C dX4_isOpenTo_20 rfl 2 rfl ?_
      refine b_iload_n C dX4_isOpenTo_21 rfl 3 rfl ?_
      obtain ⟨r22, c22, hf⟩ := oB hf
      refine b_callVi (K := 4) (As := [.int v1, .int v2, .int v3]) (res := (r22, x)) C (metX4_hoursWithBed l G _ _ _ _ _ _ hk0 c22) hk0 (by decide) rfl gkX4_75 ekX4_75 rfl ⟨rfl, rfl⟩ ⟨Nat.le_of_ble_eq_true rfl, Nat.le_of_ble_eq_true rfl⟩ (by simp [Value.category]) ⟨Nat.zero_le _, Nat.zero_le _⟩ rfl dX4_isOpenTo_22 ?_
      refine b_if_ne (tgt := 47) C dX4_isOpenTo_25 (by decide) (fun c25 => ?_) (fun c25 => ?_)
      · have hf := iF c25 hf
        refine b_pm [0] (lv' := [(0, .ref (G.2.2 i0))]) rfl ?_
        exact wX4_isOpenTo_b47 C  hk0 hf
      · have hf := iT c25 hf
        refine b_aload_n C dX4_isOpenTo_28 rfl 0 rfl ?_
        refine b_aload_n C dX4_isOpenTo_29 rfl 0 rfl ?_
        refine b_iload_n C dX4_isOpenTo_30 rfl 2 rfl ?_
        refine b_iload_n C dX4_isOpenTo_31 rfl 3 rfl ?_
        obtain ⟨r32, c32, hf⟩ := oB hf
        refine b_callVi (K := 4) (As := [.int v2, .int v3]) (res := (r32, x)) C (metX4_leastLentBed l G _ _ _ _ _ hk0 c32) hk0 (by decide) rfl gkX4_78 ekX4_78 rfl ⟨rfl, rfl⟩ ⟨Nat.le_of_ble_eq_true rfl, Nat.le_of_ble_eq_true rfl⟩ (by simp [Value.category]) ⟨Nat.zero_le _, Nat.zero_le _⟩ rfl dX4_isOpenTo_32 ?_
        refine b_iload_n C dX4_isOpenTo_35 rfl 2 rfl ?_
        refine b_iload_n C dX4_isOpenTo_36 rfl 3 rfl ?_
        obtain ⟨r37, c37, hf⟩ := oB hf
        refine b_callVi (K := 4) (As := [.int r32, .int v2, .int v3]) (res := (r37, x)) C (metX4_lentHoursIn l G _ _ _ _ _ _ hk0 c37) hk0 (by decide) rfl gkX4_52 ekX4_52 rfl ⟨rfl, rfl⟩ ⟨Nat.le_of_ble_eq_true rfl, Nat.le_of_ble_eq_true rfl⟩ (by simp [Value.category]) ⟨Nat.zero_le _, Nat.zero_le _⟩ rfl dX4_isOpenTo_37 ?_
        refine b_if_ne (tgt := 47) C dX4_isOpenTo_40 (by decide) (fun c40 => ?_) (fun c40 => ?_)
        · have hf := iF c40 hf
          refine b_pm [0] (lv' := [(0, .ref (G.2.2 i0))]) rfl ?_
          exact wX4_isOpenTo_b47 C  hk0 hf
        · have hf := iT c40 hf
          refine b_iconst (v := 1) C dX4_isOpenTo_43 (by decide) ?_
          refine b_goto (tgt := 48) C dX4_isOpenTo_44 (by decide) ?_
          exact b_iretz C (by decide) dX4_isOpenTo_48 (congrArg (Option.map (fun q => (q, x))) hf)
    · have hf := iF c13 hf
      refine b_pm [0] (lv' := [(0, .ref (G.2.2 i0))]) rfl ?_
      exact wX4_isOpenTo_b16 C  hk0 hf
end
theorem metX4_isOpenTo (l : Launch) (G : gT) (i0 : Nat) (v1 : Int32) (v2 : Int32) (v3 : Int32) (x : xS) (r : Int32) (hk0 : KD G i0 4) (hf : fX4_isOpenTo i0 v1 v2 v3 x = some r) : cI l yX4_isOpenTo cX4_isOpenTo 4 (.boolean) rX4_isOpenTo [.ref (G.2.2 i0), .int v1, .int v2, .int v3] G x (r, x) :=
  b_body (by decide) (Nat.le_of_ble_eq_true rfl) rfl (fun p e s m args below meth c C => wX4_isOpenTo_b0 C hk0 hf)
-- X4_longestFor
abbrev rX4_longestFor : Room := { frames := 4, cells := 0, slots := 0, locals := 94 }
def fX4_longestFor_b26 (i0 : Nat) (x : xS) (v3 : Int32) : Option Int32 :=
  some v3
def fX4_longestFor_b2 (i0 : Nat) (v1 : Int32) (v2 : Int32) (x : xS) : Nat → Int32 → Option Int32
  | 0, _ => none
  | n + 1, v3 => (if (9 : Int32) ≤ v3 then
  fX4_longestFor_b26 i0 x v3
  else
  Option.bind (fX4_isOpenTo i0 v1 v2 (v3 + 1) x) (fun r14 =>
  (if r14 = 0 then
  fX4_longestFor_b26 i0 x v3
  else
  fX4_longestFor_b2 i0 v1 v2 x n (v3 + 1))))
def fX4_longestFor_b0 (i0 : Nat) (v1 : Int32) (v2 : Int32) (x : xS)  : Option Int32 :=
  fX4_longestFor_b2 i0 v1 v2 x FU 0
def fX4_longestFor (i0 : Nat) (v1 : Int32) (v2 : Int32) (x : xS) : Option Int32 := fX4_longestFor_b0 i0 v1 v2 x
section
variable {p : Program} {l : Launch} {e : Env} {R : Room} {s : State} {m : MethodId} {args : Array Value} {below : List Frame} {meth : Method} {c : Code} {G : gT}
set_option maxHeartbeats 4000000 in
set_option maxRecDepth 100000 in
theorem wX4_longestFor_b26 (C : CT p s m args meth c cX4_longestFor 4 RX4 (some (.int)) G (pA G s.heap.size)) {i0 : Nat} {x : xS} {v3 : Int32} {r : Int32} (hk0 : KD G i0 4) (hf : fX4_longestFor_b26 i0 x v3 = some r) : WB p l e rX4_longestFor s m args below meth c 4 G (pA G s.heap.size) (qI below G (r, x) args s 0 0) 0 0 26 [(0, .ref (G.2.2 i0)), (3, .int v3)] [] x := by
  unfold fX4_longestFor_b26 at hf
  refine b_iload_n C dX4_longestFor_26 rfl 1 rfl ?_
  exact b_ireti C dX4_longestFor_27 (congrArg (Option.map (fun q => (q, x))) hf)
set_option maxHeartbeats 4000000 in
set_option maxRecDepth 100000 in
theorem wX4_longestFor_b2 (C : CT p s m args meth c cX4_longestFor 4 RX4 (some (.int)) G (pA G s.heap.size)) {i0 : Nat} {v1 : Int32} {v2 : Int32} {x : xS} {r : Int32} (hk0 : KD G i0 4) : ∀ (n : Nat) (v3 : Int32), fX4_longestFor_b2 i0 v1 v2 x n v3 = some r → WB p l e rX4_longestFor s m args below meth c 4 G (pA G s.heap.size) (qI below G (r, x) args s 0 0) 0 0 2 [(0, .ref (G.2.2 i0)), (1, .int v1), (2, .int v2), (3, .int v3)] [] x := by
  intro n
  induction n with
  | zero =>
    intro v3 hf
    cases hf
  | succ n ih =>
    intro v3 hf
    rw [fX4_longestFor_b2] at hf
    refine b_iload_n C dX4_longestFor_2 rfl 3 rfl ?_
    refine b_bipush (v := 9) C dX4_longestFor_3 (by decide) ?_
    refine b_icmp_ge (tgt := 26) C dX4_longestFor_5 (by decide) (fun c5 => ?_) (fun c5 => ?_)
    · have hf := iT c5 hf
      refine b_pm [0, 3] (lv' := [(0, .ref (G.2.2 i0)), (3, .int v3)]) rfl ?_
      exact wX4_longestFor_b26 C  hk0 hf
    · have hf := iF c5 hf
      refine b_aload_n C dX4_longestFor_8 rfl 0 rfl ?_
      refine b_iload_n C dX4_longestFor_9 rfl 1 rfl ?_
      refine b_iload_n C dX4_longestFor_10 rfl 2 rfl ?_
      refine b_iload_n C dX4_longestFor_11 rfl 3 rfl ?_
      refine b_iconst (v := 1) C dX4_longestFor_12 (by decide) ?_
      refine b_iadd C dX4_longestFor_13 ?_
      obtain ⟨r14, c14, hf⟩ := oB hf
      refine b_callVi (K := 4) (As := [.int v1, .int v2, .int (v3 + 1)]) (res := (r14, x)) C (metX4_isOpenTo l G _ _ _ _ _ _ hk0 c14) hk0 (by decide) rfl gkX4_63 ekX4_63 rfl ⟨rfl, rfl⟩ ⟨Nat.le_of_ble_eq_true rfl, Nat.le_of_ble_eq_true rfl⟩ (by simp [Value.category]) ⟨Nat.zero_le _, Nat.zero_le _⟩ rfl dX4_longestFor_14 ?_
      refine b_if_eq (tgt := 26) C dX4_longestFor_17 (by decide) (fun c17 => ?_) (fun c17 => ?_)
      · have hf := iT c17 hf
        refine b_pm [0, 3] (lv' := [(0, .ref (G.2.2 i0)), (3, .int v3)]) rfl ?_
        exact wX4_longestFor_b26 C  hk0 hf
      · have hf := iF c17 hf
        refine b_iinc (q := 3) (v' := (v3 + 1)) (lv' := [(3, .int (v3 + 1)), (0, .ref (G.2.2 i0)), (1, .int v1), (2, .int v2)]) C dX4_longestFor_20 rfl rfl (by decide) rfl ?_
        refine b_goto (tgt := 2) C dX4_longestFor_23 (by decide) ?_
        refine b_pm [1, 2, 3, 0] (lv' := [(0, .ref (G.2.2 i0)), (1, .int v1), (2, .int v2), (3, .int (v3 + 1))]) rfl ?_
        exact ih _ hf
set_option maxHeartbeats 4000000 in
set_option maxRecDepth 100000 in
theorem wX4_longestFor_b0 (C : CT p s m args meth c cX4_longestFor 4 RX4 (some (.int)) G (pA G s.heap.size)) {i0 : Nat} {v1 : Int32} {v2 : Int32} {x : xS}  {r : Int32} (hk0 : KD G i0 4) (hf : fX4_longestFor_b0 i0 v1 v2 x  = some r) : WB p l e rX4_longestFor s m args below meth c 4 G (pA G s.heap.size) (qI below G (r, x) args s 0 0) 0 0 0 [(0, .ref (G.2.2 i0)), (1, .int v1), (2, .int v2)] [] x := by
  unfold fX4_longestFor_b0 at hf
  refine b_iconst (v := 0) C dX4_longestFor_0 (by decide) ?_
  refine b_istore_n (lv' := [(3, .int 0), (0, .ref (G.2.2 i0)), (1, .int v1), (2, .int v2)]) C dX4_longestFor_1 rfl (by decide) rfl ?_
  refine b_pm [1, 2, 3, 0] (lv' := [(0, .ref (G.2.2 i0)), (1, .int v1), (2, .int v2), (3, .int 0)]) rfl ?_
  exact wX4_longestFor_b2 C  hk0 FU _ hf
end
theorem metX4_longestFor (l : Launch) (G : gT) (i0 : Nat) (v1 : Int32) (v2 : Int32) (x : xS) (r : Int32) (hk0 : KD G i0 4) (hf : fX4_longestFor i0 v1 v2 x = some r) : cI l yX4_longestFor cX4_longestFor 4 (.int) rX4_longestFor [.ref (G.2.2 i0), .int v1, .int v2] G x (r, x) :=
  b_body (by decide) (Nat.le_of_ble_eq_true rfl) rfl (fun p e s m args below meth c C => wX4_longestFor_b0 C hk0 hf)
-- X4_mostLentBeds
abbrev rX4_mostLentBeds : Room := { frames := 2, cells := 0, slots := 0, locals := 45 }
def fX4_mostLentBeds_b4 (i0 : Nat) (x : xS) : Nat → Int32 → Int32 → Option Int32
  | 0, _, _ => none
  | n + 1, v1, v2 => (if (12 : Int32) ≤ v2 then
  some v1
  else
  Option.bind (fX4_lentBeds i0 v2 x) (fun r13 =>
  lt1 (if v1 < r13 then r13 else v1) (fun y19 => 
  fX4_mostLentBeds_b4 i0 x n y19 (v2 + 1))))
def fX4_mostLentBeds_b0 (i0 : Nat) (x : xS)  : Option Int32 :=
  fX4_mostLentBeds_b4 i0 x FU 0 0
def fX4_mostLentBeds (i0 : Nat) (x : xS) : Option Int32 := fX4_mostLentBeds_b0 i0 x
section
variable {p : Program} {l : Launch} {e : Env} {R : Room} {s : State} {m : MethodId} {args : Array Value} {below : List Frame} {meth : Method} {c : Code} {G : gT}
set_option maxHeartbeats 4000000 in
set_option maxRecDepth 100000 in
theorem wX4_mostLentBeds_b4 (C : CT p s m args meth c cX4_mostLentBeds 3 RX4 (some (.int)) G (pA G s.heap.size)) {i0 : Nat} {x : xS} {r : Int32} (hk0 : KD G i0 4) : ∀ (n : Nat) (v1 : Int32) (v2 : Int32), fX4_mostLentBeds_b4 i0 x n v1 v2 = some r → WB p l e rX4_mostLentBeds s m args below meth c 3 G (pA G s.heap.size) (qI below G (r, x) args s 0 0) 0 0 4 [(0, .ref (G.2.2 i0)), (1, .int v1), (2, .int v2)] [] x := by
  intro n
  induction n with
  | zero =>
    intro v1 v2 hf
    cases hf
  | succ n ih =>
    intro v1 v2 hf
    rw [fX4_mostLentBeds_b4] at hf
    refine b_iload_n C dX4_mostLentBeds_4 rfl 2 rfl ?_
    refine b_bipush (v := 12) C dX4_mostLentBeds_5 (by decide) ?_
    refine b_icmp_ge (tgt := 26) C dX4_mostLentBeds_7 (by decide) (fun c7 => ?_) (fun c7 => ?_)
    · have hf := iT c7 hf
      refine b_iload_n C dX4_mostLentBeds_26 rfl 1 rfl ?_
      exact b_ireti C dX4_mostLentBeds_27 (congrArg (Option.map (fun q => (q, x))) hf)
    · have hf := iF c7 hf
      refine b_iload_n C dX4_mostLentBeds_10 rfl 1 rfl ?_
      refine b_aload_n C dX4_mostLentBeds_11 rfl 0 rfl ?_
      refine b_iload_n C dX4_mostLentBeds_12 rfl 2 rfl ?_
      obtain ⟨r13, c13, hf⟩ := oB hf
      refine b_callVi (K := 4) (As := [.int v2]) (res := (r13, x)) C (metX4_lentBeds l G _ _ _ _ hk0 c13) hk0 (by decide) rfl gkX4_40 ekX4_40 rfl ⟨rfl, rfl⟩ ⟨Nat.le_of_ble_eq_true rfl, Nat.le_of_ble_eq_true rfl⟩ (by simp [Value.category]) ⟨Nat.zero_le _, Nat.zero_le _⟩ rfl dX4_mostLentBeds_13 ?_
      refine b_mmax C w_178 w_32 w_33 w_34 ⟨by decide, by decide⟩ (by simp [Value.category]) ⟨Nat.zero_le _, Nat.zero_le _⟩ dX4_mostLentBeds_16 ?_
      obtain ⟨y19, e19, hf⟩ := lN1 hf
      rw [e19]
      refine b_istore_n (lv' := [(1, .int y19), (0, .ref (G.2.2 i0)), (2, .int v2)]) C dX4_mostLentBeds_19 rfl (by decide) rfl ?_
      refine b_iinc (q := 2) (v' := (v2 + 1)) (lv' := [(2, .int (v2 + 1)), (1, .int y19), (0, .ref (G.2.2 i0))]) C dX4_mostLentBeds_20 rfl rfl (by decide) rfl ?_
      refine b_goto (tgt := 4) C dX4_mostLentBeds_23 (by decide) ?_
      refine b_pm [2, 1, 0] (lv' := [(0, .ref (G.2.2 i0)), (1, .int y19), (2, .int (v2 + 1))]) rfl ?_
      exact ih _ _ hf
set_option maxHeartbeats 4000000 in
set_option maxRecDepth 100000 in
theorem wX4_mostLentBeds_b0 (C : CT p s m args meth c cX4_mostLentBeds 3 RX4 (some (.int)) G (pA G s.heap.size)) {i0 : Nat} {x : xS}  {r : Int32} (hk0 : KD G i0 4) (hf : fX4_mostLentBeds_b0 i0 x  = some r) : WB p l e rX4_mostLentBeds s m args below meth c 3 G (pA G s.heap.size) (qI below G (r, x) args s 0 0) 0 0 0 [(0, .ref (G.2.2 i0))] [] x := by
  unfold fX4_mostLentBeds_b0 at hf
  refine b_iconst (v := 0) C dX4_mostLentBeds_0 (by decide) ?_
  refine b_istore_n (lv' := [(1, .int 0), (0, .ref (G.2.2 i0))]) C dX4_mostLentBeds_1 rfl (by decide) rfl ?_
  refine b_iconst (v := 0) C dX4_mostLentBeds_2 (by decide) ?_
  refine b_istore_n (lv' := [(2, .int 0), (1, .int 0), (0, .ref (G.2.2 i0))]) C dX4_mostLentBeds_3 rfl (by decide) rfl ?_
  refine b_pm [2, 1, 0] (lv' := [(0, .ref (G.2.2 i0)), (1, .int 0), (2, .int 0)]) rfl ?_
  exact wX4_mostLentBeds_b4 C  hk0 FU _ _ hf
end
theorem metX4_mostLentBeds (l : Launch) (G : gT) (i0 : Nat) (x : xS) (r : Int32) (hk0 : KD G i0 4) (hf : fX4_mostLentBeds i0 x = some r) : cI l yX4_mostLentBeds cX4_mostLentBeds 3 (.int) rX4_mostLentBeds [.ref (G.2.2 i0)] G x (r, x) :=
  b_body (by decide) (Nat.le_of_ble_eq_true rfl) rfl (fun p e s m args below meth c C => wX4_mostLentBeds_b0 C hk0 hf)
-- X5_houseIn
abbrev rX5_houseIn : Room := { frames := 0, cells := 0, slots := 0, locals := 0 }
def fX5_houseIn_b22 (i0 : Nat) (x : xS)  : Option (Option Nat) :=
  some none
def fX5_houseIn_b0 (i0 : Nat) (v1 : Int32) (x : xS)  : Option (Option Nat) :=
  (if v1 < 0 then
  fX5_houseIn_b22 i0 x 
  else
  (if (Int32.ofNat (ln (i0 + 1))) ≤ v1 then
  fX5_houseIn_b22 i0 x 
  else
  (if v1 < 0 ∨ ln (i0 + 1) ≤ v1.toNatClampNeg then none else
  some (some ((i0 + 1) + 2 + 10 * v1.toNatClampNeg)))))
def fX5_houseIn (i0 : Nat) (v1 : Int32) (x : xS) : Option (Option Nat) := fX5_houseIn_b0 i0 v1 x
section
variable {p : Program} {l : Launch} {e : Env} {R : Room} {s : State} {m : MethodId} {args : Array Value} {below : List Frame} {meth : Method} {c : Code} {G : gT}
set_option maxHeartbeats 4000000 in
set_option maxRecDepth 100000 in
theorem wX5_houseIn_b22 (C : CT p s m args meth c cX5_houseIn 2 RX5 (some ((.object "SevenAsks$House"))) G (pA G s.heap.size)) {i0 : Nat} {x : xS}  {r : (Option Nat)} (hk0 : KD G i0 5) (hf : fX5_houseIn_b22 i0 x  = some r) : WB p l e rX5_houseIn s m args below meth c 2 G (pA G s.heap.size) (qQ below G (r, x) args s 0 0) 0 0 22 [(0, .ref (G.2.2 i0))] [] x := by
  unfold fX5_houseIn_b22 at hf
  refine b_aconst C dX5_houseIn_22 ?_
  exact b_qret (w := none) C rfl dX5_houseIn_23 (congrArg (Option.map (fun q => (q, x))) hf)
set_option maxHeartbeats 4000000 in
set_option maxRecDepth 100000 in
theorem wX5_houseIn_b0 (C : CT p s m args meth c cX5_houseIn 2 RX5 (some ((.object "SevenAsks$House"))) G (pA G s.heap.size)) {i0 : Nat} {v1 : Int32} {x : xS}  {r : (Option Nat)} (hk0 : KD G i0 5) (hf : fX5_houseIn_b0 i0 v1 x  = some r) : WB p l e rX5_houseIn s m args below meth c 2 G (pA G s.heap.size) (qQ below G (r, x) args s 0 0) 0 0 0 [(0, .ref (G.2.2 i0)), (1, .int v1)] [] x := by
  unfold fX5_houseIn_b0 at hf
  refine b_iload_n C dX5_houseIn_0 rfl 1 rfl ?_
  refine b_if_lt (tgt := 22) C dX5_houseIn_1 (by decide) (fun c1 => ?_) (fun c1 => ?_)
  · have hf := iT c1 hf
    refine b_pm [0] (lv' := [(0, .ref (G.2.2 i0))]) rfl ?_
    exact wX5_houseIn_b22 C  hk0 hf
  · have hf := iF c1 hf
    refine b_iload_n C dX5_houseIn_4 rfl 1 rfl ?_
    refine b_aload_n C dX5_houseIn_5 rfl 0 rfl ?_
    refine gfX5_15 C hk0 dX5_houseIn_6 ?_
    refine b_alen10 C ((kd5 C.cl hk0).1) dX5_houseIn_9 ?_
    refine b_icmp_ge (tgt := 22) C dX5_houseIn_10 (by decide) (fun c10 => ?_) (fun c10 => ?_)
    · have hf := iT c10 hf
      refine b_pm [0] (lv' := [(0, .ref (G.2.2 i0))]) rfl ?_
      exact wX5_houseIn_b22 C  hk0 hf
    · have hf := iF c10 hf
      refine b_aload_n C dX5_houseIn_13 rfl 0 rfl ?_
      refine gfX5_15 C hk0 dX5_houseIn_14 ?_
      refine b_iload_n C dX5_houseIn_17 rfl 1 rfl ?_
      obtain ⟨g18, hf⟩ := iN hf
      refine b_aald C ((kd5 C.cl hk0).1) g18 dX5_houseIn_18 ?_
      refine b_goto (tgt := 23) C dX5_houseIn_19 (by decide) ?_
      exact b_qret (w := (some ((i0 + 1) + 2 + 10 * v1.toNatClampNeg))) C rfl dX5_houseIn_23 (congrArg (Option.map (fun q => (q, x))) hf)
end
theorem metX5_houseIn (l : Launch) (G : gT) (i0 : Nat) (v1 : Int32) (x : xS) (r : (Option Nat)) (hk0 : KD G i0 5) (hf : fX5_houseIn i0 v1 x = some r) : cQ l yX5_houseIn cX5_houseIn 2 ((.object "SevenAsks$House")) rX5_houseIn [.ref (G.2.2 i0), .int v1] G x (r, x) :=
  b_body (by decide) (Nat.le_of_ble_eq_true rfl) rfl (fun p e s m args below meth c C => wX5_houseIn_b0 C hk0 hf)
theorem kdq_X5_houseIn {G : gT} {i0 : Nat} {v1 : Int32} {x : xS} {j : Nat} (H : CL G) (hk0 : KD G i0 5) (h : fX5_houseIn i0 v1 x = some (some j)) : KD G j 3 := by
  unfold fX5_houseIn fX5_houseIn_b0 at h
  by_cases c1 : v1 < 0
  · rw [if_pos c1] at h; cases h
  · rw [if_neg c1] at h
    by_cases c2 : Int32.ofNat (ln (i0 + 1)) ≤ v1
    · rw [if_pos c2] at h; cases h
    · rw [if_neg c2] at h
      obtain ⟨g, h⟩ := iN h
      cases Option.some.inj (Option.some.inj h)
      exact kd10 H (kd5 H hk0).1 g
-- X5_restore
abbrev rX5_restore : Room := { frames := 4, cells := 0, slots := 0, locals := 103 }
def fX5_restore_b0 (i0 : Nat) (v1 : Int32) (i2 : Nat) (x : xS) : Option xS :=
  Option.bind (fX5_houseIn i0 v1 x) (fun r2 => match r2 with
  | none => some x
  | some j2 => Option.bind (fX3_copyFrom i2 j2 x) (fun r12 =>
  some r12))
def fX5_restore (i0 : Nat) (v1 : Int32) (i2 : Nat) (x : xS) : Option xS := fX5_restore_b0 i0 v1 i2 x
section
variable {p : Program} {l : Launch} {e : Env} {R : Room} {s : State} {m : MethodId} {args : Array Value} {below : List Frame} {meth : Method} {c : Code} {G : gT}
set_option maxHeartbeats 4000000 in
set_option maxRecDepth 100000 in
theorem wX5_restore_b0 (C : CT p s m args meth c cX5_restore 4 RX5 none G (pA G s.heap.size)) {i0 : Nat} {v1 : Int32} {i2 : Nat} {x : xS} {r : xS} (hk0 : KD G i0 5) (hk2 : KD G i2 3) (hf : fX5_restore_b0 i0 v1 i2 x = some r) : WB p l e rX5_restore s m args below meth c 4 G (pA G s.heap.size) (qV below G r args s 0 0) 0 0 0 [(0, .ref (G.2.2 i0)), (1, .int v1), (2, .ref (G.2.2 i2))] [] x := by
  unfold fX5_restore_b0 at hf
  refine b_aload_n C dX5_restore_0 rfl 0 rfl ?_
  refine b_iload_n C dX5_restore_1 rfl 1 rfl ?_
  obtain ⟨r2, c2, hf⟩ := oB hf
  refine b_callVq (K := 5) (As := [.int v1]) (res := (r2, x)) C (metX5_houseIn l G _ _ _ _ hk0 c2) hk0 (by decide) rfl gkX5_26 ekX5_26 rfl ⟨rfl, rfl⟩ ⟨Nat.le_of_ble_eq_true rfl, Nat.le_of_ble_eq_true rfl⟩ (by simp [Value.category]) ⟨Nat.zero_le _, Nat.zero_le _⟩ rfl dX5_restore_2 ?_
  cases r2 with
  | none =>
    refine b_astore_nN (lv' := [(3, .null), (0, .ref (G.2.2 i0)), (1, .int v1), (2, .ref (G.2.2 i2))]) C dX5_restore_5 rfl (by decide) rfl ?_
    refine b_aload_nN C dX5_restore_6 rfl 0 rfl ?_
    refine b_ifnullN (tgt := 15) C dX5_restore_7 (by decide) ?_
    exact b_vret C dX5_restore_15 hf
  | some j2 =>
    refine b_astore_n (lv' := [(3, .ref (G.2.2 j2)), (0, .ref (G.2.2 i0)), (1, .int v1), (2, .ref (G.2.2 i2))]) C dX5_restore_5 rfl (by decide) rfl ?_
    refine b_aload_n C dX5_restore_6 rfl 0 rfl ?_
    refine b_ifnullR C dX5_restore_7 ?_
    refine b_aload_n C dX5_restore_10 rfl 3 rfl ?_
    refine b_aload_n C dX5_restore_11 rfl 0 rfl ?_
    obtain ⟨r12, c12, hf⟩ := oB hf
    refine b_callVv (K := 3) (As := [.ref (G.2.2 j2)]) (res := r12) C (metX3_copyFrom l G _ _ _ _ hk2 (kdq_X5_houseIn C.cl hk0 c2) c12) hk2 (by decide) rfl gkX5_30 ekX5_30 rfl ⟨rfl, rfl⟩ ⟨Nat.le_of_ble_eq_true rfl, Nat.le_of_ble_eq_true rfl⟩ (by simp [Value.category]) ⟨Nat.zero_le _, Nat.zero_le _⟩ rfl dX5_restore_12 ?_
    exact b_vret C dX5_restore_15 hf
end
theorem metX5_restore (l : Launch) (G : gT) (i0 : Nat) (v1 : Int32) (i2 : Nat) (x : xS) (r : xS) (hk0 : KD G i0 5) (hk2 : KD G i2 3) (hf : fX5_restore i0 v1 i2 x = some r) : cV l yX5_restore cX5_restore 4 rX5_restore [.ref (G.2.2 i0), .int v1, .ref (G.2.2 i2)] G x r :=
  b_body (by decide) (Nat.le_of_ble_eq_true rfl) rfl (fun p e s m args below meth c C => wX5_restore_b0 C hk0 hk2 hf)
-- X5_store
abbrev rX5_store : Room := { frames := 4, cells := 0, slots := 0, locals := 103 }
def fX5_store_b0 (i0 : Nat) (v1 : Int32) (i2 : Nat) (x : xS) : Option xS :=
  Option.bind (fX5_houseIn i0 v1 x) (fun r2 => match r2 with
  | none => some x
  | some j2 => (if v1 < 0 then
  some x
  else
  (if (Int32.ofNat (ln (i0 + 2))) ≤ v1 then
  some x
  else
  Option.bind (fX3_copyFrom j2 i2 x) (fun r25 =>
  (if v1 < 0 ∨ ln (i0 + 2) ≤ v1.toNatClampNeg then none else
  lt1 (up1 r25 (i0 + 2) v1.toNatClampNeg (vp_nar .boolean 1)) (fun x34 =>
  some x34))))))
def fX5_store (i0 : Nat) (v1 : Int32) (i2 : Nat) (x : xS) : Option xS := fX5_store_b0 i0 v1 i2 x
section
variable {p : Program} {l : Launch} {e : Env} {R : Room} {s : State} {m : MethodId} {args : Array Value} {below : List Frame} {meth : Method} {c : Code} {G : gT}
set_option maxHeartbeats 4000000 in
set_option maxRecDepth 100000 in
theorem wX5_store_b0 (C : CT p s m args meth c cX5_store 4 RX5 none G (pA G s.heap.size)) {i0 : Nat} {v1 : Int32} {i2 : Nat} {x : xS} {r : xS} (hk0 : KD G i0 5) (hk2 : KD G i2 3) (hf : fX5_store_b0 i0 v1 i2 x = some r) : WB p l e rX5_store s m args below meth c 4 G (pA G s.heap.size) (qV below G r args s 0 0) 0 0 0 [(0, .ref (G.2.2 i0)), (1, .int v1), (2, .ref (G.2.2 i2))] [] x := by
  unfold fX5_store_b0 at hf
  refine b_aload_n C dX5_store_0 rfl 0 rfl ?_
  refine b_iload_n C dX5_store_1 rfl 1 rfl ?_
  obtain ⟨r2, c2, hf⟩ := oB hf
  refine b_callVq (K := 5) (As := [.int v1]) (res := (r2, x)) C (metX5_houseIn l G _ _ _ _ hk0 c2) hk0 (by decide) rfl gkX5_26 ekX5_26 rfl ⟨rfl, rfl⟩ ⟨Nat.le_of_ble_eq_true rfl, Nat.le_of_ble_eq_true rfl⟩ (by simp [Value.category]) ⟨Nat.zero_le _, Nat.zero_le _⟩ rfl dX5_store_2 ?_
  cases r2 with
  | none =>
    refine b_astore_nN (lv' := [(3, .null), (0, .ref (G.2.2 i0)), (1, .int v1), (2, .ref (G.2.2 i2))]) C dX5_store_5 rfl (by decide) rfl ?_
    refine b_aload_nN C dX5_store_6 rfl 0 rfl ?_
    refine b_ifnullN (tgt := 35) C dX5_store_7 (by decide) ?_
    exact b_vret C dX5_store_35 hf
  | some j2 =>
    refine b_astore_n (lv' := [(3, .ref (G.2.2 j2)), (0, .ref (G.2.2 i0)), (1, .int v1), (2, .ref (G.2.2 i2))]) C dX5_store_5 rfl (by decide) rfl ?_
    refine b_aload_n C dX5_store_6 rfl 0 rfl ?_
    refine b_ifnullR C dX5_store_7 ?_
    refine b_iload_n C dX5_store_10 rfl 2 rfl ?_
    refine b_if_lt (tgt := 35) C dX5_store_11 (by decide) (fun c11 => ?_) (fun c11 => ?_)
    · have hf := iT c11 hf
      exact b_vret C dX5_store_35 hf
    · have hf := iF c11 hf
      refine b_iload_n C dX5_store_14 rfl 2 rfl ?_
      refine b_aload_n C dX5_store_15 rfl 1 rfl ?_
      refine gfX5_21 C hk0 dX5_store_16 ?_
      refine b_alen9 C ((kd5 C.cl hk0).2) dX5_store_19 ?_
      refine b_icmp_ge (tgt := 35) C dX5_store_20 (by decide) (fun c20 => ?_) (fun c20 => ?_)
      · have hf := iT c20 hf
        exact b_vret C dX5_store_35 hf
      · have hf := iF c20 hf
        refine b_aload_n C dX5_store_23 rfl 0 rfl ?_
        refine b_aload_n C dX5_store_24 rfl 3 rfl ?_
        obtain ⟨r25, c25, hf⟩ := oB hf
        refine b_callVv (K := 3) (As := [.ref (G.2.2 i2)]) (res := r25) C (metX3_copyFrom l G _ _ _ _ (kdq_X5_houseIn C.cl hk0 c2) hk2 c25) (kdq_X5_houseIn C.cl hk0 c2) (by decide) rfl gkX5_30 ekX5_30 rfl ⟨rfl, rfl⟩ ⟨Nat.le_of_ble_eq_true rfl, Nat.le_of_ble_eq_true rfl⟩ (by simp [Value.category]) ⟨Nat.zero_le _, Nat.zero_le _⟩ rfl dX5_store_25 ?_
        refine b_aload_n C dX5_store_28 rfl 1 rfl ?_
        refine gfX5_21 C hk0 dX5_store_29 ?_
        refine b_iload_n C dX5_store_32 rfl 2 rfl ?_
        refine b_iconst (v := 1) C dX5_store_33 (by decide) ?_
        obtain ⟨g34, hf⟩ := iN hf
        obtain ⟨x34, e34, hf⟩ := lN1 hf
        refine b_zast C ((kd5 C.cl hk0).2) g34 dX5_store_34 ?_
        rw [e34]
        exact b_vret C dX5_store_35 hf
end
theorem metX5_store (l : Launch) (G : gT) (i0 : Nat) (v1 : Int32) (i2 : Nat) (x : xS) (r : xS) (hk0 : KD G i0 5) (hk2 : KD G i2 3) (hf : fX5_store i0 v1 i2 x = some r) : cV l yX5_store cX5_store 4 rX5_store [.ref (G.2.2 i0), .int v1, .ref (G.2.2 i2)] G x r :=
  b_body (by decide) (Nat.le_of_ble_eq_true rfl) rfl (fun p e s m args below meth c C => wX5_store_b0 C hk0 hk2 hf)
-- X6_accountOf
abbrev rX6_accountOf : Room := { frames := 4, cells := 0, slots := 0, locals := 88 }
def fX6_accountOf_b0 (i0 : Nat) (v1 : Int32) (x : xS)  : Option Int32 :=
  (if v1 = 11 then
  some (x.1 i0 5)
  else
  Option.bind (fX3_account (i0 + 1) v1 x) (fun r18 =>
  some r18))
def fX6_accountOf (i0 : Nat) (v1 : Int32) (x : xS) : Option Int32 := fX6_accountOf_b0 i0 v1 x
section
variable {p : Program} {l : Launch} {e : Env} {R : Room} {s : State} {m : MethodId} {args : Array Value} {below : List Frame} {meth : Method} {c : Code} {G : gT}
set_option maxHeartbeats 4000000 in
set_option maxRecDepth 100000 in
theorem wX6_accountOf_b0 (C : CT p s m args meth c cX6_accountOf 2 RX6 (some (.int)) G (pA G s.heap.size)) {i0 : Nat} {v1 : Int32} {x : xS}  {r : Int32} (hk0 : KD G i0 6) (hf : fX6_accountOf_b0 i0 v1 x  = some r) : WB p l e rX6_accountOf s m args below meth c 2 G (pA G s.heap.size) (qI below G (r, x) args s 0 0) 0 0 0 [(0, .ref (G.2.2 i0)), (1, .int v1)] [] x := by
  unfold fX6_accountOf_b0 at hf
  refine b_iload_n C dX6_accountOf_0 rfl 1 rfl ?_
  refine b_bipush (v := 11) C dX6_accountOf_1 (by decide) ?_
  refine b_icmp_ne (tgt := 13) C dX6_accountOf_3 (by decide) (fun c3 => ?_) (fun c3 => ?_)
  · have hf := iF c3 hf
    refine b_aload_n C dX6_accountOf_13 rfl 0 rfl ?_
    refine gfX6_10 C hk0 dX6_accountOf_14 ?_
    refine b_iload_n C dX6_accountOf_17 rfl 1 rfl ?_
    obtain ⟨r18, c18, hf⟩ := oB hf
    refine b_callVi (K := 3) (As := [.int v1]) (res := (r18, x)) C (metX3_account l G _ _ _ _ ((kd6 C.cl hk0).1) c18) ((kd6 C.cl hk0).1) (by decide) rfl gkX6_125 ekX6_125 rfl ⟨rfl, rfl⟩ ⟨Nat.le_of_ble_eq_true rfl, Nat.le_of_ble_eq_true rfl⟩ (by simp [Value.category]) ⟨Nat.zero_le _, Nat.zero_le _⟩ rfl dX6_accountOf_18 ?_
    exact b_ireti C dX6_accountOf_21 (congrArg (Option.map (fun q => (q, x))) hf)
  · have hf := iT c3 hf
    refine b_aload_n C dX6_accountOf_6 rfl 0 rfl ?_
    refine gfX6_137 C hk0 dX6_accountOf_7 ?_
    refine b_goto (tgt := 21) C dX6_accountOf_10 (by decide) ?_
    exact b_ireti C dX6_accountOf_21 (congrArg (Option.map (fun q => (q, x))) hf)
end
theorem metX6_accountOf (l : Launch) (G : gT) (i0 : Nat) (v1 : Int32) (x : xS) (r : Int32) (hk0 : KD G i0 6) (hf : fX6_accountOf i0 v1 x = some r) : cI l yX6_accountOf cX6_accountOf 2 (.int) rX6_accountOf [.ref (G.2.2 i0), .int v1] G x (r, x) :=
  b_body (by decide) (Nat.le_of_ble_eq_true rfl) rfl (fun p e s m args below meth c C => wX6_accountOf_b0 C hk0 hf)
-- X6_fullness
abbrev rX6_fullness : Room := { frames := 4, cells := 0, slots := 0, locals := 87 }
def fX6_fullness_b0 (i0 : Nat) (x : xS)  : Option UInt64 :=
  Option.bind (fX3_shareLent (i0 + 1) x) (fun r4 =>
  some r4)
def fX6_fullness (i0 : Nat) (x : xS) : Option UInt64 := fX6_fullness_b0 i0 x
section
variable {p : Program} {l : Launch} {e : Env} {R : Room} {s : State} {m : MethodId} {args : Array Value} {below : List Frame} {meth : Method} {c : Code} {G : gT}
set_option maxHeartbeats 4000000 in
set_option maxRecDepth 100000 in
theorem wX6_fullness_b0 (C : CT p s m args meth c cX6_fullness 1 RX6 (some (.double)) G (pA G s.heap.size)) {i0 : Nat} {x : xS}  {r : UInt64} (hk0 : KD G i0 6) (hf : fX6_fullness_b0 i0 x  = some r) : WB p l e rX6_fullness s m args below meth c 1 G (pA G s.heap.size) (qD below G (r, x) args s 0 0) 0 0 0 [(0, .ref (G.2.2 i0))] [] x := by
  unfold fX6_fullness_b0 at hf
  refine b_aload_n C dX6_fullness_0 rfl 0 rfl ?_
  refine gfX6_10 C hk0 dX6_fullness_1 ?_
  obtain ⟨r4, c4, hf⟩ := oB hf
  refine b_callVd (K := 3) (As := []) (res := (r4, x)) C (metX3_shareLent l G _ _ _ ((kd6 C.cl hk0).1) c4) ((kd6 C.cl hk0).1) (by decide) rfl gkX6_191 ekX6_191 rfl ⟨rfl, rfl⟩ ⟨Nat.le_of_ble_eq_true rfl, Nat.le_of_ble_eq_true rfl⟩ (by simp [Value.category]) ⟨Nat.zero_le _, Nat.zero_le _⟩ rfl dX6_fullness_4 ?_
  exact b_dret C dX6_fullness_7 (congrArg (Option.map (fun q => (q, x))) hf)
end
theorem metX6_fullness (l : Launch) (G : gT) (i0 : Nat) (x : xS) (r : UInt64) (hk0 : KD G i0 6) (hf : fX6_fullness i0 x = some r) : cD l yX6_fullness cX6_fullness 1 rX6_fullness [.ref (G.2.2 i0)] G x (r, x) :=
  b_body (by decide) (Nat.le_of_ble_eq_true rfl) rfl (fun p e s m args below meth c C => wX6_fullness_b0 C hk0 hf)
-- X6_poorest
abbrev rX6_poorest : Room := { frames := 3, cells := 0, slots := 0, locals := 67 }
def fX6_poorest_b0 (i0 : Nat) (x : xS)  : Option Int32 :=
  Option.bind (fX3_poorestLodger (i0 + 1) x) (fun r4 =>
  some r4)
def fX6_poorest (i0 : Nat) (x : xS) : Option Int32 := fX6_poorest_b0 i0 x
section
variable {p : Program} {l : Launch} {e : Env} {R : Room} {s : State} {m : MethodId} {args : Array Value} {below : List Frame} {meth : Method} {c : Code} {G : gT}
set_option maxHeartbeats 4000000 in
set_option maxRecDepth 100000 in
theorem wX6_poorest_b0 (C : CT p s m args meth c cX6_poorest 1 RX6 (some (.int)) G (pA G s.heap.size)) {i0 : Nat} {x : xS}  {r : Int32} (hk0 : KD G i0 6) (hf : fX6_poorest_b0 i0 x  = some r) : WB p l e rX6_poorest s m args below meth c 1 G (pA G s.heap.size) (qI below G (r, x) args s 0 0) 0 0 0 [(0, .ref (G.2.2 i0))] [] x := by
  unfold fX6_poorest_b0 at hf
  refine b_aload_n C dX6_poorest_0 rfl 0 rfl ?_
  refine gfX6_10 C hk0 dX6_poorest_1 ?_
  obtain ⟨r4, c4, hf⟩ := oB hf
  refine b_callVi (K := 3) (As := []) (res := (r4, x)) C (metX3_poorestLodger l G _ _ _ ((kd6 C.cl hk0).1) c4) ((kd6 C.cl hk0).1) (by decide) rfl gkX6_188 ekX6_188 rfl ⟨rfl, rfl⟩ ⟨Nat.le_of_ble_eq_true rfl, Nat.le_of_ble_eq_true rfl⟩ (by simp [Value.category]) ⟨Nat.zero_le _, Nat.zero_le _⟩ rfl dX6_poorest_4 ?_
  exact b_ireti C dX6_poorest_7 (congrArg (Option.map (fun q => (q, x))) hf)
end
theorem metX6_poorest (l : Launch) (G : gT) (i0 : Nat) (x : xS) (r : Int32) (hk0 : KD G i0 6) (hf : fX6_poorest i0 x = some r) : cI l yX6_poorest cX6_poorest 1 (.int) rX6_poorest [.ref (G.2.2 i0)] G x (r, x) :=
  b_body (by decide) (Nat.le_of_ble_eq_true rfl) rfl (fun p e s m args below meth c C => wX6_poorest_b0 C hk0 hf)
-- X6_saveState
abbrev rX6_saveState : Room := { frames := 5, cells := 0, slots := 0, locals := 126 }
def fX6_saveState_b37 (i0 : Nat) (s1 : Int32) (x : xS) : Option xS :=
  lt1 (up1 x i0 6 s1) (fun x37 =>
  (if (6 : Int32) ≤ (x37.1 i0 5) then
  some x37
  else
  lt1 (up1 x37 i0 5 ((x37.1 i0 5) + 1)) (fun x56 =>
  some x56)))
def fX6_saveState_b0 (i0 : Nat) (x : xS) : Option xS :=
  Option.bind (fX5_store (i0 + 34) (x.1 i0 6) (i0 + 1) x) (fun r12 =>
  (if (6 : Int32) ≤ ((r12.1 i0 6) + 1) then
  fX6_saveState_b37 i0 0 r12
  else
  fX6_saveState_b37 i0 ((r12.1 i0 6) + 1) r12))
def fX6_saveState (i0 : Nat) (x : xS) : Option xS := fX6_saveState_b0 i0 x
section
variable {p : Program} {l : Launch} {e : Env} {R : Room} {s : State} {m : MethodId} {args : Array Value} {below : List Frame} {meth : Method} {c : Code} {G : gT}
set_option maxHeartbeats 4000000 in
set_option maxRecDepth 100000 in
theorem wX6_saveState_b37 (C : CT p s m args meth c cX6_saveState 1 RX6 none G (pA G s.heap.size)) {i0 : Nat} {s1 : Int32} {x : xS} {r : xS} (hk0 : KD G i0 6) (hf : fX6_saveState_b37 i0 s1 x = some r) : WB p l e rX6_saveState s m args below meth c 1 G (pA G s.heap.size) (qV below G r args s 0 0) 0 0 37 [(0, .ref (G.2.2 i0))] [.int s1, .ref (G.2.2 i0)] x := by
  unfold fX6_saveState_b37 at hf
  obtain ⟨x37, e37, hf⟩ := lN1 hf
  refine pfX6_143 C hk0 dX6_saveState_37 e37 ?_
  refine b_aload_n C dX6_saveState_40 rfl 0 rfl ?_
  refine gfX6_137 C hk0 dX6_saveState_41 ?_
  refine b_bipush (v := 6) C dX6_saveState_44 (by decide) ?_
  refine b_icmp_ge (tgt := 59) C dX6_saveState_46 (by decide) (fun c46 => ?_) (fun c46 => ?_)
  · have hf := iT c46 hf
    exact b_vret C dX6_saveState_59 hf
  · have hf := iF c46 hf
    refine b_aload_n C dX6_saveState_49 rfl 0 rfl ?_
    refine b_dup C dX6_saveState_50 rfl ?_
    refine gfX6_137 C hk0 dX6_saveState_51 ?_
    refine b_iconst (v := 1) C dX6_saveState_54 (by decide) ?_
    refine b_iadd C dX6_saveState_55 ?_
    obtain ⟨x56, e56, hf⟩ := lN1 hf
    refine pfX6_137 C hk0 dX6_saveState_56 e56 ?_
    exact b_vret C dX6_saveState_59 hf
set_option maxHeartbeats 4000000 in
set_option maxRecDepth 100000 in
theorem wX6_saveState_b0 (C : CT p s m args meth c cX6_saveState 1 RX6 none G (pA G s.heap.size)) {i0 : Nat} {x : xS} {r : xS} (hk0 : KD G i0 6) (hf : fX6_saveState_b0 i0 x = some r) : WB p l e rX6_saveState s m args below meth c 1 G (pA G s.heap.size) (qV below G r args s 0 0) 0 0 0 [(0, .ref (G.2.2 i0))] [] x := by
  unfold fX6_saveState_b0 at hf
  refine b_aload_n C dX6_saveState_0 rfl 0 rfl ?_
  refine gfX6_25 C hk0 dX6_saveState_1 ?_
  refine b_aload_n C dX6_saveState_4 rfl 0 rfl ?_
  refine gfX6_143 C hk0 dX6_saveState_5 ?_
  refine b_aload_n C dX6_saveState_8 rfl 0 rfl ?_
  refine gfX6_10 C hk0 dX6_saveState_9 ?_
  obtain ⟨r12, c12, hf⟩ := oB hf
  refine b_callVv (K := 5) (As := [.int (x.1 i0 6), .ref (G.2.2 (i0 + 1))]) (res := r12) C (metX5_store l G _ _ _ _ _ ((kd6 C.cl hk0).2.2.1) ((kd6 C.cl hk0).1) c12) ((kd6 C.cl hk0).2.2.1) (by decide) rfl gkX6_121 ekX6_121 rfl ⟨rfl, rfl⟩ ⟨Nat.le_of_ble_eq_true rfl, Nat.le_of_ble_eq_true rfl⟩ (by simp [Value.category]) ⟨Nat.zero_le _, Nat.zero_le _⟩ rfl dX6_saveState_12 ?_
  refine b_aload_n C dX6_saveState_15 rfl 0 rfl ?_
  refine b_aload_n C dX6_saveState_16 rfl 0 rfl ?_
  refine gfX6_143 C hk0 dX6_saveState_17 ?_
  refine b_iconst (v := 1) C dX6_saveState_20 (by decide) ?_
  refine b_iadd C dX6_saveState_21 ?_
  refine b_bipush (v := 6) C dX6_saveState_22 (by decide) ?_
  refine b_icmp_ge (tgt := 36) C dX6_saveState_24 (by decide) (fun c24 => ?_) (fun c24 => ?_)
  · have hf := iT c24 hf
    refine b_iconst (v := 0) C dX6_saveState_36 (by decide) ?_
    exact wX6_saveState_b37 C  hk0 hf
  · have hf := iF c24 hf
    refine b_aload_n C dX6_saveState_27 rfl 0 rfl ?_
    refine gfX6_143 C hk0 dX6_saveState_28 ?_
    refine b_iconst (v := 1) C dX6_saveState_31 (by decide) ?_
    refine b_iadd C dX6_saveState_32 ?_
    refine b_goto (tgt := 37) C dX6_saveState_33 (by decide) ?_
    exact wX6_saveState_b37 C  hk0 hf
end
theorem metX6_saveState (l : Launch) (G : gT) (i0 : Nat) (x : xS) (r : xS) (hk0 : KD G i0 6) (hf : fX6_saveState i0 x = some r) : cV l yX6_saveState cX6_saveState 1 rX6_saveState [.ref (G.2.2 i0)] G x r :=
  b_body (by decide) (Nat.le_of_ble_eq_true rfl) rfl (fun p e s m args below meth c C => wX6_saveState_b0 C hk0 hf)
