abbrev rL_append : Room := { frames := 7, cells := 1, slots := 6, locals := 103 }
def fL_append (i0 : Nat) (v1 : Int32) (i2 : Nat) (x : xS) : Option (Int32 × xS) :=
  Option.bind (fX6_append i0 v1 x) (fun r => match r with
  | Sum.inl j =>
    if j = 2 then some (1, x) else
    if j = 3 then some (2, x) else none
  | Sum.inr w => if (0 : Int32) < 0 ∨ ln i2 ≤ (0 : Int32).toNatClampNeg then none else some (0, up2 w.2 i2 (0 : Int32).toNatClampNeg w.1.toInt64))
set_option maxHeartbeats 4000000 in
set_option maxRecDepth 100000 in
theorem metL_append (l : Launch) (G : gT) (i0 : Nat) (v1 : Int32) (i2 : Nat) (x : xS) (r : Int32 × xS) (hk0 : KD G i0 6) (hk2 : KD G i2 11) (hf : fL_append i0 v1 i2 x = some r) (hl : l.stackTraces = false) : cW l yL_append cL_append 4 [(0, 9, 12, 15), (0, 9, 15, 32)] rL_append 1 [.ref (G.2.2 i0), .int v1, .ref (G.2.2 i2)] G x r := by
  refine b_bodyW (by decide) hl (Nat.le_of_ble_eq_true rfl) rfl (fun p e s m args below meth c C X => ?_)
  unfold fL_append at hf
  obtain ⟨r1, c1, hf⟩ := oB hf
  refine b_aload_n C dL_append_0 rfl 2 rfl ?_
  refine b_iconst (v := 0) C dL_append_1 (by decide) ?_
  refine b_aload_n C dL_append_2 rfl 0 rfl ?_
  refine b_iload_n C dL_append_3 rfl 1 rfl ?_
  refine b_xcVi (K := 6) (As := [.int v1]) (res := r1) (mc1 := 1) C X.2.2 (metX6_append l G _ _ _ _ hk0 c1 hl) hk0 (by decide) rfl gkL_37 ekL_37 rfl ⟨rfl, rfl⟩ ⟨Nat.le_of_ble_eq_true rfl, Nat.le_of_ble_eq_true rfl⟩ (by simp [Value.category]) ⟨Nat.le_of_ble_eq_true rfl, Nat.le_of_ble_eq_true rfl⟩ rfl dL_append_4 (fun j hj => ?_) (fun v u hu => ?_)
  · cases r1 with
    | inr w => cases hj
    | inl j1 =>
      have e1 : j1 = j := Sum.inl.inj hj
      subst e1
      by_cases q0 : j1 = 2
      · subst q0
        have hf := iT rfl hf
        refine b_catch0 C X (by decide) rfl (by decide) (by decide) w_571 (fun q => ?_)
        refine b_astore_n (lv' := [(3, .ref q), (0, .ref (G.2.2 i0)), (1, .int v1), (2, .ref (G.2.2 i2))]) C dL_append_12 rfl (by decide) rfl ?_
        refine b_iconst (v := 1) C dL_append_13 (by decide) ?_
        exact b_wiret C dL_append_14 hf ⟨Nat.le_of_ble_eq_true rfl, Nat.le_of_ble_eq_true rfl⟩
      have hf := iF q0 hf
      by_cases q1 : j1 = 3
      · subst q1
        have hf := iT rfl hf
        refine b_catch1 (j0 := 2) C X (by decide) rfl (by decide) (by decide) (by decide) w_572 w_571 X.2.2.2.2.n32 (fun q => ?_)
        refine b_astore_n (lv' := [(3, .ref q), (0, .ref (G.2.2 i0)), (1, .int v1), (2, .ref (G.2.2 i2))]) C dL_append_15 rfl (by decide) rfl ?_
        refine b_iconst (v := 2) C dL_append_16 (by decide) ?_
        exact b_wiret C dL_append_17 hf ⟨Nat.le_of_ble_eq_true rfl, Nat.le_of_ble_eq_true rfl⟩
      have hf := iF q1 hf
      cases hf
  · cases r1 with
    | inl j1 => cases hu
    | inr w =>
      cases hu
      refine b_i2l C dL_append_7 ?_
      obtain ⟨g1, hf⟩ := iN hf
      refine b_last C hk2 g1 dL_append_8 ?_
      refine b_goto (tgt := 18) C dL_append_9 (by decide) ?_
      refine b_iconst (v := 0) C dL_append_18 (by decide) ?_
      exact b_wiret C dL_append_19 hf ⟨Nat.le_of_ble_eq_true rfl, Nat.le_of_ble_eq_true rfl⟩
abbrev rL_ask : Room := { frames := 9, cells := 2, slots := 12, locals := 169 }
def fL_ask (i0 : Nat) (v1 : Int32) (v2 : Int32) (v3 : Int32) (i4 : Nat) (x : xS) : Option (Int32 × xS) :=
  Option.bind (fX6_ask i0 v1 v2 v3 x) (fun r => match r with
  | Sum.inl j =>
    if j = 1 then some (1, x) else
    if j = 2 then some (2, x) else none
  | Sum.inr w => if (0 : Int32) < 0 ∨ ln i4 ≤ (0 : Int32).toNatClampNeg then none else some (0, up2 w.2 i4 (0 : Int32).toNatClampNeg w.1.toInt64))
set_option maxHeartbeats 4000000 in
set_option maxRecDepth 100000 in
theorem metL_ask (l : Launch) (G : gT) (i0 : Nat) (v1 : Int32) (v2 : Int32) (v3 : Int32) (i4 : Nat) (x : xS) (r : Int32 × xS) (hk0 : KD G i0 6) (hk4 : KD G i4 11) (hf : fL_ask i0 v1 v2 v3 i4 x = some r) (hl : l.stackTraces = false) : cW l yL_ask cL_ask 6 [(0, 12, 15, 13), (0, 12, 19, 15)] rL_ask 2 [.ref (G.2.2 i0), .int v1, .int v2, .int v3, .ref (G.2.2 i4)] G x r := by
  refine b_bodyW (by decide) hl (Nat.le_of_ble_eq_true rfl) rfl (fun p e s m args below meth c C X => ?_)
  unfold fL_ask at hf
  obtain ⟨r1, c1, hf⟩ := oB hf
  refine b_aload C dL_ask_0 4 rfl ?_
  refine b_iconst (v := 0) C dL_ask_2 (by decide) ?_
  refine b_aload_n C dL_ask_3 rfl 0 rfl ?_
  refine b_iload_n C dL_ask_4 rfl 1 rfl ?_
  refine b_iload_n C dL_ask_5 rfl 2 rfl ?_
  refine b_iload_n C dL_ask_6 rfl 3 rfl ?_
  refine b_xcVi (K := 6) (As := [.int v1, .int v2, .int v3]) (res := r1) (mc1 := 2) C X.2.2 (metX6_ask l G _ _ _ _ _ _ hk0 c1 hl) hk0 (by decide) rfl gkL_7 ekL_7 rfl ⟨rfl, rfl⟩ ⟨Nat.le_of_ble_eq_true rfl, Nat.le_of_ble_eq_true rfl⟩ (by simp [Value.category]) ⟨Nat.le_of_ble_eq_true rfl, Nat.le_of_ble_eq_true rfl⟩ rfl dL_ask_7 (fun j hj => ?_) (fun v u hu => ?_)
  · cases r1 with
    | inr w => cases hj
    | inl j1 =>
      have e1 : j1 = j := Sum.inl.inj hj
      subst e1
      by_cases q0 : j1 = 1
      · subst q0
        have hf := iT rfl hf
        refine b_catch0 C X (by decide) rfl (by decide) (by decide) w_578 (fun q => ?_)
        refine b_astore (lv' := [(5, .ref q), (0, .ref (G.2.2 i0)), (1, .int v1), (2, .int v2), (3, .int v3), (4, .ref (G.2.2 i4))]) C dL_ask_15 (by decide) rfl ?_
        refine b_iconst (v := 1) C dL_ask_17 (by decide) ?_
        exact b_wiret C dL_ask_18 hf ⟨Nat.le_of_ble_eq_true rfl, Nat.le_of_ble_eq_true rfl⟩
      have hf := iF q0 hf
      by_cases q1 : j1 = 2
      · subst q1
        have hf := iT rfl hf
        refine b_catch1 (j0 := 1) C X (by decide) rfl (by decide) (by decide) (by decide) w_571 w_578 X.2.2.2.2.n21 (fun q => ?_)
        refine b_astore (lv' := [(5, .ref q), (0, .ref (G.2.2 i0)), (1, .int v1), (2, .int v2), (3, .int v3), (4, .ref (G.2.2 i4))]) C dL_ask_19 (by decide) rfl ?_
        refine b_iconst (v := 2) C dL_ask_21 (by decide) ?_
        exact b_wiret C dL_ask_22 hf ⟨Nat.le_of_ble_eq_true rfl, Nat.le_of_ble_eq_true rfl⟩
      have hf := iF q1 hf
      cases hf
  · cases r1 with
    | inl j1 => cases hu
    | inr w =>
      cases hu
      refine b_i2l C dL_ask_10 ?_
      obtain ⟨g1, hf⟩ := iN hf
      refine b_last C hk4 g1 dL_ask_11 ?_
      refine b_goto (tgt := 23) C dL_ask_12 (by decide) ?_
      refine b_iconst (v := 0) C dL_ask_23 (by decide) ?_
      exact b_wiret C dL_ask_24 hf ⟨Nat.le_of_ble_eq_true rfl, Nat.le_of_ble_eq_true rfl⟩
abbrev rL_at : Room := { frames := 9, cells := 2, slots := 12, locals := 146 }
def fL_at (i0 : Nat) (v1 : Int32) (v2 : Int32) (i3 : Nat) (x : xS) : Option (Int32 × xS) :=
  Option.bind (fX6_at i0 v1 v2 x) (fun r => match r with
  | Sum.inl j =>
    if j = 1 then some (1, x) else
    if j = 2 then some (2, x) else none
  | Sum.inr w => if (0 : Int32) < 0 ∨ ln i3 ≤ (0 : Int32).toNatClampNeg then none else some (0, up2 x i3 (0 : Int32).toNatClampNeg w.toInt64))
set_option maxHeartbeats 4000000 in
set_option maxRecDepth 100000 in
theorem metL_at (l : Launch) (G : gT) (i0 : Nat) (v1 : Int32) (v2 : Int32) (i3 : Nat) (x : xS) (r : Int32 × xS) (hk0 : KD G i0 6) (hk3 : KD G i3 11) (hf : fL_at i0 v1 v2 i3 x = some r) (hl : l.stackTraces = false) : cW l yL_at cL_at 5 [(0, 10, 13, 13), (0, 10, 17, 15)] rL_at 2 [.ref (G.2.2 i0), .int v1, .int v2, .ref (G.2.2 i3)] G x r := by
  refine b_bodyW (by decide) hl (Nat.le_of_ble_eq_true rfl) rfl (fun p e s m args below meth c C X => ?_)
  unfold fL_at at hf
  obtain ⟨r1, c1, hf⟩ := oB hf
  refine b_aload_n C dL_at_0 rfl 3 rfl ?_
  refine b_iconst (v := 0) C dL_at_1 (by decide) ?_
  refine b_aload_n C dL_at_2 rfl 0 rfl ?_
  refine b_iload_n C dL_at_3 rfl 1 rfl ?_
  refine b_iload_n C dL_at_4 rfl 2 rfl ?_
  refine b_xcVi (K := 6) (As := [.int v1, .int v2]) (res := (Sum.map id (fun v => (v, x)) r1)) (mc1 := 2) C X.2.2 (metX6_at l G _ _ _ _ _ hk0 c1 hl) hk0 (by decide) rfl gkL_52 ekL_52 rfl ⟨rfl, rfl⟩ ⟨Nat.le_of_ble_eq_true rfl, Nat.le_of_ble_eq_true rfl⟩ (by simp [Value.category]) ⟨Nat.le_of_ble_eq_true rfl, Nat.le_of_ble_eq_true rfl⟩ rfl dL_at_5 (fun j hj => ?_) (fun v u hu => ?_)
  · cases r1 with
    | inr w => cases hj
    | inl j1 =>
      have e1 : j1 = j := Sum.inl.inj hj
      subst e1
      by_cases q0 : j1 = 1
      · subst q0
        have hf := iT rfl hf
        refine b_catch0 C X (by decide) rfl (by decide) (by decide) w_578 (fun q => ?_)
        refine b_astore (lv' := [(4, .ref q), (0, .ref (G.2.2 i0)), (1, .int v1), (2, .int v2), (3, .ref (G.2.2 i3))]) C dL_at_13 (by decide) rfl ?_
        refine b_iconst (v := 1) C dL_at_15 (by decide) ?_
        exact b_wiret C dL_at_16 hf ⟨Nat.le_of_ble_eq_true rfl, Nat.le_of_ble_eq_true rfl⟩
      have hf := iF q0 hf
      by_cases q1 : j1 = 2
      · subst q1
        have hf := iT rfl hf
        refine b_catch1 (j0 := 1) C X (by decide) rfl (by decide) (by decide) (by decide) w_571 w_578 X.2.2.2.2.n21 (fun q => ?_)
        refine b_astore (lv' := [(4, .ref q), (0, .ref (G.2.2 i0)), (1, .int v1), (2, .int v2), (3, .ref (G.2.2 i3))]) C dL_at_17 (by decide) rfl ?_
        refine b_iconst (v := 2) C dL_at_19 (by decide) ?_
        exact b_wiret C dL_at_20 hf ⟨Nat.le_of_ble_eq_true rfl, Nat.le_of_ble_eq_true rfl⟩
      have hf := iF q1 hf
      cases hf
  · cases r1 with
    | inl j1 => cases hu
    | inr w =>
      cases hu
      refine b_i2l C dL_at_8 ?_
      obtain ⟨g1, hf⟩ := iN hf
      refine b_last C hk3 g1 dL_at_9 ?_
      refine b_goto (tgt := 21) C dL_at_10 (by decide) ?_
      refine b_iconst (v := 0) C dL_at_21 (by decide) ?_
      exact b_wiret C dL_at_22 hf ⟨Nat.le_of_ble_eq_true rfl, Nat.le_of_ble_eq_true rfl⟩
abbrev rL_count : Room := { frames := 8, cells := 1, slots := 6, locals := 130 }
def fL_count (i0 : Nat) (v1 : Int32) (i2 : Nat) (x : xS) : Option (Int32 × xS) :=
  Option.bind (fX6_count i0 v1 x) (fun r => match r with
  | Sum.inl j =>
    if j = 2 then some (1, x) else none
  | Sum.inr w => if (0 : Int32) < 0 ∨ ln i2 ≤ (0 : Int32).toNatClampNeg then none else some (0, up2 x i2 (0 : Int32).toNatClampNeg w.toInt64))
set_option maxHeartbeats 4000000 in
set_option maxRecDepth 100000 in
theorem metL_count (l : Launch) (G : gT) (i0 : Nat) (v1 : Int32) (i2 : Nat) (x : xS) (r : Int32 × xS) (hk0 : KD G i0 6) (hk2 : KD G i2 11) (hf : fL_count i0 v1 i2 x = some r) (hl : l.stackTraces = false) : cW l yL_count cL_count 4 [(0, 9, 12, 15)] rL_count 1 [.ref (G.2.2 i0), .int v1, .ref (G.2.2 i2)] G x r := by
  refine b_bodyW (by decide) hl (Nat.le_of_ble_eq_true rfl) rfl (fun p e s m args below meth c C X => ?_)
  unfold fL_count at hf
  obtain ⟨r1, c1, hf⟩ := oB hf
  refine b_aload_n C dL_count_0 rfl 2 rfl ?_
  refine b_iconst (v := 0) C dL_count_1 (by decide) ?_
  refine b_aload_n C dL_count_2 rfl 0 rfl ?_
  refine b_iload_n C dL_count_3 rfl 1 rfl ?_
  refine b_xcVi (K := 6) (As := [.int v1]) (res := (Sum.map id (fun v => (v, x)) r1)) (mc1 := 1) C X.2.2 (metX6_count l G _ _ _ _ hk0 c1 hl) hk0 (by decide) rfl gkL_58 ekL_58 rfl ⟨rfl, rfl⟩ ⟨Nat.le_of_ble_eq_true rfl, Nat.le_of_ble_eq_true rfl⟩ (by simp [Value.category]) ⟨Nat.le_of_ble_eq_true rfl, Nat.le_of_ble_eq_true rfl⟩ rfl dL_count_4 (fun j hj => ?_) (fun v u hu => ?_)
  · cases r1 with
    | inr w => cases hj
    | inl j1 =>
      have e1 : j1 = j := Sum.inl.inj hj
      subst e1
      by_cases q0 : j1 = 2
      · subst q0
        have hf := iT rfl hf
        refine b_catch0 C X (by decide) rfl (by decide) (by decide) w_571 (fun q => ?_)
        refine b_astore_n (lv' := [(3, .ref q), (0, .ref (G.2.2 i0)), (1, .int v1), (2, .ref (G.2.2 i2))]) C dL_count_12 rfl (by decide) rfl ?_
        refine b_iconst (v := 1) C dL_count_13 (by decide) ?_
        exact b_wiret C dL_count_14 hf ⟨Nat.le_of_ble_eq_true rfl, Nat.le_of_ble_eq_true rfl⟩
      have hf := iF q0 hf
      cases hf
  · cases r1 with
    | inl j1 => cases hu
    | inr w =>
      cases hu
      refine b_i2l C dL_count_7 ?_
      obtain ⟨g1, hf⟩ := iN hf
      refine b_last C hk2 g1 dL_count_8 ?_
      refine b_goto (tgt := 15) C dL_count_9 (by decide) ?_
      refine b_iconst (v := 0) C dL_count_15 (by decide) ?_
      exact b_wiret C dL_count_16 hf ⟨Nat.le_of_ble_eq_true rfl, Nat.le_of_ble_eq_true rfl⟩
abbrev rL_favour : Room := { frames := 8, cells := 1, slots := 6, locals := 167 }
def fL_favour (i0 : Nat) (v1 : Int32) (i2 : Nat) (x : xS) : Option (Int32 × xS) :=
  Option.bind (fX6_favour i0 v1 x) (fun r => match r with
  | Sum.inl j =>
    if j = 1 then some (1, x) else none
  | Sum.inr w => if (0 : Int32) < 0 ∨ ln i2 ≤ (0 : Int32).toNatClampNeg then none else some (0, up2 w.2 i2 (0 : Int32).toNatClampNeg w.1.toInt64))
set_option maxHeartbeats 4000000 in
set_option maxRecDepth 100000 in
theorem metL_favour (l : Launch) (G : gT) (i0 : Nat) (v1 : Int32) (i2 : Nat) (x : xS) (r : Int32 × xS) (hk0 : KD G i0 6) (hk2 : KD G i2 11) (hf : fL_favour i0 v1 i2 x = some r) (hl : l.stackTraces = false) : cW l yL_favour cL_favour 4 [(0, 9, 12, 13)] rL_favour 1 [.ref (G.2.2 i0), .int v1, .ref (G.2.2 i2)] G x r := by
  refine b_bodyW (by decide) hl (Nat.le_of_ble_eq_true rfl) rfl (fun p e s m args below meth c C X => ?_)
  unfold fL_favour at hf
  obtain ⟨r1, c1, hf⟩ := oB hf
  refine b_aload_n C dL_favour_0 rfl 2 rfl ?_
  refine b_iconst (v := 0) C dL_favour_1 (by decide) ?_
  refine b_aload_n C dL_favour_2 rfl 0 rfl ?_
  refine b_iload_n C dL_favour_3 rfl 1 rfl ?_
  refine b_xcVi (K := 6) (As := [.int v1]) (res := r1) (mc1 := 1) C X.2.2 (metX6_favour l G _ _ _ _ hk0 c1 hl) hk0 (by decide) rfl gkL_21 ekL_21 rfl ⟨rfl, rfl⟩ ⟨Nat.le_of_ble_eq_true rfl, Nat.le_of_ble_eq_true rfl⟩ (by simp [Value.category]) ⟨Nat.le_of_ble_eq_true rfl, Nat.le_of_ble_eq_true rfl⟩ rfl dL_favour_4 (fun j hj => ?_) (fun v u hu => ?_)
  · cases r1 with
    | inr w => cases hj
    | inl j1 =>
      have e1 : j1 = j := Sum.inl.inj hj
      subst e1
      by_cases q0 : j1 = 1
      · subst q0
        have hf := iT rfl hf
        refine b_catch0 C X (by decide) rfl (by decide) (by decide) w_578 (fun q => ?_)
        refine b_astore_n (lv' := [(3, .ref q), (0, .ref (G.2.2 i0)), (1, .int v1), (2, .ref (G.2.2 i2))]) C dL_favour_12 rfl (by decide) rfl ?_
        refine b_iconst (v := 1) C dL_favour_13 (by decide) ?_
        exact b_wiret C dL_favour_14 hf ⟨Nat.le_of_ble_eq_true rfl, Nat.le_of_ble_eq_true rfl⟩
      have hf := iF q0 hf
      cases hf
  · cases r1 with
    | inl j1 => cases hu
    | inr w =>
      cases hu
      refine b_i2l C dL_favour_7 ?_
      obtain ⟨g1, hf⟩ := iN hf
      refine b_last C hk2 g1 dL_favour_8 ?_
      refine b_goto (tgt := 15) C dL_favour_9 (by decide) ?_
      refine b_iconst (v := 0) C dL_favour_15 (by decide) ?_
      exact b_wiret C dL_favour_16 hf ⟨Nat.le_of_ble_eq_true rfl, Nat.le_of_ble_eq_true rfl⟩
abbrev rL_fewestBeds : Room := { frames := 8, cells := 1, slots := 6, locals := 125 }
def fL_fewestBeds (i0 : Nat) (v1 : Int32) (i2 : Nat) (x : xS) : Option (Int32 × xS) :=
  Option.bind (fX6_fewestBeds i0 v1 x) (fun r => match r with
  | Sum.inl j =>
    if j = 2 then some (1, x) else none
  | Sum.inr w => if (0 : Int32) < 0 ∨ ln i2 ≤ (0 : Int32).toNatClampNeg then none else some (0, up2 w.2 i2 (0 : Int32).toNatClampNeg w.1.toInt64))
set_option maxHeartbeats 4000000 in
set_option maxRecDepth 100000 in
theorem metL_fewestBeds (l : Launch) (G : gT) (i0 : Nat) (v1 : Int32) (i2 : Nat) (x : xS) (r : Int32 × xS) (hk0 : KD G i0 6) (hk2 : KD G i2 11) (hf : fL_fewestBeds i0 v1 i2 x = some r) (hl : l.stackTraces = false) : cW l yL_fewestBeds cL_fewestBeds 4 [(0, 9, 12, 15)] rL_fewestBeds 1 [.ref (G.2.2 i0), .int v1, .ref (G.2.2 i2)] G x r := by
  refine b_bodyW (by decide) hl (Nat.le_of_ble_eq_true rfl) rfl (fun p e s m args below meth c C X => ?_)
  unfold fL_fewestBeds at hf
  obtain ⟨r1, c1, hf⟩ := oB hf
  refine b_aload_n C dL_fewestBeds_0 rfl 2 rfl ?_
  refine b_iconst (v := 0) C dL_fewestBeds_1 (by decide) ?_
  refine b_aload_n C dL_fewestBeds_2 rfl 0 rfl ?_
  refine b_iload_n C dL_fewestBeds_3 rfl 1 rfl ?_
  refine b_xcVi (K := 6) (As := [.int v1]) (res := r1) (mc1 := 1) C X.2.2 (metX6_fewestBeds l G _ _ _ _ hk0 c1 hl) hk0 (by decide) rfl gkL_70 ekL_70 rfl ⟨rfl, rfl⟩ ⟨Nat.le_of_ble_eq_true rfl, Nat.le_of_ble_eq_true rfl⟩ (by simp [Value.category]) ⟨Nat.le_of_ble_eq_true rfl, Nat.le_of_ble_eq_true rfl⟩ rfl dL_fewestBeds_4 (fun j hj => ?_) (fun v u hu => ?_)
  · cases r1 with
    | inr w => cases hj
    | inl j1 =>
      have e1 : j1 = j := Sum.inl.inj hj
      subst e1
      by_cases q0 : j1 = 2
      · subst q0
        have hf := iT rfl hf
        refine b_catch0 C X (by decide) rfl (by decide) (by decide) w_571 (fun q => ?_)
        refine b_astore_n (lv' := [(3, .ref q), (0, .ref (G.2.2 i0)), (1, .int v1), (2, .ref (G.2.2 i2))]) C dL_fewestBeds_12 rfl (by decide) rfl ?_
        refine b_iconst (v := 1) C dL_fewestBeds_13 (by decide) ?_
        exact b_wiret C dL_fewestBeds_14 hf ⟨Nat.le_of_ble_eq_true rfl, Nat.le_of_ble_eq_true rfl⟩
      have hf := iF q0 hf
      cases hf
  · cases r1 with
    | inl j1 => cases hu
    | inr w =>
      cases hu
      refine b_i2l C dL_fewestBeds_7 ?_
      obtain ⟨g1, hf⟩ := iN hf
      refine b_last C hk2 g1 dL_fewestBeds_8 ?_
      refine b_goto (tgt := 15) C dL_fewestBeds_9 (by decide) ?_
      refine b_iconst (v := 0) C dL_fewestBeds_15 (by decide) ?_
      exact b_wiret C dL_fewestBeds_16 hf ⟨Nat.le_of_ble_eq_true rfl, Nat.le_of_ble_eq_true rfl⟩
abbrev rL_giveBack : Room := { frames := 9, cells := 2, slots := 12, locals := 168 }
def fL_giveBack (i0 : Nat) (v1 : Int32) (v2 : Int32) (i3 : Nat) (x : xS) : Option (Int32 × xS) :=
  Option.bind (fX6_giveBack i0 v1 v2 x) (fun r => match r with
  | Sum.inl j =>
    if j = 1 then some (1, x) else
    if j = 2 then some (2, x) else none
  | Sum.inr w => if (0 : Int32) < 0 ∨ ln i3 ≤ (0 : Int32).toNatClampNeg then none else some (0, up2 w.2 i3 (0 : Int32).toNatClampNeg w.1.toInt64))
set_option maxHeartbeats 4000000 in
set_option maxRecDepth 100000 in
theorem metL_giveBack (l : Launch) (G : gT) (i0 : Nat) (v1 : Int32) (v2 : Int32) (i3 : Nat) (x : xS) (r : Int32 × xS) (hk0 : KD G i0 6) (hk3 : KD G i3 11) (hf : fL_giveBack i0 v1 v2 i3 x = some r) (hl : l.stackTraces = false) : cW l yL_giveBack cL_giveBack 5 [(0, 10, 13, 13), (0, 10, 17, 15)] rL_giveBack 2 [.ref (G.2.2 i0), .int v1, .int v2, .ref (G.2.2 i3)] G x r := by
  refine b_bodyW (by decide) hl (Nat.le_of_ble_eq_true rfl) rfl (fun p e s m args below meth c C X => ?_)
  unfold fL_giveBack at hf
  obtain ⟨r1, c1, hf⟩ := oB hf
  refine b_aload_n C dL_giveBack_0 rfl 3 rfl ?_
  refine b_iconst (v := 0) C dL_giveBack_1 (by decide) ?_
  refine b_aload_n C dL_giveBack_2 rfl 0 rfl ?_
  refine b_iload_n C dL_giveBack_3 rfl 1 rfl ?_
  refine b_iload_n C dL_giveBack_4 rfl 2 rfl ?_
  refine b_xcVi (K := 6) (As := [.int v1, .int v2]) (res := r1) (mc1 := 2) C X.2.2 (metX6_giveBack l G _ _ _ _ _ hk0 c1 hl) hk0 (by decide) rfl gkL_17 ekL_17 rfl ⟨rfl, rfl⟩ ⟨Nat.le_of_ble_eq_true rfl, Nat.le_of_ble_eq_true rfl⟩ (by simp [Value.category]) ⟨Nat.le_of_ble_eq_true rfl, Nat.le_of_ble_eq_true rfl⟩ rfl dL_giveBack_5 (fun j hj => ?_) (fun v u hu => ?_)
  · cases r1 with
    | inr w => cases hj
    | inl j1 =>
      have e1 : j1 = j := Sum.inl.inj hj
      subst e1
      by_cases q0 : j1 = 1
      · subst q0
        have hf := iT rfl hf
        refine b_catch0 C X (by decide) rfl (by decide) (by decide) w_578 (fun q => ?_)
        refine b_astore (lv' := [(4, .ref q), (0, .ref (G.2.2 i0)), (1, .int v1), (2, .int v2), (3, .ref (G.2.2 i3))]) C dL_giveBack_13 (by decide) rfl ?_
        refine b_iconst (v := 1) C dL_giveBack_15 (by decide) ?_
        exact b_wiret C dL_giveBack_16 hf ⟨Nat.le_of_ble_eq_true rfl, Nat.le_of_ble_eq_true rfl⟩
      have hf := iF q0 hf
      by_cases q1 : j1 = 2
      · subst q1
        have hf := iT rfl hf
        refine b_catch1 (j0 := 1) C X (by decide) rfl (by decide) (by decide) (by decide) w_571 w_578 X.2.2.2.2.n21 (fun q => ?_)
        refine b_astore (lv' := [(4, .ref q), (0, .ref (G.2.2 i0)), (1, .int v1), (2, .int v2), (3, .ref (G.2.2 i3))]) C dL_giveBack_17 (by decide) rfl ?_
        refine b_iconst (v := 2) C dL_giveBack_19 (by decide) ?_
        exact b_wiret C dL_giveBack_20 hf ⟨Nat.le_of_ble_eq_true rfl, Nat.le_of_ble_eq_true rfl⟩
      have hf := iF q1 hf
      cases hf
  · cases r1 with
    | inl j1 => cases hu
    | inr w =>
      cases hu
      refine b_i2l C dL_giveBack_8 ?_
      obtain ⟨g1, hf⟩ := iN hf
      refine b_last C hk3 g1 dL_giveBack_9 ?_
      refine b_goto (tgt := 21) C dL_giveBack_10 (by decide) ?_
      refine b_iconst (v := 0) C dL_giveBack_21 (by decide) ?_
      exact b_wiret C dL_giveBack_22 hf ⟨Nat.le_of_ble_eq_true rfl, Nat.le_of_ble_eq_true rfl⟩
abbrev rL_goBack : Room := { frames := 9, cells := 2, slots := 12, locals := 167 }
def fL_goBack (i0 : Nat) (v1 : Int32) (i2 : Nat) (x : xS) : Option (Int32 × xS) :=
  Option.bind (fX6_goBack i0 v1 x) (fun r => match r with
  | Sum.inl j =>
    if j = 2 then some (1, x) else
    if j = 3 then some (2, x) else none
  | Sum.inr w => if (0 : Int32) < 0 ∨ ln i2 ≤ (0 : Int32).toNatClampNeg then none else some (0, up2 w.2 i2 (0 : Int32).toNatClampNeg w.1.toInt64))
set_option maxHeartbeats 4000000 in
set_option maxRecDepth 100000 in
theorem metL_goBack (l : Launch) (G : gT) (i0 : Nat) (v1 : Int32) (i2 : Nat) (x : xS) (r : Int32 × xS) (hk0 : KD G i0 6) (hk2 : KD G i2 11) (hf : fL_goBack i0 v1 i2 x = some r) (hl : l.stackTraces = false) : cW l yL_goBack cL_goBack 4 [(0, 9, 12, 15), (0, 9, 15, 32)] rL_goBack 2 [.ref (G.2.2 i0), .int v1, .ref (G.2.2 i2)] G x r := by
  refine b_bodyW (by decide) hl (Nat.le_of_ble_eq_true rfl) rfl (fun p e s m args below meth c C X => ?_)
  unfold fL_goBack at hf
  obtain ⟨r1, c1, hf⟩ := oB hf
  refine b_aload_n C dL_goBack_0 rfl 2 rfl ?_
  refine b_iconst (v := 0) C dL_goBack_1 (by decide) ?_
  refine b_aload_n C dL_goBack_2 rfl 0 rfl ?_
  refine b_iload_n C dL_goBack_3 rfl 1 rfl ?_
  refine b_xcVi (K := 6) (As := [.int v1]) (res := r1) (mc1 := 2) C X.2.2 (metX6_goBack l G _ _ _ _ hk0 c1 hl) hk0 (by decide) rfl gkL_46 ekL_46 rfl ⟨rfl, rfl⟩ ⟨Nat.le_of_ble_eq_true rfl, Nat.le_of_ble_eq_true rfl⟩ (by simp [Value.category]) ⟨Nat.le_of_ble_eq_true rfl, Nat.le_of_ble_eq_true rfl⟩ rfl dL_goBack_4 (fun j hj => ?_) (fun v u hu => ?_)
  · cases r1 with
    | inr w => cases hj
    | inl j1 =>
      have e1 : j1 = j := Sum.inl.inj hj
      subst e1
      by_cases q0 : j1 = 2
      · subst q0
        have hf := iT rfl hf
        refine b_catch0 C X (by decide) rfl (by decide) (by decide) w_571 (fun q => ?_)
        refine b_astore_n (lv' := [(3, .ref q), (0, .ref (G.2.2 i0)), (1, .int v1), (2, .ref (G.2.2 i2))]) C dL_goBack_12 rfl (by decide) rfl ?_
        refine b_iconst (v := 1) C dL_goBack_13 (by decide) ?_
        exact b_wiret C dL_goBack_14 hf ⟨Nat.le_of_ble_eq_true rfl, Nat.le_of_ble_eq_true rfl⟩
      have hf := iF q0 hf
      by_cases q1 : j1 = 3
      · subst q1
        have hf := iT rfl hf
        refine b_catch1 (j0 := 2) C X (by decide) rfl (by decide) (by decide) (by decide) w_572 w_571 X.2.2.2.2.n32 (fun q => ?_)
        refine b_astore_n (lv' := [(3, .ref q), (0, .ref (G.2.2 i0)), (1, .int v1), (2, .ref (G.2.2 i2))]) C dL_goBack_15 rfl (by decide) rfl ?_
        refine b_iconst (v := 2) C dL_goBack_16 (by decide) ?_
        exact b_wiret C dL_goBack_17 hf ⟨Nat.le_of_ble_eq_true rfl, Nat.le_of_ble_eq_true rfl⟩
      have hf := iF q1 hf
      cases hf
  · cases r1 with
    | inl j1 => cases hu
    | inr w =>
      cases hu
      refine b_i2l C dL_goBack_7 ?_
      obtain ⟨g1, hf⟩ := iN hf
      refine b_last C hk2 g1 dL_goBack_8 ?_
      refine b_goto (tgt := 18) C dL_goBack_9 (by decide) ?_
      refine b_iconst (v := 0) C dL_goBack_18 (by decide) ?_
      exact b_wiret C dL_goBack_19 hf ⟨Nat.le_of_ble_eq_true rfl, Nat.le_of_ble_eq_true rfl⟩
abbrev rL_ifAsked : Room := { frames := 9, cells := 2, slots := 12, locals := 147 }
def fL_ifAsked (i0 : Nat) (v1 : Int32) (v2 : Int32) (v3 : Int32) (i4 : Nat) (x : xS) : Option (Int32 × xS) :=
  Option.bind (fX6_ifAsked i0 v1 v2 v3 x) (fun r => match r with
  | Sum.inl j =>
    if j = 1 then some (1, x) else
    if j = 2 then some (2, x) else none
  | Sum.inr w => if (0 : Int32) < 0 ∨ ln i4 ≤ (0 : Int32).toNatClampNeg then none else some (0, up2 x i4 (0 : Int32).toNatClampNeg w.toInt64))
set_option maxHeartbeats 4000000 in
set_option maxRecDepth 100000 in
theorem metL_ifAsked (l : Launch) (G : gT) (i0 : Nat) (v1 : Int32) (v2 : Int32) (v3 : Int32) (i4 : Nat) (x : xS) (r : Int32 × xS) (hk0 : KD G i0 6) (hk4 : KD G i4 11) (hf : fL_ifAsked i0 v1 v2 v3 i4 x = some r) (hl : l.stackTraces = false) : cW l yL_ifAsked cL_ifAsked 6 [(0, 12, 15, 13), (0, 12, 19, 15)] rL_ifAsked 2 [.ref (G.2.2 i0), .int v1, .int v2, .int v3, .ref (G.2.2 i4)] G x r := by
  refine b_bodyW (by decide) hl (Nat.le_of_ble_eq_true rfl) rfl (fun p e s m args below meth c C X => ?_)
  unfold fL_ifAsked at hf
  obtain ⟨r1, c1, hf⟩ := oB hf
  refine b_aload C dL_ifAsked_0 4 rfl ?_
  refine b_iconst (v := 0) C dL_ifAsked_2 (by decide) ?_
  refine b_aload_n C dL_ifAsked_3 rfl 0 rfl ?_
  refine b_iload_n C dL_ifAsked_4 rfl 1 rfl ?_
  refine b_iload_n C dL_ifAsked_5 rfl 2 rfl ?_
  refine b_iload_n C dL_ifAsked_6 rfl 3 rfl ?_
  refine b_xcVi (K := 6) (As := [.int v1, .int v2, .int v3]) (res := (Sum.map id (fun v => (v, x)) r1)) (mc1 := 2) C X.2.2 (metX6_ifAsked l G _ _ _ _ _ _ hk0 c1 hl) hk0 (by decide) rfl gkL_64 ekL_64 rfl ⟨rfl, rfl⟩ ⟨Nat.le_of_ble_eq_true rfl, Nat.le_of_ble_eq_true rfl⟩ (by simp [Value.category]) ⟨Nat.le_of_ble_eq_true rfl, Nat.le_of_ble_eq_true rfl⟩ rfl dL_ifAsked_7 (fun j hj => ?_) (fun v u hu => ?_)
  · cases r1 with
    | inr w => cases hj
    | inl j1 =>
      have e1 : j1 = j := Sum.inl.inj hj
      subst e1
      by_cases q0 : j1 = 1
      · subst q0
        have hf := iT rfl hf
        refine b_catch0 C X (by decide) rfl (by decide) (by decide) w_578 (fun q => ?_)
        refine b_astore (lv' := [(5, .ref q), (0, .ref (G.2.2 i0)), (1, .int v1), (2, .int v2), (3, .int v3), (4, .ref (G.2.2 i4))]) C dL_ifAsked_15 (by decide) rfl ?_
        refine b_iconst (v := 1) C dL_ifAsked_17 (by decide) ?_
        exact b_wiret C dL_ifAsked_18 hf ⟨Nat.le_of_ble_eq_true rfl, Nat.le_of_ble_eq_true rfl⟩
      have hf := iF q0 hf
      by_cases q1 : j1 = 2
      · subst q1
        have hf := iT rfl hf
        refine b_catch1 (j0 := 1) C X (by decide) rfl (by decide) (by decide) (by decide) w_571 w_578 X.2.2.2.2.n21 (fun q => ?_)
        refine b_astore (lv' := [(5, .ref q), (0, .ref (G.2.2 i0)), (1, .int v1), (2, .int v2), (3, .int v3), (4, .ref (G.2.2 i4))]) C dL_ifAsked_19 (by decide) rfl ?_
        refine b_iconst (v := 2) C dL_ifAsked_21 (by decide) ?_
        exact b_wiret C dL_ifAsked_22 hf ⟨Nat.le_of_ble_eq_true rfl, Nat.le_of_ble_eq_true rfl⟩
      have hf := iF q1 hf
      cases hf
  · cases r1 with
    | inl j1 => cases hu
    | inr w =>
      cases hu
      refine b_i2l C dL_ifAsked_10 ?_
      obtain ⟨g1, hf⟩ := iN hf
      refine b_last C hk4 g1 dL_ifAsked_11 ?_
      refine b_goto (tgt := 23) C dL_ifAsked_12 (by decide) ?_
      refine b_iconst (v := 0) C dL_ifAsked_23 (by decide) ?_
      exact b_wiret C dL_ifAsked_24 hf ⟨Nat.le_of_ble_eq_true rfl, Nat.le_of_ble_eq_true rfl⟩
abbrev rL_ifPutOut : Room := { frames := 9, cells := 2, slots := 12, locals := 147 }
def fL_ifPutOut (i0 : Nat) (v1 : Int32) (v2 : Int32) (v3 : Int32) (i4 : Nat) (x : xS) : Option (Int32 × xS) :=
  Option.bind (fX6_ifPutOut i0 v1 v2 v3 x) (fun r => match r with
  | Sum.inl j =>
    if j = 1 then some (1, x) else
    if j = 2 then some (2, x) else none
  | Sum.inr w => if (0 : Int32) < 0 ∨ ln i4 ≤ (0 : Int32).toNatClampNeg then none else some (0, up2 x i4 (0 : Int32).toNatClampNeg w.toInt64))
set_option maxHeartbeats 4000000 in
set_option maxRecDepth 100000 in
theorem metL_ifPutOut (l : Launch) (G : gT) (i0 : Nat) (v1 : Int32) (v2 : Int32) (v3 : Int32) (i4 : Nat) (x : xS) (r : Int32 × xS) (hk0 : KD G i0 6) (hk4 : KD G i4 11) (hf : fL_ifPutOut i0 v1 v2 v3 i4 x = some r) (hl : l.stackTraces = false) : cW l yL_ifPutOut cL_ifPutOut 6 [(0, 12, 15, 13), (0, 12, 19, 15)] rL_ifPutOut 2 [.ref (G.2.2 i0), .int v1, .int v2, .int v3, .ref (G.2.2 i4)] G x r := by
  refine b_bodyW (by decide) hl (Nat.le_of_ble_eq_true rfl) rfl (fun p e s m args below meth c C X => ?_)
  unfold fL_ifPutOut at hf
  obtain ⟨r1, c1, hf⟩ := oB hf
  refine b_aload C dL_ifPutOut_0 4 rfl ?_
  refine b_iconst (v := 0) C dL_ifPutOut_2 (by decide) ?_
  refine b_aload_n C dL_ifPutOut_3 rfl 0 rfl ?_
  refine b_iload_n C dL_ifPutOut_4 rfl 1 rfl ?_
  refine b_iload_n C dL_ifPutOut_5 rfl 2 rfl ?_
  refine b_iload_n C dL_ifPutOut_6 rfl 3 rfl ?_
  refine b_xcVi (K := 6) (As := [.int v1, .int v2, .int v3]) (res := (Sum.map id (fun v => (v, x)) r1)) (mc1 := 2) C X.2.2 (metX6_ifPutOut l G _ _ _ _ _ _ hk0 c1 hl) hk0 (by decide) rfl gkL_67 ekL_67 rfl ⟨rfl, rfl⟩ ⟨Nat.le_of_ble_eq_true rfl, Nat.le_of_ble_eq_true rfl⟩ (by simp [Value.category]) ⟨Nat.le_of_ble_eq_true rfl, Nat.le_of_ble_eq_true rfl⟩ rfl dL_ifPutOut_7 (fun j hj => ?_) (fun v u hu => ?_)
  · cases r1 with
    | inr w => cases hj
    | inl j1 =>
      have e1 : j1 = j := Sum.inl.inj hj
      subst e1
      by_cases q0 : j1 = 1
      · subst q0
        have hf := iT rfl hf
        refine b_catch0 C X (by decide) rfl (by decide) (by decide) w_578 (fun q => ?_)
        refine b_astore (lv' := [(5, .ref q), (0, .ref (G.2.2 i0)), (1, .int v1), (2, .int v2), (3, .int v3), (4, .ref (G.2.2 i4))]) C dL_ifPutOut_15 (by decide) rfl ?_
        refine b_iconst (v := 1) C dL_ifPutOut_17 (by decide) ?_
        exact b_wiret C dL_ifPutOut_18 hf ⟨Nat.le_of_ble_eq_true rfl, Nat.le_of_ble_eq_true rfl⟩
      have hf := iF q0 hf
      by_cases q1 : j1 = 2
      · subst q1
        have hf := iT rfl hf
        refine b_catch1 (j0 := 1) C X (by decide) rfl (by decide) (by decide) (by decide) w_571 w_578 X.2.2.2.2.n21 (fun q => ?_)
        refine b_astore (lv' := [(5, .ref q), (0, .ref (G.2.2 i0)), (1, .int v1), (2, .int v2), (3, .int v3), (4, .ref (G.2.2 i4))]) C dL_ifPutOut_19 (by decide) rfl ?_
        refine b_iconst (v := 2) C dL_ifPutOut_21 (by decide) ?_
        exact b_wiret C dL_ifPutOut_22 hf ⟨Nat.le_of_ble_eq_true rfl, Nat.le_of_ble_eq_true rfl⟩
      have hf := iF q1 hf
      cases hf
  · cases r1 with
    | inl j1 => cases hu
    | inr w =>
      cases hu
      refine b_i2l C dL_ifPutOut_10 ?_
      obtain ⟨g1, hf⟩ := iN hf
      refine b_last C hk4 g1 dL_ifPutOut_11 ?_
      refine b_goto (tgt := 23) C dL_ifPutOut_12 (by decide) ?_
      refine b_iconst (v := 0) C dL_ifPutOut_23 (by decide) ?_
      exact b_wiret C dL_ifPutOut_24 hf ⟨Nat.le_of_ble_eq_true rfl, Nat.le_of_ble_eq_true rfl⟩
abbrev rL_keep : Room := { frames := 9, cells := 1, slots := 6, locals := 147 }
def fL_keep (i0 : Nat) (v1 : Int32) (i2 : Nat) (x : xS) : Option (Int32 × xS) :=
  Option.bind (fX6_keep i0 v1 x) (fun r => match r with
  | Sum.inl j =>
    if j = 2 then some (1, x) else none
  | Sum.inr w => if (0 : Int32) < 0 ∨ ln i2 ≤ (0 : Int32).toNatClampNeg then none else some (0, up2 w.2 i2 (0 : Int32).toNatClampNeg w.1.toInt64))
set_option maxHeartbeats 4000000 in
set_option maxRecDepth 100000 in
theorem metL_keep (l : Launch) (G : gT) (i0 : Nat) (v1 : Int32) (i2 : Nat) (x : xS) (r : Int32 × xS) (hk0 : KD G i0 6) (hk2 : KD G i2 11) (hf : fL_keep i0 v1 i2 x = some r) (hl : l.stackTraces = false) : cW l yL_keep cL_keep 4 [(0, 9, 12, 15)] rL_keep 1 [.ref (G.2.2 i0), .int v1, .ref (G.2.2 i2)] G x r := by
  refine b_bodyW (by decide) hl (Nat.le_of_ble_eq_true rfl) rfl (fun p e s m args below meth c C X => ?_)
  unfold fL_keep at hf
  obtain ⟨r1, c1, hf⟩ := oB hf
  refine b_aload_n C dL_keep_0 rfl 2 rfl ?_
  refine b_iconst (v := 0) C dL_keep_1 (by decide) ?_
  refine b_aload_n C dL_keep_2 rfl 0 rfl ?_
  refine b_iload_n C dL_keep_3 rfl 1 rfl ?_
  refine b_xcVi (K := 6) (As := [.int v1]) (res := r1) (mc1 := 1) C X.2.2 (metX6_keep l G _ _ _ _ hk0 c1 hl) hk0 (by decide) rfl gkL_43 ekL_43 rfl ⟨rfl, rfl⟩ ⟨Nat.le_of_ble_eq_true rfl, Nat.le_of_ble_eq_true rfl⟩ (by simp [Value.category]) ⟨Nat.le_of_ble_eq_true rfl, Nat.le_of_ble_eq_true rfl⟩ rfl dL_keep_4 (fun j hj => ?_) (fun v u hu => ?_)
  · cases r1 with
    | inr w => cases hj
    | inl j1 =>
      have e1 : j1 = j := Sum.inl.inj hj
      subst e1
      by_cases q0 : j1 = 2
      · subst q0
        have hf := iT rfl hf
        refine b_catch0 C X (by decide) rfl (by decide) (by decide) w_571 (fun q => ?_)
        refine b_astore_n (lv' := [(3, .ref q), (0, .ref (G.2.2 i0)), (1, .int v1), (2, .ref (G.2.2 i2))]) C dL_keep_12 rfl (by decide) rfl ?_
        refine b_iconst (v := 1) C dL_keep_13 (by decide) ?_
        exact b_wiret C dL_keep_14 hf ⟨Nat.le_of_ble_eq_true rfl, Nat.le_of_ble_eq_true rfl⟩
      have hf := iF q0 hf
      cases hf
  · cases r1 with
    | inl j1 => cases hu
    | inr w =>
      cases hu
      refine b_i2l C dL_keep_7 ?_
      obtain ⟨g1, hf⟩ := iN hf
      refine b_last C hk2 g1 dL_keep_8 ?_
      refine b_goto (tgt := 15) C dL_keep_9 (by decide) ?_
      refine b_iconst (v := 0) C dL_keep_15 (by decide) ?_
      exact b_wiret C dL_keep_16 hf ⟨Nat.le_of_ble_eq_true rfl, Nat.le_of_ble_eq_true rfl⟩
abbrev rL_lodgerOf : Room := { frames := 8, cells := 2, slots := 12, locals := 126 }
def fL_lodgerOf (i0 : Nat) (v1 : Int32) (v2 : Int32) (i3 : Nat) (x : xS) : Option (Int32 × xS) :=
  Option.bind (fX6_lodgerOf i0 v1 v2 x) (fun r => match r with
  | Sum.inl j =>
    if j = 1 then some (1, x) else
    if j = 2 then some (2, x) else none
  | Sum.inr w => if (0 : Int32) < 0 ∨ ln i3 ≤ (0 : Int32).toNatClampNeg then none else some (0, up2 x i3 (0 : Int32).toNatClampNeg w.toInt64))
set_option maxHeartbeats 4000000 in
set_option maxRecDepth 100000 in
theorem metL_lodgerOf (l : Launch) (G : gT) (i0 : Nat) (v1 : Int32) (v2 : Int32) (i3 : Nat) (x : xS) (r : Int32 × xS) (hk0 : KD G i0 6) (hk3 : KD G i3 11) (hf : fL_lodgerOf i0 v1 v2 i3 x = some r) (hl : l.stackTraces = false) : cW l yL_lodgerOf cL_lodgerOf 5 [(0, 10, 13, 13), (0, 10, 17, 15)] rL_lodgerOf 2 [.ref (G.2.2 i0), .int v1, .int v2, .ref (G.2.2 i3)] G x r := by
  refine b_bodyW (by decide) hl (Nat.le_of_ble_eq_true rfl) rfl (fun p e s m args below meth c C X => ?_)
  unfold fL_lodgerOf at hf
  obtain ⟨r1, c1, hf⟩ := oB hf
  refine b_aload_n C dL_lodgerOf_0 rfl 3 rfl ?_
  refine b_iconst (v := 0) C dL_lodgerOf_1 (by decide) ?_
  refine b_aload_n C dL_lodgerOf_2 rfl 0 rfl ?_
  refine b_iload_n C dL_lodgerOf_3 rfl 1 rfl ?_
  refine b_iload_n C dL_lodgerOf_4 rfl 2 rfl ?_
  refine b_xcVi (K := 6) (As := [.int v1, .int v2]) (res := (Sum.map id (fun v => (v, x)) r1)) (mc1 := 2) C X.2.2 (metX6_lodgerOf l G _ _ _ _ _ hk0 c1 hl) hk0 (by decide) rfl gkL_55 ekL_55 rfl ⟨rfl, rfl⟩ ⟨Nat.le_of_ble_eq_true rfl, Nat.le_of_ble_eq_true rfl⟩ (by simp [Value.category]) ⟨Nat.le_of_ble_eq_true rfl, Nat.le_of_ble_eq_true rfl⟩ rfl dL_lodgerOf_5 (fun j hj => ?_) (fun v u hu => ?_)
  · cases r1 with
    | inr w => cases hj
    | inl j1 =>
      have e1 : j1 = j := Sum.inl.inj hj
      subst e1
      by_cases q0 : j1 = 1
      · subst q0
        have hf := iT rfl hf
        refine b_catch0 C X (by decide) rfl (by decide) (by decide) w_578 (fun q => ?_)
        refine b_astore (lv' := [(4, .ref q), (0, .ref (G.2.2 i0)), (1, .int v1), (2, .int v2), (3, .ref (G.2.2 i3))]) C dL_lodgerOf_13 (by decide) rfl ?_
        refine b_iconst (v := 1) C dL_lodgerOf_15 (by decide) ?_
        exact b_wiret C dL_lodgerOf_16 hf ⟨Nat.le_of_ble_eq_true rfl, Nat.le_of_ble_eq_true rfl⟩
      have hf := iF q0 hf
      by_cases q1 : j1 = 2
      · subst q1
        have hf := iT rfl hf
        refine b_catch1 (j0 := 1) C X (by decide) rfl (by decide) (by decide) (by decide) w_571 w_578 X.2.2.2.2.n21 (fun q => ?_)
        refine b_astore (lv' := [(4, .ref q), (0, .ref (G.2.2 i0)), (1, .int v1), (2, .int v2), (3, .ref (G.2.2 i3))]) C dL_lodgerOf_17 (by decide) rfl ?_
        refine b_iconst (v := 2) C dL_lodgerOf_19 (by decide) ?_
        exact b_wiret C dL_lodgerOf_20 hf ⟨Nat.le_of_ble_eq_true rfl, Nat.le_of_ble_eq_true rfl⟩
      have hf := iF q1 hf
      cases hf
  · cases r1 with
    | inl j1 => cases hu
    | inr w =>
      cases hu
      refine b_i2l C dL_lodgerOf_8 ?_
      obtain ⟨g1, hf⟩ := iN hf
      refine b_last C hk3 g1 dL_lodgerOf_9 ?_
      refine b_goto (tgt := 21) C dL_lodgerOf_10 (by decide) ?_
      refine b_iconst (v := 0) C dL_lodgerOf_21 (by decide) ?_
      exact b_wiret C dL_lodgerOf_22 hf ⟨Nat.le_of_ble_eq_true rfl, Nat.le_of_ble_eq_true rfl⟩
abbrev rL_longest : Room := { frames := 9, cells := 2, slots := 12, locals := 146 }
def fL_longest (i0 : Nat) (v1 : Int32) (v2 : Int32) (i3 : Nat) (x : xS) : Option (Int32 × xS) :=
  Option.bind (fX6_longest i0 v1 v2 x) (fun r => match r with
  | Sum.inl j =>
    if j = 1 then some (1, x) else
    if j = 2 then some (2, x) else none
  | Sum.inr w => if (0 : Int32) < 0 ∨ ln i3 ≤ (0 : Int32).toNatClampNeg then none else some (0, up2 x i3 (0 : Int32).toNatClampNeg w.toInt64))
set_option maxHeartbeats 4000000 in
set_option maxRecDepth 100000 in
theorem metL_longest (l : Launch) (G : gT) (i0 : Nat) (v1 : Int32) (v2 : Int32) (i3 : Nat) (x : xS) (r : Int32 × xS) (hk0 : KD G i0 6) (hk3 : KD G i3 11) (hf : fL_longest i0 v1 v2 i3 x = some r) (hl : l.stackTraces = false) : cW l yL_longest cL_longest 5 [(0, 10, 13, 13), (0, 10, 17, 15)] rL_longest 2 [.ref (G.2.2 i0), .int v1, .int v2, .ref (G.2.2 i3)] G x r := by
  refine b_bodyW (by decide) hl (Nat.le_of_ble_eq_true rfl) rfl (fun p e s m args below meth c C X => ?_)
  unfold fL_longest at hf
  obtain ⟨r1, c1, hf⟩ := oB hf
  refine b_aload_n C dL_longest_0 rfl 3 rfl ?_
  refine b_iconst (v := 0) C dL_longest_1 (by decide) ?_
  refine b_aload_n C dL_longest_2 rfl 0 rfl ?_
  refine b_iload_n C dL_longest_3 rfl 1 rfl ?_
  refine b_iload_n C dL_longest_4 rfl 2 rfl ?_
  refine b_xcVi (K := 6) (As := [.int v1, .int v2]) (res := (Sum.map id (fun v => (v, x)) r1)) (mc1 := 2) C X.2.2 (metX6_longest l G _ _ _ _ _ hk0 c1 hl) hk0 (by decide) rfl gkL_73 ekL_73 rfl ⟨rfl, rfl⟩ ⟨Nat.le_of_ble_eq_true rfl, Nat.le_of_ble_eq_true rfl⟩ (by simp [Value.category]) ⟨Nat.le_of_ble_eq_true rfl, Nat.le_of_ble_eq_true rfl⟩ rfl dL_longest_5 (fun j hj => ?_) (fun v u hu => ?_)
  · cases r1 with
    | inr w => cases hj
    | inl j1 =>
      have e1 : j1 = j := Sum.inl.inj hj
      subst e1
      by_cases q0 : j1 = 1
      · subst q0
        have hf := iT rfl hf
        refine b_catch0 C X (by decide) rfl (by decide) (by decide) w_578 (fun q => ?_)
        refine b_astore (lv' := [(4, .ref q), (0, .ref (G.2.2 i0)), (1, .int v1), (2, .int v2), (3, .ref (G.2.2 i3))]) C dL_longest_13 (by decide) rfl ?_
        refine b_iconst (v := 1) C dL_longest_15 (by decide) ?_
        exact b_wiret C dL_longest_16 hf ⟨Nat.le_of_ble_eq_true rfl, Nat.le_of_ble_eq_true rfl⟩
      have hf := iF q0 hf
      by_cases q1 : j1 = 2
      · subst q1
        have hf := iT rfl hf
        refine b_catch1 (j0 := 1) C X (by decide) rfl (by decide) (by decide) (by decide) w_571 w_578 X.2.2.2.2.n21 (fun q => ?_)
        refine b_astore (lv' := [(4, .ref q), (0, .ref (G.2.2 i0)), (1, .int v1), (2, .int v2), (3, .ref (G.2.2 i3))]) C dL_longest_17 (by decide) rfl ?_
        refine b_iconst (v := 2) C dL_longest_19 (by decide) ?_
        exact b_wiret C dL_longest_20 hf ⟨Nat.le_of_ble_eq_true rfl, Nat.le_of_ble_eq_true rfl⟩
      have hf := iF q1 hf
      cases hf
  · cases r1 with
    | inl j1 => cases hu
    | inr w =>
      cases hu
      refine b_i2l C dL_longest_8 ?_
      obtain ⟨g1, hf⟩ := iN hf
      refine b_last C hk3 g1 dL_longest_9 ?_
      refine b_goto (tgt := 21) C dL_longest_10 (by decide) ?_
      refine b_iconst (v := 0) C dL_longest_21 (by decide) ?_
      exact b_wiret C dL_longest_22 hf ⟨Nat.le_of_ble_eq_true rfl, Nat.le_of_ble_eq_true rfl⟩
abbrev rL_need : Room := { frames := 9, cells := 2, slots := 12, locals := 168 }
def fL_need (i0 : Nat) (v1 : Int32) (v2 : Int32) (i3 : Nat) (x : xS) : Option (Int32 × xS) :=
  Option.bind (fX6_need i0 v1 v2 x) (fun r => match r with
  | Sum.inl j =>
    if j = 1 then some (1, x) else
    if j = 2 then some (2, x) else none
  | Sum.inr w => if (0 : Int32) < 0 ∨ ln i3 ≤ (0 : Int32).toNatClampNeg then none else some (0, up2 w.2 i3 (0 : Int32).toNatClampNeg w.1.toInt64))
set_option maxHeartbeats 4000000 in
set_option maxRecDepth 100000 in
theorem metL_need (l : Launch) (G : gT) (i0 : Nat) (v1 : Int32) (v2 : Int32) (i3 : Nat) (x : xS) (r : Int32 × xS) (hk0 : KD G i0 6) (hk3 : KD G i3 11) (hf : fL_need i0 v1 v2 i3 x = some r) (hl : l.stackTraces = false) : cW l yL_need cL_need 5 [(0, 10, 13, 13), (0, 10, 17, 15)] rL_need 2 [.ref (G.2.2 i0), .int v1, .int v2, .ref (G.2.2 i3)] G x r := by
  refine b_bodyW (by decide) hl (Nat.le_of_ble_eq_true rfl) rfl (fun p e s m args below meth c C X => ?_)
  unfold fL_need at hf
  obtain ⟨r1, c1, hf⟩ := oB hf
  refine b_aload_n C dL_need_0 rfl 3 rfl ?_
  refine b_iconst (v := 0) C dL_need_1 (by decide) ?_
  refine b_aload_n C dL_need_2 rfl 0 rfl ?_
  refine b_iload_n C dL_need_3 rfl 1 rfl ?_
  refine b_iload_n C dL_need_4 rfl 2 rfl ?_
  refine b_xcVi (K := 6) (As := [.int v1, .int v2]) (res := r1) (mc1 := 2) C X.2.2 (metX6_need l G _ _ _ _ _ hk0 c1 hl) hk0 (by decide) rfl gkL_25 ekL_25 rfl ⟨rfl, rfl⟩ ⟨Nat.le_of_ble_eq_true rfl, Nat.le_of_ble_eq_true rfl⟩ (by simp [Value.category]) ⟨Nat.le_of_ble_eq_true rfl, Nat.le_of_ble_eq_true rfl⟩ rfl dL_need_5 (fun j hj => ?_) (fun v u hu => ?_)
  · cases r1 with
    | inr w => cases hj
    | inl j1 =>
      have e1 : j1 = j := Sum.inl.inj hj
      subst e1
      by_cases q0 : j1 = 1
      · subst q0
        have hf := iT rfl hf
        refine b_catch0 C X (by decide) rfl (by decide) (by decide) w_578 (fun q => ?_)
        refine b_astore (lv' := [(4, .ref q), (0, .ref (G.2.2 i0)), (1, .int v1), (2, .int v2), (3, .ref (G.2.2 i3))]) C dL_need_13 (by decide) rfl ?_
        refine b_iconst (v := 1) C dL_need_15 (by decide) ?_
        exact b_wiret C dL_need_16 hf ⟨Nat.le_of_ble_eq_true rfl, Nat.le_of_ble_eq_true rfl⟩
      have hf := iF q0 hf
      by_cases q1 : j1 = 2
      · subst q1
        have hf := iT rfl hf
        refine b_catch1 (j0 := 1) C X (by decide) rfl (by decide) (by decide) (by decide) w_571 w_578 X.2.2.2.2.n21 (fun q => ?_)
        refine b_astore (lv' := [(4, .ref q), (0, .ref (G.2.2 i0)), (1, .int v1), (2, .int v2), (3, .ref (G.2.2 i3))]) C dL_need_17 (by decide) rfl ?_
        refine b_iconst (v := 2) C dL_need_19 (by decide) ?_
        exact b_wiret C dL_need_20 hf ⟨Nat.le_of_ble_eq_true rfl, Nat.le_of_ble_eq_true rfl⟩
      have hf := iF q1 hf
      cases hf
  · cases r1 with
    | inl j1 => cases hu
    | inr w =>
      cases hu
      refine b_i2l C dL_need_8 ?_
      obtain ⟨g1, hf⟩ := iN hf
      refine b_last C hk3 g1 dL_need_9 ?_
      refine b_goto (tgt := 21) C dL_need_10 (by decide) ?_
      refine b_iconst (v := 0) C dL_need_21 (by decide) ?_
      exact b_wiret C dL_need_22 hf ⟨Nat.le_of_ble_eq_true rfl, Nat.le_of_ble_eq_true rfl⟩
abbrev rL_pass : Room := { frames := 7, cells := 1, slots := 6, locals := 166 }
def fL_pass (i0 : Nat)  (i1 : Nat) (x : xS) : Option (Int32 × xS) :=
  Option.bind (fX6_pass i0  x) (fun r => match r with
  | Sum.inl j =>
    if j = 3 then some (1, x) else none
  | Sum.inr w => if (0 : Int32) < 0 ∨ ln i1 ≤ (0 : Int32).toNatClampNeg then none else some (0, up2 w.2 i1 (0 : Int32).toNatClampNeg w.1.toInt64))
set_option maxHeartbeats 4000000 in
set_option maxRecDepth 100000 in
theorem metL_pass (l : Launch) (G : gT) (i0 : Nat)  (i1 : Nat) (x : xS) (r : Int32 × xS) (hk0 : KD G i0 6) (hk1 : KD G i1 11) (hf : fL_pass i0  i1 x = some r) (hl : l.stackTraces = false) : cW l yL_pass cL_pass 3 [(0, 8, 11, 32)] rL_pass 1 [.ref (G.2.2 i0), .ref (G.2.2 i1)] G x r := by
  refine b_bodyW (by decide) hl (Nat.le_of_ble_eq_true rfl) rfl (fun p e s m args below meth c C X => ?_)
  unfold fL_pass at hf
  obtain ⟨r1, c1, hf⟩ := oB hf
  refine b_aload_n C dL_pass_0 rfl 1 rfl ?_
  refine b_iconst (v := 0) C dL_pass_1 (by decide) ?_
  refine b_aload_n C dL_pass_2 rfl 0 rfl ?_
  refine b_xcVi (K := 6) (As := []) (res := r1) (mc1 := 1) C X.2.2 (metX6_pass l G _ _ _ hk0 c1 hl) hk0 (by decide) rfl gkL_28 ekL_28 rfl ⟨rfl, rfl⟩ ⟨Nat.le_of_ble_eq_true rfl, Nat.le_of_ble_eq_true rfl⟩ (by simp [Value.category]) ⟨Nat.le_of_ble_eq_true rfl, Nat.le_of_ble_eq_true rfl⟩ rfl dL_pass_3 (fun j hj => ?_) (fun v u hu => ?_)
  · cases r1 with
    | inr w => cases hj
    | inl j1 =>
      have e1 : j1 = j := Sum.inl.inj hj
      subst e1
      by_cases q0 : j1 = 3
      · subst q0
        have hf := iT rfl hf
        refine b_catch0 C X (by decide) rfl (by decide) (by decide) w_572 (fun q => ?_)
        refine b_astore_n (lv' := [(2, .ref q), (0, .ref (G.2.2 i0)), (1, .ref (G.2.2 i1))]) C dL_pass_11 rfl (by decide) rfl ?_
        refine b_iconst (v := 1) C dL_pass_12 (by decide) ?_
        exact b_wiret C dL_pass_13 hf ⟨Nat.le_of_ble_eq_true rfl, Nat.le_of_ble_eq_true rfl⟩
      have hf := iF q0 hf
      cases hf
  · cases r1 with
    | inl j1 => cases hu
    | inr w =>
      cases hu
      refine b_i2l C dL_pass_6 ?_
      obtain ⟨g1, hf⟩ := iN hf
      refine b_last C hk1 g1 dL_pass_7 ?_
      refine b_goto (tgt := 14) C dL_pass_8 (by decide) ?_
      refine b_iconst (v := 0) C dL_pass_14 (by decide) ?_
      exact b_wiret C dL_pass_15 hf ⟨Nat.le_of_ble_eq_true rfl, Nat.le_of_ble_eq_true rfl⟩
abbrev rL_refused : Room := { frames := 8, cells := 1, slots := 6, locals := 125 }
def fL_refused (i0 : Nat) (v1 : Int32) (i2 : Nat) (x : xS) : Option (Int32 × xS) :=
  Option.bind (fX6_refused i0 v1 x) (fun r => match r with
  | Sum.inl j =>
    if j = 2 then some (1, x) else none
  | Sum.inr w => if (0 : Int32) < 0 ∨ ln i2 ≤ (0 : Int32).toNatClampNeg then none else some (0, up2 x i2 (0 : Int32).toNatClampNeg w.toInt64))
set_option maxHeartbeats 4000000 in
set_option maxRecDepth 100000 in
theorem metL_refused (l : Launch) (G : gT) (i0 : Nat) (v1 : Int32) (i2 : Nat) (x : xS) (r : Int32 × xS) (hk0 : KD G i0 6) (hk2 : KD G i2 11) (hf : fL_refused i0 v1 i2 x = some r) (hl : l.stackTraces = false) : cW l yL_refused cL_refused 4 [(0, 9, 12, 15)] rL_refused 1 [.ref (G.2.2 i0), .int v1, .ref (G.2.2 i2)] G x r := by
  refine b_bodyW (by decide) hl (Nat.le_of_ble_eq_true rfl) rfl (fun p e s m args below meth c C X => ?_)
  unfold fL_refused at hf
  obtain ⟨r1, c1, hf⟩ := oB hf
  refine b_aload_n C dL_refused_0 rfl 2 rfl ?_
  refine b_iconst (v := 0) C dL_refused_1 (by decide) ?_
  refine b_aload_n C dL_refused_2 rfl 0 rfl ?_
  refine b_iload_n C dL_refused_3 rfl 1 rfl ?_
  refine b_xcVi (K := 6) (As := [.int v1]) (res := (Sum.map id (fun v => (v, x)) r1)) (mc1 := 1) C X.2.2 (metX6_refused l G _ _ _ _ hk0 c1 hl) hk0 (by decide) rfl gkL_61 ekL_61 rfl ⟨rfl, rfl⟩ ⟨Nat.le_of_ble_eq_true rfl, Nat.le_of_ble_eq_true rfl⟩ (by simp [Value.category]) ⟨Nat.le_of_ble_eq_true rfl, Nat.le_of_ble_eq_true rfl⟩ rfl dL_refused_4 (fun j hj => ?_) (fun v u hu => ?_)
  · cases r1 with
    | inr w => cases hj
    | inl j1 =>
      have e1 : j1 = j := Sum.inl.inj hj
      subst e1
      by_cases q0 : j1 = 2
      · subst q0
        have hf := iT rfl hf
        refine b_catch0 C X (by decide) rfl (by decide) (by decide) w_571 (fun q => ?_)
        refine b_astore_n (lv' := [(3, .ref q), (0, .ref (G.2.2 i0)), (1, .int v1), (2, .ref (G.2.2 i2))]) C dL_refused_12 rfl (by decide) rfl ?_
        refine b_iconst (v := 1) C dL_refused_13 (by decide) ?_
        exact b_wiret C dL_refused_14 hf ⟨Nat.le_of_ble_eq_true rfl, Nat.le_of_ble_eq_true rfl⟩
      have hf := iF q0 hf
      cases hf
  · cases r1 with
    | inl j1 => cases hu
    | inr w =>
      cases hu
      refine b_i2l C dL_refused_7 ?_
      obtain ⟨g1, hf⟩ := iN hf
      refine b_last C hk2 g1 dL_refused_8 ?_
      refine b_goto (tgt := 15) C dL_refused_9 (by decide) ?_
      refine b_iconst (v := 0) C dL_refused_15 (by decide) ?_
      exact b_wiret C dL_refused_16 hf ⟨Nat.le_of_ble_eq_true rfl, Nat.le_of_ble_eq_true rfl⟩
abbrev rL_run : Room := { frames := 7, cells := 1, slots := 6, locals := 167 }
def fL_run (i0 : Nat)  (i1 : Nat) (x : xS) : Option (Int32 × xS) :=
  Option.bind (fX6_run i0  x) (fun r => match r with
  | Sum.inl j =>
    if j = 2 then some (1, x) else none
  | Sum.inr w => if (0 : Int32) < 0 ∨ ln i1 ≤ (0 : Int32).toNatClampNeg then none else some (0, up2 w.2 i1 (0 : Int32).toNatClampNeg w.1.toInt64))
set_option maxHeartbeats 4000000 in
set_option maxRecDepth 100000 in
theorem metL_run (l : Launch) (G : gT) (i0 : Nat)  (i1 : Nat) (x : xS) (r : Int32 × xS) (hk0 : KD G i0 6) (hk1 : KD G i1 11) (hf : fL_run i0  i1 x = some r) (hl : l.stackTraces = false) : cW l yL_run cL_run 3 [(0, 8, 11, 15)] rL_run 1 [.ref (G.2.2 i0), .ref (G.2.2 i1)] G x r := by
  refine b_bodyW (by decide) hl (Nat.le_of_ble_eq_true rfl) rfl (fun p e s m args below meth c C X => ?_)
  unfold fL_run at hf
  obtain ⟨r1, c1, hf⟩ := oB hf
  refine b_aload_n C dL_run_0 rfl 1 rfl ?_
  refine b_iconst (v := 0) C dL_run_1 (by decide) ?_
  refine b_aload_n C dL_run_2 rfl 0 rfl ?_
  refine b_xcVi (K := 6) (As := []) (res := r1) (mc1 := 1) C X.2.2 (metX6_run l G _ _ _ hk0 c1 hl) hk0 (by decide) rfl gkL_40 ekL_40 rfl ⟨rfl, rfl⟩ ⟨Nat.le_of_ble_eq_true rfl, Nat.le_of_ble_eq_true rfl⟩ (by simp [Value.category]) ⟨Nat.le_of_ble_eq_true rfl, Nat.le_of_ble_eq_true rfl⟩ rfl dL_run_3 (fun j hj => ?_) (fun v u hu => ?_)
  · cases r1 with
    | inr w => cases hj
    | inl j1 =>
      have e1 : j1 = j := Sum.inl.inj hj
      subst e1
      by_cases q0 : j1 = 2
      · subst q0
        have hf := iT rfl hf
        refine b_catch0 C X (by decide) rfl (by decide) (by decide) w_571 (fun q => ?_)
        refine b_astore_n (lv' := [(2, .ref q), (0, .ref (G.2.2 i0)), (1, .ref (G.2.2 i1))]) C dL_run_11 rfl (by decide) rfl ?_
        refine b_iconst (v := 1) C dL_run_12 (by decide) ?_
        exact b_wiret C dL_run_13 hf ⟨Nat.le_of_ble_eq_true rfl, Nat.le_of_ble_eq_true rfl⟩
      have hf := iF q0 hf
      cases hf
  · cases r1 with
    | inl j1 => cases hu
    | inr w =>
      cases hu
      refine b_i2l C dL_run_6 ?_
      obtain ⟨g1, hf⟩ := iN hf
      refine b_last C hk1 g1 dL_run_7 ?_
      refine b_goto (tgt := 14) C dL_run_8 (by decide) ?_
      refine b_iconst (v := 0) C dL_run_14 (by decide) ?_
      exact b_wiret C dL_run_15 hf ⟨Nat.le_of_ble_eq_true rfl, Nat.le_of_ble_eq_true rfl⟩
abbrev rL_set : Room := { frames := 9, cells := 1, slots := 6, locals := 167 }
def fL_set (i0 : Nat) (v1 : Int32) (i2 : Nat) (x : xS) : Option (Int32 × xS) :=
  Option.bind (fX6_set i0 v1 x) (fun r => match r with
  | Sum.inl j =>
    if j = 2 then some (1, x) else none
  | Sum.inr w => if (0 : Int32) < 0 ∨ ln i2 ≤ (0 : Int32).toNatClampNeg then none else some (0, up2 w.2 i2 (0 : Int32).toNatClampNeg w.1.toInt64))
set_option maxHeartbeats 4000000 in
set_option maxRecDepth 100000 in
theorem metL_set (l : Launch) (G : gT) (i0 : Nat) (v1 : Int32) (i2 : Nat) (x : xS) (r : Int32 × xS) (hk0 : KD G i0 6) (hk2 : KD G i2 11) (hf : fL_set i0 v1 i2 x = some r) (hl : l.stackTraces = false) : cW l yL_set cL_set 4 [(0, 9, 12, 15)] rL_set 1 [.ref (G.2.2 i0), .int v1, .ref (G.2.2 i2)] G x r := by
  refine b_bodyW (by decide) hl (Nat.le_of_ble_eq_true rfl) rfl (fun p e s m args below meth c C X => ?_)
  unfold fL_set at hf
  obtain ⟨r1, c1, hf⟩ := oB hf
  refine b_aload_n C dL_set_0 rfl 2 rfl ?_
  refine b_iconst (v := 0) C dL_set_1 (by decide) ?_
  refine b_aload_n C dL_set_2 rfl 0 rfl ?_
  refine b_iload_n C dL_set_3 rfl 1 rfl ?_
  refine b_xcVi (K := 6) (As := [.int v1]) (res := r1) (mc1 := 1) C X.2.2 (metX6_set l G _ _ _ _ hk0 c1 hl) hk0 (by decide) rfl gkL_34 ekL_34 rfl ⟨rfl, rfl⟩ ⟨Nat.le_of_ble_eq_true rfl, Nat.le_of_ble_eq_true rfl⟩ (by simp [Value.category]) ⟨Nat.le_of_ble_eq_true rfl, Nat.le_of_ble_eq_true rfl⟩ rfl dL_set_4 (fun j hj => ?_) (fun v u hu => ?_)
  · cases r1 with
    | inr w => cases hj
    | inl j1 =>
      have e1 : j1 = j := Sum.inl.inj hj
      subst e1
      by_cases q0 : j1 = 2
      · subst q0
        have hf := iT rfl hf
        refine b_catch0 C X (by decide) rfl (by decide) (by decide) w_571 (fun q => ?_)
        refine b_astore_n (lv' := [(3, .ref q), (0, .ref (G.2.2 i0)), (1, .int v1), (2, .ref (G.2.2 i2))]) C dL_set_12 rfl (by decide) rfl ?_
        refine b_iconst (v := 1) C dL_set_13 (by decide) ?_
        exact b_wiret C dL_set_14 hf ⟨Nat.le_of_ble_eq_true rfl, Nat.le_of_ble_eq_true rfl⟩
      have hf := iF q0 hf
      cases hf
  · cases r1 with
    | inl j1 => cases hu
    | inr w =>
      cases hu
      refine b_i2l C dL_set_7 ?_
      obtain ⟨g1, hf⟩ := iN hf
      refine b_last C hk2 g1 dL_set_8 ?_
      refine b_goto (tgt := 15) C dL_set_9 (by decide) ?_
      refine b_iconst (v := 0) C dL_set_15 (by decide) ?_
      exact b_wiret C dL_set_16 hf ⟨Nat.le_of_ble_eq_true rfl, Nat.le_of_ble_eq_true rfl⟩
abbrev rL_undo : Room := { frames := 7, cells := 1, slots := 6, locals := 146 }
def fL_undo (i0 : Nat)  (i1 : Nat) (x : xS) : Option (Int32 × xS) :=
  Option.bind (fX6_undo i0  x) (fun r => match r with
  | Sum.inl j =>
    if j = 3 then some (1, x) else none
  | Sum.inr w => if (0 : Int32) < 0 ∨ ln i1 ≤ (0 : Int32).toNatClampNeg then none else some (0, up2 w.2 i1 (0 : Int32).toNatClampNeg w.1.toInt64))
set_option maxHeartbeats 4000000 in
set_option maxRecDepth 100000 in
theorem metL_undo (l : Launch) (G : gT) (i0 : Nat)  (i1 : Nat) (x : xS) (r : Int32 × xS) (hk0 : KD G i0 6) (hk1 : KD G i1 11) (hf : fL_undo i0  i1 x = some r) (hl : l.stackTraces = false) : cW l yL_undo cL_undo 3 [(0, 8, 11, 32)] rL_undo 1 [.ref (G.2.2 i0), .ref (G.2.2 i1)] G x r := by
  refine b_bodyW (by decide) hl (Nat.le_of_ble_eq_true rfl) rfl (fun p e s m args below meth c C X => ?_)
  unfold fL_undo at hf
  obtain ⟨r1, c1, hf⟩ := oB hf
  refine b_aload_n C dL_undo_0 rfl 1 rfl ?_
  refine b_iconst (v := 0) C dL_undo_1 (by decide) ?_
  refine b_aload_n C dL_undo_2 rfl 0 rfl ?_
  refine b_xcVi (K := 6) (As := []) (res := r1) (mc1 := 1) C X.2.2 (metX6_undo l G _ _ _ hk0 c1 hl) hk0 (by decide) rfl gkL_49 ekL_49 rfl ⟨rfl, rfl⟩ ⟨Nat.le_of_ble_eq_true rfl, Nat.le_of_ble_eq_true rfl⟩ (by simp [Value.category]) ⟨Nat.le_of_ble_eq_true rfl, Nat.le_of_ble_eq_true rfl⟩ rfl dL_undo_3 (fun j hj => ?_) (fun v u hu => ?_)
  · cases r1 with
    | inr w => cases hj
    | inl j1 =>
      have e1 : j1 = j := Sum.inl.inj hj
      subst e1
      by_cases q0 : j1 = 3
      · subst q0
        have hf := iT rfl hf
        refine b_catch0 C X (by decide) rfl (by decide) (by decide) w_572 (fun q => ?_)
        refine b_astore_n (lv' := [(2, .ref q), (0, .ref (G.2.2 i0)), (1, .ref (G.2.2 i1))]) C dL_undo_11 rfl (by decide) rfl ?_
        refine b_iconst (v := 1) C dL_undo_12 (by decide) ?_
        exact b_wiret C dL_undo_13 hf ⟨Nat.le_of_ble_eq_true rfl, Nat.le_of_ble_eq_true rfl⟩
      have hf := iF q0 hf
      cases hf
  · cases r1 with
    | inl j1 => cases hu
    | inr w =>
      cases hu
      refine b_i2l C dL_undo_6 ?_
      obtain ⟨g1, hf⟩ := iN hf
      refine b_last C hk1 g1 dL_undo_7 ?_
      refine b_goto (tgt := 14) C dL_undo_8 (by decide) ?_
      refine b_iconst (v := 0) C dL_undo_14 (by decide) ?_
      exact b_wiret C dL_undo_15 hf ⟨Nat.le_of_ble_eq_true rfl, Nat.le_of_ble_eq_true rfl⟩
