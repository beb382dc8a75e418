theorem y_e1 : Cond.classLink RL 9 RX6 ∈ AW := AW_of (by decide +kernel) (by decide +kernel)
theorem y_e2 : Cond.instantiable RX6 7 ∈ AW := AW_of (by decide +kernel) (by decide +kernel)
theorem y_e3 : Cond.methodLink RL 93 yX6_init ∈ AW := AW_of (by decide +kernel) (by decide +kernel)
theorem y_e4 : Cond.instanceMethod yX6_init ∈ AW := AW_of (by decide +kernel) (by decide +kernel)
theorem y_e5 : Cond.code yX6_init cX6_init 1 none ∈ AW := AW_of (by decide +kernel) (by decide +kernel)
theorem y_e6 : Cond.initialized RX6 ∈ AW := AW_of (by decide +kernel) (by decide +kernel)
theorem y_kI {s : State} {args : Array Value} (h : (Cond.arrayClass .int).before args s = true) : ∃ cA, ArrOfT s cA .int ∧ va_RA s cA .int := by
  obtain ⟨cA, kA, comp, h1, h2, h3⟩ := Cond.arrayClass_spec h
  exact ⟨cA, fun n z => ⟨fun k h => (by cases h), kA, h2, comp, h3⟩, h1⟩
theorem y_kZ {s : State} {args : Array Value} (h : (Cond.arrayClass .boolean).before args s = true) : ∃ cA, ArrOfT s cA .boolean ∧ va_RA s cA .boolean := by
  obtain ⟨cA, kA, comp, h1, h2, h3⟩ := Cond.arrayClass_spec h
  exact ⟨cA, fun n z => ⟨fun k h => (by cases h), kA, h2, comp, h3⟩, h1⟩
theorem y_kQ {s : State} (h : va_AO "SevenAsks$House" s) : ∃ cA, ArrOfT s cA (.object "SevenAsks$House") ∧ va_RA s cA (.object "SevenAsks$House") := by
  obtain ⟨comp, cA, kA, h1, h2, h3, h4, h5⟩ := Cond.arrayOver_spec h
  exact ⟨cA, fun n z => ⟨fun k h => (by cases h), kA, h3, comp, h4⟩, kA, comp, h3, h4, h1, h5⟩
theorem y_know {s : State} {args : Array Value} (hts : ∀ w ∈ AW, w.before args s = true) (hO : va_AO "SevenAsks$House" s) : ∃ (D : va_G) (cy : Nat → ClassId), va_K D vwCl (z_ty cy) s := by
  obtain ⟨c0, i0, k0⟩ := u_known (C := RX0) (T := TX0) (N := 2) (n := 2) hts inA0 (hts _ y_7n)
  obtain ⟨c1, i1, k1⟩ := u_known (C := RX1) (T := TX1) (N := 1) (n := 1) hts inA1 (hts _ y_7j)
  obtain ⟨c2, i2, k2⟩ := u_known (C := RX2) (T := TX2) (N := 3) (n := 3) hts inA2 (hts _ z_q3)
  obtain ⟨c3, i3, k3⟩ := u_known (C := RX3) (T := TX3) (N := 4) (n := 4) hts inA3 (hts _ y_S7)
  obtain ⟨c4, i4, k4⟩ := u_known (C := RX4) (T := TX4) (N := 2) (n := 2) hts inA4 (hts _ z_r3)
  obtain ⟨c5, i5, k5⟩ := u_known (C := RX5) (T := TX5) (N := 2) (n := 2) hts inA5 (hts _ y_7e)
  obtain ⟨c6, i6, k6⟩ := u_known (C := RX6) (T := TX6) (N := 7) (n := 7) hts inA6 (hts _ y_e2)
  obtain ⟨a0, h0⟩ := y_kI (hts _ z_o5)
  obtain ⟨a1, h1⟩ := y_kZ (hts _ y_S6)
  obtain ⟨a2, h2⟩ := y_kQ hO
  refine ⟨(fun k => match k with | 0 => c0 | 1 => c1 | 2 => c2 | 3 => c3 | 4 => c4 | 5 => c5 | _ => c6, fun k => match k with | 0 => i0 | 1 => i1 | 2 => i2 | 3 => i3 | 4 => i4 | 5 => i5 | _ => i6), fun k => match k with | 0 => a0 | 1 => a1 | _ => a2, ?_, ?_⟩
  · intro k q hq
    match k, hq with
    | 0, hq => cases hq; exact k0
    | 1, hq => cases hq; exact k1
    | 2, hq => cases hq; exact k2
    | 3, hq => cases hq; exact k3
    | 4, hq => cases hq; exact k4
    | 5, hq => cases hq; exact k5
    | 6, hq => cases hq; exact k6
    | k + 7, hq => exact absurd hq (by simp [vwCl])
  · intro k q hq
    match k, hq with
    | 0, hq => cases hq; exact h0
    | 1, hq => cases hq; exact h1
    | 2, hq => cases hq; exact h2
    | k + 3, hq => exact absurd hq (by simp [z_ty])
theorem y_NWof {s : State} {args : Array Value} (hts : ∀ w ∈ lw_tbl, w.before args s = true) : NW s := ⟨va_Nw.of rfl (hts _ (show Cond.fieldLinkNest RX6 151 "SevenAsks$House" "night" "LSevenAsks$Night;" "SevenAsks" ∈ lw_tbl by decide +kernel)), va_Nw.of rfl (hts _ (show Cond.methodLinkNest RX4 67 yX6_isWithinNight "SevenAsks" ∈ lw_tbl by decide +kernel))⟩
theorem y_NCof {s : State} {args : Array Value} (hts : ∀ w ∈ lw_tbl, w.before args s = true) : y_NC s := ⟨va_Nw.of rfl (hts _ (show Cond.methodLinkNest RX6 30 yX1_init "SevenAsks" ∈ lw_tbl by decide +kernel)), va_Nw.of rfl (hts _ (show Cond.methodLinkNest RX6 37 yX0_init "SevenAsks" ∈ lw_tbl by decide +kernel))⟩
theorem y_vk {s : State} {args : Array Value} {k : Nat} {tx : String} (h1 : (Cond.stringRef RX6 k tx).before args s = true) (h2 : (Cond.exactly (.string RX6 k) "java/lang/String").before args s = true) : ∃ a, vk_R RX6 k tx a s := by
  obtain ⟨a, c, cA, kA, q1, -⟩ := Cond.exactly_spec (args := args) (first := s) (o := none) (s := s) (idx := []) (t := .string RX6 k) (cls := "java/lang/String") h2
  exact ⟨a, vk_R.of h1 q1⟩
theorem y_SRof {s : State} {args : Array Value} (hts : ∀ w ∈ lw_tbl, w.before args s = true) (hf : ∀ w ∈ flatC (Jvm.Cond.and given_1 narrow_1), w.before args s = true) : SR s := by
  refine ⟨va_Nw.of rfl (hts _ (show Cond.declares ⟨"java/lang/RuntimeException", "<init>", "(Ljava/lang/String;)V"⟩ ∈ lw_tbl by decide +kernel)), va_Nw.of rfl (hts _ (show Cond.declares ⟨"java/lang/Exception", "<init>", "(Ljava/lang/String;)V"⟩ ∈ lw_tbl by decide +kernel)), va_Nw.of rfl (hts _ (show Cond.declares ⟨"java/lang/Throwable", "<init>", "(Ljava/lang/String;)V"⟩ ∈ lw_tbl by decide +kernel)), va_Nw.of rfl (hts _ (show Cond.castable "java/lang/IndexOutOfBoundsException" "java/lang/IndexOutOfBoundsException" ∈ lw_tbl by decide +kernel)), va_Nw.of rfl (hts _ (show Cond.castable "java/lang/IllegalArgumentException" "java/lang/IllegalArgumentException" ∈ lw_tbl by decide +kernel)), va_Nw.of rfl (hts _ (show Cond.castable "java/lang/IllegalStateException" "java/lang/IllegalStateException" ∈ lw_tbl by decide +kernel)), va_Nc.of (hf _ (show Cond.not (.castable "java/lang/IllegalArgumentException" "java/lang/IndexOutOfBoundsException") ∈ flatC (Jvm.Cond.and given_1 narrow_1) by decide +kernel)), va_Nc.of (hf _ (show Cond.not (.castable "java/lang/IllegalStateException" "java/lang/IllegalArgumentException") ∈ flatC (Jvm.Cond.and given_1 narrow_1) by decide +kernel)), va_Nc.of (hf _ (show Cond.not (.castable "java/lang/IllegalStateException" "java/lang/IndexOutOfBoundsException") ∈ flatC (Jvm.Cond.and given_1 narrow_1) by decide +kernel)), y_vk (hts _ (show Cond.stringRef RX6 141 "no state is saved" ∈ lw_tbl by decide +kernel)) (hf _ (show Cond.exactly (.string RX6 141) "java/lang/String" ∈ flatC (Jvm.Cond.and given_1 narrow_1) by decide +kernel)), y_vk (hts _ (show Cond.stringRef RX6 234 "a number is out of range" ∈ lw_tbl by decide +kernel)) (hf _ (show Cond.exactly (.string RX6 234) "java/lang/String" ∈ flatC (Jvm.Cond.and given_1 narrow_1) by decide +kernel)), y_vk (hts _ (show Cond.stringRef RX6 232 "there is no such lodger" ∈ lw_tbl by decide +kernel)) (hf _ (show Cond.exactly (.string RX6 232) "java/lang/String" ∈ flatC (Jvm.Cond.and given_1 narrow_1) by decide +kernel)), y_vk (hts _ (show Cond.stringRef RX6 240 "the hours are out of range" ∈ lw_tbl by decide +kernel)) (hf _ (show Cond.exactly (.string RX6 240) "java/lang/String" ∈ flatC (Jvm.Cond.and given_1 narrow_1) by decide +kernel)), y_vk (hts _ (show Cond.stringRef RX6 79 "999 nights ended" ∈ lw_tbl by decide +kernel)) (hf _ (show Cond.exactly (.string RX6 79) "java/lang/String" ∈ flatC (Jvm.Cond.and given_1 narrow_1) by decide +kernel)), y_vk (hts _ (show Cond.stringRef RX6 148 "there is no such bed" ∈ lw_tbl by decide +kernel)) (hf _ (show Cond.exactly (.string RX6 148) "java/lang/String" ∈ flatC (Jvm.Cond.and given_1 narrow_1) by decide +kernel))⟩
theorem y_TWof {s : State} {args : Array Value} (hts : ∀ w ∈ lw_tbl, w.before args s = true) (hf : ∀ w ∈ flatC (Jvm.Cond.and given_1 narrow_1), w.before args s = true) : TW (fun q => s.heap.size ≤ q) s s.heap := by
  have hA : ∀ a : Nat, a < s.heap.size → ¬ (fun q => s.heap.size ≤ q) a := fun a h => Nat.not_le.mpr h
  exact ⟨vx_Zqof (hts _ (show Cond.laysStatic Bundle.tN "UNASSIGNED_STACK" Bundle.steD ∈ lw_tbl by decide +kernel)) (hts _ (show Cond.initialized Bundle.tN ∈ lw_tbl by decide +kernel)) (hf _ (show Cond.isRef (.static Bundle.tN "UNASSIGNED_STACK" Bundle.steD) ∈ flatC (Jvm.Cond.and given_1 narrow_1) by decide +kernel)) hA,
    vx_Zqof (hts _ (show Cond.laysStatic Bundle.tN "SUPPRESSED_SENTINEL" Bundle.listD ∈ lw_tbl by decide +kernel)) (hts _ (show Cond.initialized Bundle.tN ∈ lw_tbl by decide +kernel)) (hf _ (show Cond.isRef (.static Bundle.tN "SUPPRESSED_SENTINEL" Bundle.listD) ∈ flatC (Jvm.Cond.and given_1 narrow_1) by decide +kernel)) hA, y_SRof hts hf⟩
theorem y_clA : ∀ i, i < 203 → (kd i = 0 → i + 1 < 203) ∧ (kd i = 1 → i + 1 < 203) ∧ (kd i = 2 → i + 1 < 203) ∧ (kd i = 3 → i + 8 < 203) := by decide +kernel
theorem y_clB : ∀ i, i < 203 → (kd i = 4 → i + 1 < 203) ∧ (kd i = 5 → i + 2 < 203) ∧ (kd i = 6 → i + 99 < 203) := by decide +kernel
theorem y_clC : ∀ i, i < 203 → kd i = 10 → ∀ k, k < ln i → i + 2 + 10 * k < 203 := by decide +kernel
theorem y_CL (D : va_G) (cy : Nat → ClassId) (ad : Nat → Nat) : CL (y_G D cy ad) := by
  intro i hi
  have hi : i < 203 := List.mem_range.mp hi
  have hA := y_clA i hi
  have hB := y_clB i hi
  have hC := y_clC i hi
  show i < 203 ∧ (kd i = 0 → i + 1 ∈ List.range 203) ∧ (kd i = 1 → i + 1 ∈ List.range 203) ∧ (kd i = 2 → i + 1 ∈ List.range 203) ∧ (kd i = 3 → i + 1 ∈ List.range 203 ∧ i + 4 ∈ List.range 203 ∧ i + 6 ∈ List.range 203 ∧ i + 8 ∈ List.range 203) ∧ (kd i = 4 → i + 1 ∈ List.range 203) ∧ (kd i = 5 → i + 1 ∈ List.range 203 ∧ i + 2 ∈ List.range 203) ∧ (kd i = 6 → i + 1 ∈ List.range 203 ∧ i + 11 ∈ List.range 203 ∧ i + 34 ∈ List.range 203 ∧ i + 97 ∈ List.range 203 ∧ i + 99 ∈ List.range 203) ∧ (kd i = 7 → True) ∧ (kd i = 10 → ∀ k, k < ln i → i + 2 + 10 * k ∈ List.range 203)
  simp only [List.mem_range]
  refine ⟨hi, hA.1, hA.2.1, hA.2.2.1, fun h => ?_, hB.1, fun h => ?_, fun h => ?_, fun _ => trivial, hC⟩
  · have := hA.2.2.2 h
    omega
  · have := hB.2.1 h
    omega
  · have := hB.2.2 h
    omega
set_option maxHeartbeats 8000000 in
set_option maxRecDepth 100000 in
theorem whole_start {p : Program} {e : Env} {s : State} {m : MethodId} {below : List Frame} {meth : Method} {c : Code} (l : Launch) (hflags : l.flags = flags0) {b L : Nat} {xs : Nat → Int32} (hL : L ≤ 260) (C0 : lw_At p s m meth c b L xs) : W p l e room_1 s m #[Value.ref b] below meth c s.heap [] 0 0 (lw_Z below #[Value.ref b] s) (entryFrame m ([Value.ref b] : List Value).toArray 11) := by
  obtain ⟨hx, hb, hr, hml, hown, htb, hX, hbl, hlocks, hgv⟩ := C0
  have hts : ∀ w ∈ AW, w.before #[Value.ref b] s = true := fun w hw => htb w (AW_tbl hw)
  have hf := flat_of_before _ hgv
  have hst : l.stackTraces = false := by
    unfold Launch.stackTraces
    rw [hflags]
    decide
  have hO : va_AO "SevenAsks$House" s := va_AO.of (htb _ y_S1)
  have hN : NW s := y_NWof htb
  have hC : y_NC s := y_NCof htb
  have hT := y_TWof htb hf
  obtain ⟨D, cy, hK⟩ := y_know hts hO
  obtain ⟨A, hAe⟩ : ∃ A : Nat → Prop, A = fun q : Nat => s.heap.size ≤ q := ⟨_, rfl⟩
  have hA : ∀ q : Nat, s.heap.size ≤ q → A q := fun q h => by rw [hAe]; exact h
  have hS : va_S A s.heap s.heap [] := va_S.rf
  have hP : va_P D vwCl [] s.heap := fun k q h => by simp at h
  have hD : va_D A [] := ⟨fun i j p q h => by simp at h, fun k q h => by simp at h⟩
  have hl := lv_entry ([.ref b]) (n := 11) (Nat.le_of_ble_eq_true rfl)
  rw [lg_entry_eq]
  generalize (lg_sl ([.ref b]) ++ List.replicate (11 - (lg_sl ([.ref b])).length) Slot.unset).toArray = ls at hl ⊢
  have hl : lv_has ls 11 [(0, .ref b)] := hl
  refine va_new (ci := 6) (fs := [.null, .null, .null, .null, .null, .int 0, .int 0]) (C := RX6) (T := TX6) (N := 7) hx hb hts inA6 tyX6 tyX6_ok hown (hts _ y_e1) (hts _ y_e2) (hts _ y_e6) hK hP hD hS hA rfl (fun j hj => by rcases (show j = 0 ∨ j = 1 ∨ j = 2 ∨ j = 3 ∨ j = 4 ∨ j = 5 ∨ j = 6 by omega) with rfl | rfl | rfl | rfl | rfl | rfl | rfl <;> rfl) (Nat.le_of_ble_eq_true rfl) (Nat.le_of_ble_eq_true rfl) dL_law_0 (fun q H hP hD hS => ?_)
  have hP : va_P D vwCl ([(q, .inr (6, [.null, .null, .null, .null, .null, .int 0, .int 0]))] : va_W) H := hP
  have hD : va_D A ([(q, .inr (6, [.null, .null, .null, .null, .null, .int 0, .int 0]))] : va_W) := hD
  refine W.widen (k := 1) (n := 7) (by omega) (by omega) ?_
  refine lv_dup hx hb dL_law_3 rfl ?_
  have hFc := va_free (wc := ([(q, .inr (6, [.null, .null, .null, .null, .null, .int 0, .int 0]))] : va_W)) hD hS hA [0] rfl
  refine va_callv (va_runI (As := []) (rest := [.ref q]) ⟨hx, hb, hml, hown, hts⟩ (y_Seven l D cy q H.size) (cwI 0 hts (gw_ws y_e5) rfl rfl rfl (hts _ y_e6) (hts _ y_e3) (hts _ y_e4) rfl (by decide +kernel) ⟨Nat.le_of_ble_eq_true rfl, Nat.le_of_ble_eq_true rfl⟩) ⟨fun a U g mk q => by obtain ⟨q0, q1, qP, qK, qD, qN, qO, qC⟩ := q; exact ⟨q0, q1, qP, va_K.moved (u := U) (U := U.calling g mk a) (Vm.Alike.refl U.vm) qK, qD, NW.same rfl qN, va_AO.moved (u := U) (U := U.calling g mk a) (Vm.Alike.refl U.vm) qO, y_NC.same rfl qC⟩, fun U hU hW => ⟨rfl, by rw [hU], by rw [hU]; exact hP, va_K.moved hW.alike hK, hD.weaken (fun _ _ _ _ => trivial), hN.warm hW, va_AO.moved hW.alike hO, hC.warm hW⟩⟩ rfl rfl hl.1 rfl (lv_room (Nat.le_of_ble_eq_true rfl)) dL_law_4 ⟨Nat.le_of_ble_eq_true rfl, Nat.le_of_ble_eq_true rfl⟩) hS (fun q _ h => hFc q h) hFc (fun u t H1 locs ht hvm hw hB hz1 hk1 hS => ?_)
  obtain ⟨hP1, hK1, hD1⟩ := hB
  rw [ht] at hP1
  have hP : va_P D vwCl (y_w7 D cy q u) H1 := hP1
  have hD : va_D A (y_w7 D cy q u) := hD1.weaken (fun k q9 _ h9 => hFc q9.1 h9)
  generalize H1 = H at hP hS ⊢
  refine W.widen (k := 101) (n := 1471) (by omega) (by omega) ?_
  refine lv_astore_n (lv' := [(1, .ref q), (0, .ref b)]) hx hb dL_law_7 rfl hl (by decide) rfl (fun ls hl => ?_)
  refine va_new (ci := 6) (fs := [.null, .null, .null, .null, .null, .int 0, .int 0]) (C := RX6) (T := TX6) (N := 7) hx hb hts inA6 tyX6 tyX6_ok hown (hts _ y_e1) (hts _ y_e2) (hts _ y_e6) hK hP hD hS hA rfl (fun j hj => by rcases (show j = 0 ∨ j = 1 ∨ j = 2 ∨ j = 3 ∨ j = 4 ∨ j = 5 ∨ j = 6 by omega) with rfl | rfl | rfl | rfl | rfl | rfl | rfl <;> rfl) (Nat.le_of_ble_eq_true rfl) (Nat.le_of_ble_eq_true rfl) dL_law_8 (fun qm H hP hD hS => ?_)
  have hP := y_Pperm List.perm_append_comm hP
  have hD := y_Dperm List.perm_append_comm hD
  have hP : va_P D vwCl (([(qm, .inr (6, [.null, .null, .null, .null, .null, .int 0, .int 0]))] : va_W) ++ y_w7 D cy q u) H := hP
  have hD : va_D A (([(qm, .inr (6, [.null, .null, .null, .null, .null, .int 0, .int 0]))] : va_W) ++ y_w7 D cy q u) := hD
  refine W.widen (k := 102) (n := 1478) (by omega) (by omega) ?_
  refine lv_dup hx hb dL_law_11 rfl ?_
  have hPc := hP.sub (ws' := ([(qm, .inr (6, [.null, .null, .null, .null, .null, .int 0, .int 0]))] : va_W)) [0] rfl
  have hDc := hD.sub (ws' := ([(qm, .inr (6, [.null, .null, .null, .null, .null, .int 0, .int 0]))] : va_W)) [0] (by decide) rfl
  have hFc := va_free (wc := ([(qm, .inr (6, [.null, .null, .null, .null, .null, .int 0, .int 0]))] : va_W)) hD hS hA [0] rfl
  refine va_callv (va_runI (As := []) (rest := [.ref qm]) ⟨hx, hb, hml, hown, hts⟩ (y_Seven l D cy qm H.size) (cwI 0 hts (gw_ws y_e5) rfl rfl rfl (hts _ y_e6) (hts _ y_e3) (hts _ y_e4) rfl (by decide +kernel) ⟨Nat.le_of_ble_eq_true rfl, Nat.le_of_ble_eq_true rfl⟩) ⟨fun a U g mk q => by obtain ⟨q0, q1, qP, qK, qD, qN, qO, qC⟩ := q; exact ⟨q0, q1, qP, va_K.moved (u := U) (U := U.calling g mk a) (Vm.Alike.refl U.vm) qK, qD, NW.same rfl qN, va_AO.moved (u := U) (U := U.calling g mk a) (Vm.Alike.refl U.vm) qO, y_NC.same rfl qC⟩, fun U hU hW => ⟨rfl, by rw [hU], by rw [hU]; exact hPc, va_K.moved hW.alike hK, hDc.weaken (fun _ _ _ _ => trivial), hN.warm hW, va_AO.moved hW.alike hO, hC.warm hW⟩⟩ rfl rfl hl.1 rfl (lv_room (Nat.le_of_ble_eq_true rfl)) dL_law_12 ⟨Nat.le_of_ble_eq_true rfl, Nat.le_of_ble_eq_true rfl⟩) hS (fun q _ h => hFc q h) hFc (fun v t H1 locs ht hvm hw hB hz1 hk1 hS => ?_)
  obtain ⟨hP1, hK1, hD1⟩ := hB
  rw [ht] at hP1
  obtain ⟨hP, hD⟩ := va_joinQ (X := ([(qm, .inr (6, [.null, .null, .null, .null, .null, .int 0, .int 0]))] : va_W)) (wr := []) (w1 := y_w7 D cy qm v) (pl := y_w7 D cy q u) hP hD [0] [] rfl rfl (by decide) (by decide) hk1 hFc hP1 hD1
  generalize H1 = H at hP hS ⊢
  refine W.widen (k := 202) (n := 2942) (by omega) (by omega) ?_
  refine lv_astore_n (lv' := [(2, .ref qm), (1, .ref q), (0, .ref b)]) hx hb dL_law_15 rfl hl (by decide) rfl (fun ls hl => ?_)
  refine lv_iconst (v := 1) hx hb dL_law_16 (by decide) ?_
  refine va_newa (atype := .int) (ty := .int) (N' := 1) (a0 := (1, .inl (fun _ => 0))) hx hb (hts _ z_o5) rfl hK hP hD hS hA (fun _ => rfl) (by decide) (by decide) (by decide) (Nat.le_of_ble_eq_true rfl) (Nat.le_of_ble_eq_true rfl) dL_law_17 (fun o cA H hK hP hD hS => ?_)
  have ec : cA = cy 0 := Option.some.inj ((va_nm_int (hK.2 3 _ rfl).2).symm.trans (va_nm_int (hK.2 0 _ rfl).2))
  subst ec
  have hK := hK.sub (tys' := z_ty cy) [0, 1, 2] rfl
  have hP : va_P D vwCl (y_all D cy q u qm v o) H := hP
  have hD : va_D A (y_all D cy q u qm v o) := hD
  have hP := y_mergeP hP
  have hD := y_mergeD hD
  refine W.widen (k := 203) (n := 2943) (by omega) (by omega) ?_
  refine lv_astore_n (lv' := [(3, .ref o), (2, .ref qm), (1, .ref q), (0, .ref b)]) hx hb dL_law_19 rfl hl (by decide) rfl (fun ls hl => ?_)
  refine lv_iconst (v := 0) hx hb dL_law_20 (by decide) ?_
  refine lv_istore (lv' := [(4, .int 0), (3, .ref o), (2, .ref qm), (1, .ref q), (0, .ref b)]) hx hb dL_law_21 hl (by decide) rfl (fun ls hl => ?_)
  have hl : lv_has ls 11 [(0, .ref b), (1, .ref q), (2, .ref qm), (3, .ref o), (4, .int 0)] := lv_sub hl [4, 3, 2, 1, 0] rfl
  have a0 : y_ad q u qm v o 0 = q := rfl
  have a1 : y_ad q u qm v o 101 = qm := rfl
  have a2 : y_ad q u qm v o 202 = o := rfl
  generalize y_ad q u qm v o = ad at hP hD a0 a1 a2
  subst hAe
  have C : CT p s m #[Value.ref b] meth c cL_law 11 RL (some .boolean) (y_G D cy ad) (fun q => s.heap.size ≤ q) := ⟨hx, hb, hml, hown, hts, hK, z_DD hD List.nodup_range (y_CL D cy ad), hA, hr, hlocks, hN⟩
  have hw := wL_law_b23 (e := e) (below := below) C hT hst (rfl : SW (y_G D cy ad)) hX hbl FU 0 y_x0 (zw_law hL y_R1 y_R2) 203 2943 (by decide) (by decide)
  refine hw H locs ls ?_ hP hS
  show lv_has ls 11 [(0, .ref b), (1, .ref (ad 0)), (2, .ref (ad 101)), (3, .ref (ad 202)), (4, .int 0)]
  rw [a0, a1, a2]
  exact hl
