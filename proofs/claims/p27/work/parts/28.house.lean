theorem z_r1 : Cond.methodLink RX3 3 objectInit ∈ AW := AW_of (by decide +kernel) (by decide +kernel)
theorem z_r2 : Cond.classLink RX3 9 RX4 ∈ AW := AW_of (by decide +kernel) (by decide +kernel)
theorem z_r3 : Cond.instantiable RX4 2 ∈ AW := AW_of (by decide +kernel) (by decide +kernel)
theorem z_r4 : Cond.methodLink RX3 11 yX4_init ∈ AW := AW_of (by decide +kernel) (by decide +kernel)
theorem z_r5 : Cond.instanceMethod yX4_init ∈ AW := AW_of (by decide +kernel) (by decide +kernel)
theorem z_r6 : Cond.code yX4_init cX4_init 1 none ∈ AW := AW_of (by decide +kernel) (by decide +kernel)
theorem z_r7 : Cond.classLink RX3 18 RX2 ∈ AW := AW_of (by decide +kernel) (by decide +kernel)
theorem z_r8 : Cond.methodLink RX3 20 yX2_init ∈ AW := AW_of (by decide +kernel) (by decide +kernel)
theorem z_r9 : Cond.fieldLink RX3 30 "SevenAsks$House" "reasons" "LSevenAsks$Grid;" ∈ AW := AW_of (by decide +kernel) (by decide +kernel)
def y_L10 : List Nat := [1, 2, 3, 4, 5, 6, 7, 8, 9, 10]
def z_GH (D : va_G) (cy : Nat → ClassId) (ad : Nat → Nat) : gT := (D, (cy, y_L10), ad)
def z_lod (j : Nat) : Nat → Int32 := fun k => if k < 7 * j ∧ k % 7 = 0 then z_I (k / 7) else 0
def z_xL (j : Nat) : xS := upR z_xN 6 (z_lod j)
def z_xH : xS := up1 (z_xL 10) 8 9 3
theorem z_xL0 : z_xL 0 = z_xN := by
  refine Prod.ext (funext fun i => funext fun k => ?_) rfl
  unfold z_xL
  rw [z_upR_at]
  by_cases h : i = 6
  · rw [if_pos h, h]; unfold z_lod; rw [if_neg (by omega)]; rfl
  · rw [if_neg h]
theorem z_putL {j : Nat} (hj : j < 10) : fX2_put 5 (z_I j) 0 (z_I j) (z_xL j) = some (z_xL (j + 1)) := by
  rw [z_L0, z_gput (R := 10) (C := 7) rfl rfl rfl hj (by omega) (by omega) (by omega)]
  refine congrArg some (Prod.ext (funext fun i => funext fun k => ?_) rfl)
  rw [z_up1_at]
  unfold z_xL
  rw [z_upR_at, z_upR_at]
  by_cases h : i = 6
  · rw [if_pos h, if_pos h]
    unfold z_lod
    by_cases hk : k = j * 7 + 0
    · rw [if_pos ⟨h, hk⟩, if_pos (by omega), show k / 7 = j by omega]
    · rw [if_neg (fun w => hk w.2)]
      by_cases h2 : k < 7 * j ∧ k % 7 = 0
      · rw [if_pos h2, if_pos (by omega)]
      · rw [if_neg h2, if_neg (by omega)]
  · rw [if_neg (fun w => h w.1), if_neg h, if_neg h]
theorem y_putA : fX2_put 7 0 9 3 (z_xL 10) = some z_xH := by
  rw [z_L0, show (9 : Int32) = z_I 9 from rfl, z_gput (R := 1) (C := 12) rfl rfl rfl (by omega) (by omega) (by omega) (by omega)]
  rfl
theorem z_clH (D : va_G) (cy : Nat → ClassId) (ad : Nat → Nat) : CL (z_GH D cy ad) := by
  intro i hi
  have hi : i ∈ y_L10 := hi
  unfold y_L10 at hi
  simp only [List.mem_cons, List.not_mem_nil, or_false] at hi
  show i < 203 ∧ (kd i = 0 → i + 1 ∈ y_L10) ∧ (kd i = 1 → i + 1 ∈ y_L10) ∧ (kd i = 2 → i + 1 ∈ y_L10) ∧ (kd i = 3 → i + 1 ∈ y_L10 ∧ i + 4 ∈ y_L10 ∧ i + 6 ∈ y_L10 ∧ i + 8 ∈ y_L10) ∧ (kd i = 4 → i + 1 ∈ y_L10) ∧ (kd i = 5 → i + 1 ∈ y_L10 ∧ i + 2 ∈ y_L10) ∧ (kd i = 6 → i + 1 ∈ y_L10 ∧ i + 11 ∈ y_L10 ∧ i + 34 ∈ y_L10 ∧ i + 97 ∈ y_L10 ∧ i + 99 ∈ y_L10) ∧ (kd i = 7 → True) ∧ (kd i = 10 → ∀ k, k < ln i → i + 2 + 10 * k ∈ y_L10)
  rcases hi with rfl | rfl | rfl | rfl | rfl | rfl | rfl | rfl | rfl | rfl
  · exact ⟨by decide, by decide, by decide, by decide, by decide, by decide, by decide, by decide, by decide, fun h => absurd h (by decide)⟩
  · exact ⟨by decide, by decide, by decide, by decide, by decide, by decide, by decide, by decide, by decide, fun h => absurd h (by decide)⟩
  · exact ⟨by decide, by decide, by decide, by decide, by decide, by decide, by decide, by decide, by decide, fun h => absurd h (by decide)⟩
  · exact ⟨by decide, by decide, by decide, by decide, by decide, by decide, by decide, by decide, by decide, fun h => absurd h (by decide)⟩
  · exact ⟨by decide, by decide, by decide, by decide, by decide, by decide, by decide, by decide, by decide, fun h => absurd h (by decide)⟩
  · exact ⟨by decide, by decide, by decide, by decide, by decide, by decide, by decide, by decide, by decide, fun h => absurd h (by decide)⟩
  · exact ⟨by decide, by decide, by decide, by decide, by decide, by decide, by decide, by decide, by decide, fun h => absurd h (by decide)⟩
  · exact ⟨by decide, by decide, by decide, by decide, by decide, by decide, by decide, by decide, by decide, fun h => absurd h (by decide)⟩
  · exact ⟨by decide, by decide, by decide, by decide, by decide, by decide, by decide, by decide, by decide, fun h => absurd h (by decide)⟩
  · exact ⟨by decide, by decide, by decide, by decide, by decide, by decide, by decide, by decide, by decide, fun h => absurd h (by decide)⟩
set_option maxHeartbeats 8000000 in
set_option maxRecDepth 100000 in
theorem y_House (l : Launch) (D : va_G) (cy : Nat → ClassId) (h0 sz : Nat) : Met l yX3_init (ws_ yX3_init cX3_init 2 none) ({ frames := 6, cells := 9, slots := 149, locals := 160 }) (va_Pc [.ref h0] (fun U => U.heap.size = sz ∧ va_P D vwCl [(h0, .inr (3, [.null, .null, .null, .null]))] U.heap ∧ va_K D vwCl (z_ty cy) U ∧ va_D (fun _ => True) [(h0, .inr (3, [.null, .null, .null, .null]))] ∧ NW U)) (va_Qv (fun _ : Nat → Nat => True) (fun ad t => ad 1 = h0 ∧ va_P D vwCl (wl (z_GH D cy ad) z_xH) t.heap ∧ va_K D vwCl (z_ty cy) t ∧ va_D (va_A [(h0, .inr (3, [.null, .null, .null, .null]))] sz) (wl (z_GH D cy ad) z_xH)) (va_A [(h0, .inr (3, [.null, .null, .null, .null]))] sz)) 9 149 (va_A [(h0, .inr (3, [.null, .null, .null, .null]))] sz) := by
  refine Met.ofW (cc := cX3_init) (maxL := 2) (ret := none) (by decide) rfl ?_
  intro p e s m args below meth co s₁ B hml hv
  obtain ⟨rfl, hsz, hP, hK, hD0, hN⟩ := hv
  have hx := B.exec
  have hb := B.bytes
  have hr := B.returns
  have hts0 := atoms_spec (ws := ws_ yX3_init cX3_init 2 none) B.pre
  have hts : ∀ w ∈ AW, w.before _ s = true := fun w hw => hts0 w (List.mem_cons_of_mem _ hw)
  have hown : s.vm.findClass RX3 = some m.cls := findClass_of_methodNamed B.named
  have hlocks := B.notSynchronized
  have hin : meth.name = "<init>" := (name_of_methodNamed B.named B.method).1
  subst hsz
  have hD := hD0.self (sz := s.heap.size)
  generalize hAe : va_A [(h0, .inr (3, [.null, .null, .null, .null]))] s.heap.size = A at hD ⊢
  have hA : ∀ q : Nat, s.heap.size ≤ q → A q := fun q h => by rw [← hAe]; exact Or.inr h
  have hS : va_S A s.heap s.heap [] := va_S.rf
  have hP : va_P D vwCl [(h0, .inr (3, [.null, .null, .null, .null]))] s.heap := hP
  have hl := lv_entry ([.ref h0]) (n := 2) (Nat.le_of_ble_eq_true rfl)
  rw [lg_entry_eq]
  generalize (lg_sl ([.ref h0]) ++ List.replicate (2 - (lg_sl ([.ref h0])).length) Slot.unset).toArray = ls at hl ⊢
  have hl : lv_has ls 2 [(0, .ref h0)] := hl
  refine lv_aload_n hx hb dX3_init_0 rfl (lv_at hl 0 rfl) ?_
  refine W.objInit hx hb hown (hts _ z_r1) (hts _ z_o2) (hts _ z_o3) rfl (by rw [hml]; exact hl.1) rfl dX3_init_1 (Nat.le_of_ble_eq_true rfl) (Nat.le_of_ble_eq_true rfl) ?_
  refine W.eq (g2 := F0 m 4 ls []) rfl ?_
  refine lv_aload_n hx hb dX3_init_4 rfl (lv_at hl 0 rfl) ?_
  refine va_new (ci := 4) (fs := [.null, .int 0]) (C := RX4) (T := TX4) (N := 2) hx hb hts inA4 tyX4 tyX4_ok hown (hts _ z_r2) (hts _ z_r3) (hts _ w_20) hK hP hD hS hA rfl (fun j hj => by rcases (show j = 0 ∨ j = 1 by omega) with rfl | rfl <;> rfl) (Nat.le_of_ble_eq_true rfl) (Nat.le_of_ble_eq_true rfl) dX3_init_5 (fun q1 H hP hD hS => ?_)
  have hP : va_P D vwCl [(h0, .inr (3, [.null, .null, .null, .null])), (q1, .inr (4, [.null, .int 0]))] H := hP
  have hD : va_D A [(h0, .inr (3, [.null, .null, .null, .null])), (q1, .inr (4, [.null, .int 0]))] := hD
  refine W.widen (k := 1) (n := 2) (by omega) (by omega) ?_
  refine lv_dup hx hb dX3_init_8 rfl ?_
  have hPc := hP.sub (ws' := [(q1, .inr (4, [.null, .int 0]))]) [1] rfl
  have hDc := hD.sub (ws' := [(q1, .inr (4, [.null, .int 0]))]) [1] (by decide) rfl
  have hFc := va_free (wc := [(q1, .inr (4, [.null, .int 0]))]) hD hS hA [1] rfl
  refine va_callv (va_runI (As := []) (rest := [.ref q1, .ref h0]) ⟨hx, hb, hml, hown, hts⟩ (z_Night l D cy q1 H.size) (cwI 0 hts (gw_ws z_r6) rfl rfl rfl (hts _ w_20) (hts _ z_r4) (hts _ z_r5) rfl (by decide +kernel) ⟨Nat.le_of_ble_eq_true rfl, Nat.le_of_ble_eq_true rfl⟩) ⟨fun a U g mk q => by obtain ⟨q0, q1, qP, qK, qD, qN⟩ := q; exact ⟨q0, q1, qP, va_K.moved (u := U) (U := U.calling g mk a) (Vm.Alike.refl U.vm) qK, qD, NW.same rfl qN⟩, fun U hU hW => ⟨rfl, by rw [hU], by rw [hU]; exact hPc, va_K.moved hW.alike hK, hDc.weaken (fun _ _ _ _ => trivial), hN.warm hW⟩⟩ rfl rfl hl.1 rfl (lv_room (Nat.le_of_ble_eq_true rfl)) dX3_init_9 ⟨Nat.le_of_ble_eq_true rfl, Nat.le_of_ble_eq_true rfl⟩) hS (fun q _ h => hFc q h) hFc (fun ⟨q2, q3⟩ t H1 locs ht hvm hw hB hz1 hk1 hS => ?_)
  obtain ⟨hP1, hK1, hD1⟩ := hB
  rw [ht] at hP1
  obtain ⟨hP, hD⟩ := va_join (wr := [(h0, .inr (3, [.null, .null, .null, .null]))]) (w1 := z_ni cy z_hol q1 q2 q3) hP hD [1] [0] rfl rfl (by decide) (by decide) hk1 hFc hP1 hD1
  generalize H1 = H at hP hS ⊢
  have hP : va_P D vwCl [(h0, .inr (3, [.null, .null, .null, .null])), (q1, .inr (4, [.ref q2, .int 0])), (q2, .inr (2, [.int 4, .int 12, .ref q3])), (q3, .inl (cy 0, 48, .inl z_hol))] H := hP
  have hD : va_D A [(h0, .inr (3, [.null, .null, .null, .null])), (q1, .inr (4, [.ref q2, .int 0])), (q2, .inr (2, [.int 4, .int 12, .ref q3])), (q3, .inl (cy 0, 48, .inl z_hol))] := hD
  refine va_putF (D := D) (ci := 3) (v := .ref q1) (ty := .object "SevenAsks$Night") (C := RX3) (T := TX3) (N := 4) hx hb hts inA3 tyX3 tyX3_ok nmX3 hown hK hP hD hS 0 rfl rfl 0 (by decide) (hts _ w_47) (fun _ h9 => h9) rfl hin rfl (by decide +kernel) rfl rfl (Nat.le_of_ble_eq_true rfl) dX3_init_12 (fun H locs hP hD hS => ?_)
  have hP : va_P D vwCl [(h0, .inr (3, [.ref q1, .null, .null, .null])), (q1, .inr (4, [.ref q2, .int 0])), (q2, .inr (2, [.int 4, .int 12, .ref q3])), (q3, .inl (cy 0, 48, .inl z_hol))] H := hP
  have hD : va_D A [(h0, .inr (3, [.ref q1, .null, .null, .null])), (q1, .inr (4, [.ref q2, .int 0])), (q2, .inr (2, [.int 4, .int 12, .ref q3])), (q3, .inl (cy 0, 48, .inl z_hol))] := hD
  refine lv_aload_n hx hb dX3_init_15 rfl (lv_at hl 0 rfl) ?_
  refine va_new (ci := 2) (fs := [.int 0, .int 0, .null]) (C := RX2) (T := TX2) (N := 3) hx hb hts inA2 tyX2 tyX2_ok hown (hts _ z_r7) (hts _ z_q3) (hts _ w_15) hK hP hD hS hA rfl (fun j hj => by rcases (show j = 0 ∨ j = 1 ∨ j = 2 by omega) with rfl | rfl | rfl <;> rfl) (Nat.le_of_ble_eq_true rfl) (Nat.le_of_ble_eq_true rfl) dX3_init_16 (fun q4 H hP hD hS => ?_)
  have hP : va_P D vwCl [(h0, .inr (3, [.ref q1, .null, .null, .null])), (q1, .inr (4, [.ref q2, .int 0])), (q2, .inr (2, [.int 4, .int 12, .ref q3])), (q3, .inl (cy 0, 48, .inl z_hol)), (q4, .inr (2, [.int 0, .int 0, .null]))] H := hP
  have hD : va_D A [(h0, .inr (3, [.ref q1, .null, .null, .null])), (q1, .inr (4, [.ref q2, .int 0])), (q2, .inr (2, [.int 4, .int 12, .ref q3])), (q3, .inl (cy 0, 48, .inl z_hol)), (q4, .inr (2, [.int 0, .int 0, .null]))] := hD
  refine W.widen (k := 4) (n := 56) (by omega) (by omega) ?_
  refine lv_dup hx hb dX3_init_19 rfl ?_
  refine lv_bipush (v := 10) hx hb dX3_init_20 (by decide) ?_
  refine lv_bipush (v := 7) hx hb dX3_init_22 (by decide) ?_
  have hPc := hP.sub (ws' := [(q4, .inr (2, [.int 0, .int 0, .null]))]) [4] rfl
  have hDc := hD.sub (ws' := [(q4, .inr (2, [.int 0, .int 0, .null]))]) [4] (by decide) rfl
  have hFc := va_free (wc := [(q4, .inr (2, [.int 0, .int 0, .null]))]) hD hS hA [4] rfl
  refine va_callv (va_runI (As := [.int 10, .int 7]) (rest := [.ref q4, .ref h0]) ⟨hx, hb, hml, hown, hts⟩ (z_Grid l D cy q4 H.size (r := 10) (c := 7) (N := 70) (by decide) (by decide) (by decide) (by decide) (by decide)) (cwI 2 hts (gw_ws z_q6) rfl rfl rfl (hts _ w_15) (hts _ z_r8) (hts _ z_q5) rfl (by decide +kernel) ⟨Nat.le_of_ble_eq_true rfl, Nat.le_of_ble_eq_true rfl⟩) ⟨fun a U g mk q => by obtain ⟨q0, q1, qP, qK, qD⟩ := q; exact ⟨q0, q1, qP, va_K.moved (u := U) (U := U.calling g mk a) (Vm.Alike.refl U.vm) qK, qD⟩, fun U hU hW => ⟨rfl, by rw [hU], by rw [hU]; exact hPc, va_K.moved hW.alike hK, hDc.weaken (fun _ _ _ _ => trivial)⟩⟩ rfl rfl hl.1 rfl (lv_room (Nat.le_of_ble_eq_true rfl)) dX3_init_24 ⟨Nat.le_of_ble_eq_true rfl, Nat.le_of_ble_eq_true rfl⟩) hS (fun q _ h => hFc q h) hFc (fun q5 t H1 locs ht hvm hw hB hz1 hk1 hS => ?_)
  obtain ⟨hP1, hK1, hD1⟩ := hB
  rw [ht] at hP1
  obtain ⟨hP, hD⟩ := va_join (wr := [(h0, .inr (3, [.ref q1, .null, .null, .null])), (q1, .inr (4, [.ref q2, .int 0])), (q2, .inr (2, [.int 4, .int 12, .ref q3])), (q3, .inl (cy 0, 48, .inl z_hol))]) (w1 := z_gr cy 10 7 70 (fun _ => 0) q4 q5) hP hD [4] [0, 1, 2, 3] rfl rfl (by decide) (by decide) hk1 hFc hP1 hD1
  generalize H1 = H at hP hS ⊢
  have hP : va_P D vwCl [(h0, .inr (3, [.ref q1, .null, .null, .null])), (q1, .inr (4, [.ref q2, .int 0])), (q2, .inr (2, [.int 4, .int 12, .ref q3])), (q3, .inl (cy 0, 48, .inl z_hol)), (q4, .inr (2, [.int 10, .int 7, .ref q5])), (q5, .inl (cy 0, 70, .inl (fun _ => 0)))] H := hP
  have hD : va_D A [(h0, .inr (3, [.ref q1, .null, .null, .null])), (q1, .inr (4, [.ref q2, .int 0])), (q2, .inr (2, [.int 4, .int 12, .ref q3])), (q3, .inl (cy 0, 48, .inl z_hol)), (q4, .inr (2, [.int 10, .int 7, .ref q5])), (q5, .inl (cy 0, 70, .inl (fun _ => 0)))] := hD
  refine va_putF (D := D) (ci := 3) (v := .ref q4) (ty := .object "SevenAsks$Grid") (C := RX3) (T := TX3) (N := 4) hx hb hts inA3 tyX3 tyX3_ok nmX3 hown hK hP hD hS 0 rfl rfl 1 (by decide) (hts _ w_73) (fun _ h9 => h9) rfl hin rfl (by decide +kernel) rfl rfl (Nat.le_of_ble_eq_true rfl) dX3_init_27 (fun H locs hP hD hS => ?_)
  have hP : va_P D vwCl [(h0, .inr (3, [.ref q1, .ref q4, .null, .null])), (q1, .inr (4, [.ref q2, .int 0])), (q2, .inr (2, [.int 4, .int 12, .ref q3])), (q3, .inl (cy 0, 48, .inl z_hol)), (q4, .inr (2, [.int 10, .int 7, .ref q5])), (q5, .inl (cy 0, 70, .inl (fun _ => 0)))] H := hP
  have hD : va_D A [(h0, .inr (3, [.ref q1, .ref q4, .null, .null])), (q1, .inr (4, [.ref q2, .int 0])), (q2, .inr (2, [.int 4, .int 12, .ref q3])), (q3, .inl (cy 0, 48, .inl z_hol)), (q4, .inr (2, [.int 10, .int 7, .ref q5])), (q5, .inl (cy 0, 70, .inl (fun _ => 0)))] := hD
  refine lv_aload_n hx hb dX3_init_30 rfl (lv_at hl 0 rfl) ?_
  refine va_new (ci := 2) (fs := [.int 0, .int 0, .null]) (C := RX2) (T := TX2) (N := 3) hx hb hts inA2 tyX2 tyX2_ok hown (hts _ z_r7) (hts _ z_q3) (hts _ w_15) hK hP hD hS hA rfl (fun j hj => by rcases (show j = 0 ∨ j = 1 ∨ j = 2 by omega) with rfl | rfl | rfl <;> rfl) (Nat.le_of_ble_eq_true rfl) (Nat.le_of_ble_eq_true rfl) dX3_init_31 (fun q6 H hP hD hS => ?_)
  have hP : va_P D vwCl [(h0, .inr (3, [.ref q1, .ref q4, .null, .null])), (q1, .inr (4, [.ref q2, .int 0])), (q2, .inr (2, [.int 4, .int 12, .ref q3])), (q3, .inl (cy 0, 48, .inl z_hol)), (q4, .inr (2, [.int 10, .int 7, .ref q5])), (q5, .inl (cy 0, 70, .inl (fun _ => 0))), (q6, .inr (2, [.int 0, .int 0, .null]))] H := hP
  have hD : va_D A [(h0, .inr (3, [.ref q1, .ref q4, .null, .null])), (q1, .inr (4, [.ref q2, .int 0])), (q2, .inr (2, [.int 4, .int 12, .ref q3])), (q3, .inl (cy 0, 48, .inl z_hol)), (q4, .inr (2, [.int 10, .int 7, .ref q5])), (q5, .inl (cy 0, 70, .inl (fun _ => 0))), (q6, .inr (2, [.int 0, .int 0, .null]))] := hD
  refine W.widen (k := 6) (n := 129) (by omega) (by omega) ?_
  refine lv_dup hx hb dX3_init_34 rfl ?_
  refine lv_iconst (v := 1) hx hb dX3_init_35 (by decide) ?_
  refine lv_bipush (v := 12) hx hb dX3_init_36 (by decide) ?_
  have hPc := hP.sub (ws' := [(q6, .inr (2, [.int 0, .int 0, .null]))]) [6] rfl
  have hDc := hD.sub (ws' := [(q6, .inr (2, [.int 0, .int 0, .null]))]) [6] (by decide) rfl
  have hFc := va_free (wc := [(q6, .inr (2, [.int 0, .int 0, .null]))]) hD hS hA [6] rfl
  refine va_callv (va_runI (As := [.int 1, .int 12]) (rest := [.ref q6, .ref h0]) ⟨hx, hb, hml, hown, hts⟩ (z_Grid l D cy q6 H.size (r := 1) (c := 12) (N := 12) (by decide) (by decide) (by decide) (by decide) (by decide)) (cwI 2 hts (gw_ws z_q6) rfl rfl rfl (hts _ w_15) (hts _ z_r8) (hts _ z_q5) rfl (by decide +kernel) ⟨Nat.le_of_ble_eq_true rfl, Nat.le_of_ble_eq_true rfl⟩) ⟨fun a U g mk q => by obtain ⟨q0, q1, qP, qK, qD⟩ := q; exact ⟨q0, q1, qP, va_K.moved (u := U) (U := U.calling g mk a) (Vm.Alike.refl U.vm) qK, qD⟩, fun U hU hW => ⟨rfl, by rw [hU], by rw [hU]; exact hPc, va_K.moved hW.alike hK, hDc.weaken (fun _ _ _ _ => trivial)⟩⟩ rfl rfl hl.1 rfl (lv_room (Nat.le_of_ble_eq_true rfl)) dX3_init_38 ⟨Nat.le_of_ble_eq_true rfl, Nat.le_of_ble_eq_true rfl⟩) hS (fun q _ h => hFc q h) hFc (fun q7 t H1 locs ht hvm hw hB hz1 hk1 hS => ?_)
  obtain ⟨hP1, hK1, hD1⟩ := hB
  rw [ht] at hP1
  obtain ⟨hP, hD⟩ := va_join (wr := [(h0, .inr (3, [.ref q1, .ref q4, .null, .null])), (q1, .inr (4, [.ref q2, .int 0])), (q2, .inr (2, [.int 4, .int 12, .ref q3])), (q3, .inl (cy 0, 48, .inl z_hol)), (q4, .inr (2, [.int 10, .int 7, .ref q5])), (q5, .inl (cy 0, 70, .inl (fun _ => 0)))]) (w1 := z_gr cy 1 12 12 (fun _ => 0) q6 q7) hP hD [6] [0, 1, 2, 3, 4, 5] rfl rfl (by decide) (by decide) hk1 hFc hP1 hD1
  generalize H1 = H at hP hS ⊢
  have hP : va_P D vwCl [(h0, .inr (3, [.ref q1, .ref q4, .null, .null])), (q1, .inr (4, [.ref q2, .int 0])), (q2, .inr (2, [.int 4, .int 12, .ref q3])), (q3, .inl (cy 0, 48, .inl z_hol)), (q4, .inr (2, [.int 10, .int 7, .ref q5])), (q5, .inl (cy 0, 70, .inl (fun _ => 0))), (q6, .inr (2, [.int 1, .int 12, .ref q7])), (q7, .inl (cy 0, 12, .inl (fun _ => 0)))] H := hP
  have hD : va_D A [(h0, .inr (3, [.ref q1, .ref q4, .null, .null])), (q1, .inr (4, [.ref q2, .int 0])), (q2, .inr (2, [.int 4, .int 12, .ref q3])), (q3, .inl (cy 0, 48, .inl z_hol)), (q4, .inr (2, [.int 10, .int 7, .ref q5])), (q5, .inl (cy 0, 70, .inl (fun _ => 0))), (q6, .inr (2, [.int 1, .int 12, .ref q7])), (q7, .inl (cy 0, 12, .inl (fun _ => 0)))] := hD
  refine va_putF (D := D) (ci := 3) (v := .ref q6) (ty := .object "SevenAsks$Grid") (C := RX3) (T := TX3) (N := 4) hx hb hts inA3 tyX3 tyX3_ok nmX3 hown hK hP hD hS 0 rfl rfl 2 (by decide) (hts _ w_45) (fun _ h9 => h9) rfl hin rfl (by decide +kernel) rfl rfl (Nat.le_of_ble_eq_true rfl) dX3_init_41 (fun H locs hP hD hS => ?_)
  have hP : va_P D vwCl [(h0, .inr (3, [.ref q1, .ref q4, .ref q6, .null])), (q1, .inr (4, [.ref q2, .int 0])), (q2, .inr (2, [.int 4, .int 12, .ref q3])), (q3, .inl (cy 0, 48, .inl z_hol)), (q4, .inr (2, [.int 10, .int 7, .ref q5])), (q5, .inl (cy 0, 70, .inl (fun _ => 0))), (q6, .inr (2, [.int 1, .int 12, .ref q7])), (q7, .inl (cy 0, 12, .inl (fun _ => 0)))] H := hP
  have hD : va_D A [(h0, .inr (3, [.ref q1, .ref q4, .ref q6, .null])), (q1, .inr (4, [.ref q2, .int 0])), (q2, .inr (2, [.int 4, .int 12, .ref q3])), (q3, .inl (cy 0, 48, .inl z_hol)), (q4, .inr (2, [.int 10, .int 7, .ref q5])), (q5, .inl (cy 0, 70, .inl (fun _ => 0))), (q6, .inr (2, [.int 1, .int 12, .ref q7])), (q7, .inl (cy 0, 12, .inl (fun _ => 0)))] := hD
  refine lv_aload_n hx hb dX3_init_44 rfl (lv_at hl 0 rfl) ?_
  refine va_new (ci := 2) (fs := [.int 0, .int 0, .null]) (C := RX2) (T := TX2) (N := 3) hx hb hts inA2 tyX2 tyX2_ok hown (hts _ z_r7) (hts _ z_q3) (hts _ w_15) hK hP hD hS hA rfl (fun j hj => by rcases (show j = 0 ∨ j = 1 ∨ j = 2 by omega) with rfl | rfl | rfl <;> rfl) (Nat.le_of_ble_eq_true rfl) (Nat.le_of_ble_eq_true rfl) dX3_init_45 (fun q8 H hP hD hS => ?_)
  have hP : va_P D vwCl [(h0, .inr (3, [.ref q1, .ref q4, .ref q6, .null])), (q1, .inr (4, [.ref q2, .int 0])), (q2, .inr (2, [.int 4, .int 12, .ref q3])), (q3, .inl (cy 0, 48, .inl z_hol)), (q4, .inr (2, [.int 10, .int 7, .ref q5])), (q5, .inl (cy 0, 70, .inl (fun _ => 0))), (q6, .inr (2, [.int 1, .int 12, .ref q7])), (q7, .inl (cy 0, 12, .inl (fun _ => 0))), (q8, .inr (2, [.int 0, .int 0, .null]))] H := hP
  have hD : va_D A [(h0, .inr (3, [.ref q1, .ref q4, .ref q6, .null])), (q1, .inr (4, [.ref q2, .int 0])), (q2, .inr (2, [.int 4, .int 12, .ref q3])), (q3, .inl (cy 0, 48, .inl z_hol)), (q4, .inr (2, [.int 10, .int 7, .ref q5])), (q5, .inl (cy 0, 70, .inl (fun _ => 0))), (q6, .inr (2, [.int 1, .int 12, .ref q7])), (q7, .inl (cy 0, 12, .inl (fun _ => 0))), (q8, .inr (2, [.int 0, .int 0, .null]))] := hD
  refine W.widen (k := 8) (n := 144) (by omega) (by omega) ?_
  refine lv_dup hx hb dX3_init_48 rfl ?_
  refine lv_iconst (v := 1) hx hb dX3_init_49 (by decide) ?_
  refine lv_iconst (v := 5) hx hb dX3_init_50 (by decide) ?_
  have hPc := hP.sub (ws' := [(q8, .inr (2, [.int 0, .int 0, .null]))]) [8] rfl
  have hDc := hD.sub (ws' := [(q8, .inr (2, [.int 0, .int 0, .null]))]) [8] (by decide) rfl
  have hFc := va_free (wc := [(q8, .inr (2, [.int 0, .int 0, .null]))]) hD hS hA [8] rfl
  refine va_callv (va_runI (As := [.int 1, .int 5]) (rest := [.ref q8, .ref h0]) ⟨hx, hb, hml, hown, hts⟩ (z_Grid l D cy q8 H.size (r := 1) (c := 5) (N := 5) (by decide) (by decide) (by decide) (by decide) (by decide)) (cwI 2 hts (gw_ws z_q6) rfl rfl rfl (hts _ w_15) (hts _ z_r8) (hts _ z_q5) rfl (by decide +kernel) ⟨Nat.le_of_ble_eq_true rfl, Nat.le_of_ble_eq_true rfl⟩) ⟨fun a U g mk q => by obtain ⟨q0, q1, qP, qK, qD⟩ := q; exact ⟨q0, q1, qP, va_K.moved (u := U) (U := U.calling g mk a) (Vm.Alike.refl U.vm) qK, qD⟩, fun U hU hW => ⟨rfl, by rw [hU], by rw [hU]; exact hPc, va_K.moved hW.alike hK, hDc.weaken (fun _ _ _ _ => trivial)⟩⟩ rfl rfl hl.1 rfl (lv_room (Nat.le_of_ble_eq_true rfl)) dX3_init_51 ⟨Nat.le_of_ble_eq_true rfl, Nat.le_of_ble_eq_true rfl⟩) hS (fun q _ h => hFc q h) hFc (fun q9 t H1 locs ht hvm hw hB hz1 hk1 hS => ?_)
  obtain ⟨hP1, hK1, hD1⟩ := hB
  rw [ht] at hP1
  obtain ⟨hP, hD⟩ := va_join (wr := [(h0, .inr (3, [.ref q1, .ref q4, .ref q6, .null])), (q1, .inr (4, [.ref q2, .int 0])), (q2, .inr (2, [.int 4, .int 12, .ref q3])), (q3, .inl (cy 0, 48, .inl z_hol)), (q4, .inr (2, [.int 10, .int 7, .ref q5])), (q5, .inl (cy 0, 70, .inl (fun _ => 0))), (q6, .inr (2, [.int 1, .int 12, .ref q7])), (q7, .inl (cy 0, 12, .inl (fun _ => 0)))]) (w1 := z_gr cy 1 5 5 (fun _ => 0) q8 q9) hP hD [8] [0, 1, 2, 3, 4, 5, 6, 7] rfl rfl (by decide) (by decide) hk1 hFc hP1 hD1
  generalize H1 = H at hP hS ⊢
  have hP : va_P D vwCl [(h0, .inr (3, [.ref q1, .ref q4, .ref q6, .null])), (q1, .inr (4, [.ref q2, .int 0])), (q2, .inr (2, [.int 4, .int 12, .ref q3])), (q3, .inl (cy 0, 48, .inl z_hol)), (q4, .inr (2, [.int 10, .int 7, .ref q5])), (q5, .inl (cy 0, 70, .inl (fun _ => 0))), (q6, .inr (2, [.int 1, .int 12, .ref q7])), (q7, .inl (cy 0, 12, .inl (fun _ => 0))), (q8, .inr (2, [.int 1, .int 5, .ref q9])), (q9, .inl (cy 0, 5, .inl (fun _ => 0)))] H := hP
  have hD : va_D A [(h0, .inr (3, [.ref q1, .ref q4, .ref q6, .null])), (q1, .inr (4, [.ref q2, .int 0])), (q2, .inr (2, [.int 4, .int 12, .ref q3])), (q3, .inl (cy 0, 48, .inl z_hol)), (q4, .inr (2, [.int 10, .int 7, .ref q5])), (q5, .inl (cy 0, 70, .inl (fun _ => 0))), (q6, .inr (2, [.int 1, .int 12, .ref q7])), (q7, .inl (cy 0, 12, .inl (fun _ => 0))), (q8, .inr (2, [.int 1, .int 5, .ref q9])), (q9, .inl (cy 0, 5, .inl (fun _ => 0)))] := hD
  refine va_putF (D := D) (ci := 3) (v := .ref q8) (ty := .object "SevenAsks$Grid") (C := RX3) (T := TX3) (N := 4) hx hb hts inA3 tyX3 tyX3_ok nmX3 hown hK hP hD hS 0 rfl rfl 3 (by decide) (hts _ z_r9) (fun _ h9 => h9) rfl hin rfl (by decide +kernel) rfl rfl (Nat.le_of_ble_eq_true rfl) dX3_init_54 (fun H locs hP hD hS => ?_)
  have hP : va_P D vwCl [(h0, .inr (3, [.ref q1, .ref q4, .ref q6, .ref q8])), (q1, .inr (4, [.ref q2, .int 0])), (q2, .inr (2, [.int 4, .int 12, .ref q3])), (q3, .inl (cy 0, 48, .inl z_hol)), (q4, .inr (2, [.int 10, .int 7, .ref q5])), (q5, .inl (cy 0, 70, .inl (fun _ => 0))), (q6, .inr (2, [.int 1, .int 12, .ref q7])), (q7, .inl (cy 0, 12, .inl (fun _ => 0))), (q8, .inr (2, [.int 1, .int 5, .ref q9])), (q9, .inl (cy 0, 5, .inl (fun _ => 0)))] H := hP
  have hD : va_D A [(h0, .inr (3, [.ref q1, .ref q4, .ref q6, .ref q8])), (q1, .inr (4, [.ref q2, .int 0])), (q2, .inr (2, [.int 4, .int 12, .ref q3])), (q3, .inl (cy 0, 48, .inl z_hol)), (q4, .inr (2, [.int 10, .int 7, .ref q5])), (q5, .inl (cy 0, 70, .inl (fun _ => 0))), (q6, .inr (2, [.int 1, .int 12, .ref q7])), (q7, .inl (cy 0, 12, .inl (fun _ => 0))), (q8, .inr (2, [.int 1, .int 5, .ref q9])), (q9, .inl (cy 0, 5, .inl (fun _ => 0)))] := hD
  obtain ⟨ad, had⟩ : ∃ ad : Nat → Nat, ad = fun i => if i = 1 then h0 else if i = 2 then q1 else if i = 3 then q2 else if i = 4 then q3 else if i = 5 then q4 else if i = 6 then q5 else if i = 7 then q6 else if i = 8 then q7 else if i = 9 then q8 else q9 := ⟨_, rfl⟩
  have hP : va_P D vwCl (wl (z_GH D cy ad) z_xN) H := by rw [had]; exact hP
  have hD : va_D A (wl (z_GH D cy ad) z_xN) := by rw [had]; exact hD
  have h01 : ad 1 = h0 := by rw [had]; rfl
  have hl : lv_has ls 2 [(0, .ref (ad 1))] := by rw [h01]; exact hl
  have C : CT p s m [Value.ref h0].toArray meth co cX3_init 2 RX3 none (z_GH D cy ad) A := ⟨hx, hb, hml, hown, hts, hK, z_DD hD (by show y_L10.Nodup; decide) (z_clH D cy ad), hA, hr, hlocks, hN⟩
  have k1 : KD (z_GH D cy ad) 1 3 := ⟨by show 1 ∈ y_L10; decide, rfl⟩
  have lp : ∀ d j, j + d = 10 → WB p l e ({ frames := 6, cells := 9, slots := 149, locals := 160 }) s m [Value.ref h0].toArray below meth co 2 (z_GH D cy ad) A (MQ below (va_Qv (fun _ : Nat → Nat => True) (fun ad t => ad 1 = h0 ∧ va_P D vwCl (wl (z_GH D cy ad) z_xH) t.heap ∧ va_K D vwCl (z_ty cy) t ∧ va_D A (wl (z_GH D cy ad) z_xH)) A) [Value.ref h0].toArray s 9 149 A) 9 149 59 [(0, .ref ((z_GH D cy ad).2.2 1)), (1, .int (z_I j))] [] (z_xL j) := by
    intro d
    induction d with
    | zero =>
      intro j hj
      have : j = 10 := by omega
      subst this
      refine b_iload_n C dX3_init_59 rfl 1 rfl ?_
      refine b_bipush (v := 10) C dX3_init_60 (by decide) ?_
      refine b_icmp_ge (tgt := 81) C dX3_init_62 (by decide) (fun c9 => ?_) (fun c9 => absurd (show (10 : Int32) ≤ z_I 10 by decide) c9)
      refine b_aload_n C dX3_init_81 rfl 0 rfl ?_
      refine gfX3_27 C k1 dX3_init_82 ?_
      refine b_iconst (v := 0) C dX3_init_85 (by decide) ?_
      refine b_bipush (v := 9) C dX3_init_86 (by decide) ?_
      refine b_iconst (v := 3) C dX3_init_88 (by decide) ?_
      refine b_callVv (K := 2) (As := [.int 0, .int 9, .int 3]) (res := z_xH) C (metX2_put l _ _ _ _ _ _ _ (kd3 C.cl k1).2.2.1 y_putA) (kd3 C.cl k1).2.2.1 (by decide) rfl gkX3_33 ekX3_33 rfl ⟨rfl, rfl⟩ ⟨Nat.le_of_ble_eq_true rfl, Nat.le_of_ble_eq_true rfl⟩ (by simp [Value.category]) ⟨Nat.le_of_ble_eq_true rfl, Nat.le_of_ble_eq_true rfl⟩ rfl dX3_init_89 ?_
      intro H locs ls h1 h2 h3
      exact W.vret hx hb hr (fun t ht hW => ⟨⟨ad, rfl, trivial, h01, by rw [ht]; exact h2, va_K.moved hW.alike hK, wl_D C.D z_xH⟩, h3.F ht⟩) h3.2.2 dX3_init_92
    | succ d ih =>
      intro j hj
      refine b_iload_n C dX3_init_59 rfl 1 rfl ?_
      refine b_bipush (v := 10) C dX3_init_60 (by decide) ?_
      refine b_icmp_ge (tgt := 81) C dX3_init_62 (by decide) (fun c9 => absurd c9 (by rw [show (10 : Int32) = z_I 10 from rfl, z_I_le (by omega) (by omega)]; omega)) (fun c9 => ?_)
      refine b_aload_n C dX3_init_65 rfl 0 rfl ?_
      refine gfX3_23 C k1 dX3_init_66 ?_
      refine b_iload_n C dX3_init_69 rfl 1 rfl ?_
      refine b_iconst (v := 0) C dX3_init_70 (by decide) ?_
      refine b_iload_n C dX3_init_71 rfl 1 rfl ?_
      refine b_callVv (K := 2) (As := [.int (z_I j), .int 0, .int (z_I j)]) (res := z_xL (j + 1)) C (metX2_put l _ _ _ _ _ _ _ (kd3 C.cl k1).2.1 (z_putL (by omega))) (kd3 C.cl k1).2.1 (by decide) rfl gkX3_33 ekX3_33 rfl ⟨rfl, rfl⟩ ⟨Nat.le_of_ble_eq_true rfl, Nat.le_of_ble_eq_true rfl⟩ (by simp [Value.category]) ⟨Nat.le_of_ble_eq_true rfl, Nat.le_of_ble_eq_true rfl⟩ rfl dX3_init_72 ?_
      refine b_iinc (q := 1) (v' := (z_I j + 1)) (lv' := [(1, .int (z_I j + 1)), (0, .ref ((z_GH D cy ad).2.2 1))]) C dX3_init_75 rfl rfl (by decide) rfl ?_
      refine b_goto (tgt := 59) C dX3_init_78 (by decide) ?_
      rw [z_I_s]
      refine b_pm [1, 0] (lv' := [(0, .ref ((z_GH D cy ad).2.2 1)), (1, .int (z_I (j + 1)))]) rfl ?_
      exact ih (j + 1) (by omega)
  have st : WB p l e ({ frames := 6, cells := 9, slots := 149, locals := 160 }) s m [Value.ref h0].toArray below meth co 2 (z_GH D cy ad) A (MQ below (va_Qv (fun _ : Nat → Nat => True) (fun ad t => ad 1 = h0 ∧ va_P D vwCl (wl (z_GH D cy ad) z_xH) t.heap ∧ va_K D vwCl (z_ty cy) t ∧ va_D A (wl (z_GH D cy ad) z_xH)) A) [Value.ref h0].toArray s 9 149 A) 9 149 57 [(0, .ref ((z_GH D cy ad).2.2 1))] [] (z_xN) := by
    refine b_iconst (v := 0) C dX3_init_57 (by decide) ?_
    refine b_istore_n (lv' := [(1, .int 0), (0, .ref ((z_GH D cy ad).2.2 1))]) C dX3_init_58 rfl (by decide) rfl ?_
    refine b_pm [1, 0] (lv' := [(0, .ref ((z_GH D cy ad).2.2 1)), (1, .int (z_I 0))]) rfl ?_
    rw [← z_xL0]
    exact lp 10 0 rfl
  exact st H locs ls hl hP hS
