theorem y_7a : Cond.methodLink RX6 1 objectInit ∈ AW := AW_of (by decide +kernel) (by decide +kernel)
theorem y_7b : Cond.classLink RX6 7 RX3 ∈ AW := AW_of (by decide +kernel) (by decide +kernel)
theorem y_7c : Cond.methodLink RX6 9 yX3_init ∈ AW := AW_of (by decide +kernel) (by decide +kernel)
theorem y_7d : Cond.classLink RX6 16 RX5 ∈ AW := AW_of (by decide +kernel) (by decide +kernel)
theorem y_7e : Cond.instantiable RX5 2 ∈ AW := AW_of (by decide +kernel) (by decide +kernel)
theorem y_7f : Cond.methodLink RX6 18 yX5_init ∈ AW := AW_of (by decide +kernel) (by decide +kernel)
theorem y_7g : Cond.instanceMethod yX5_init ∈ AW := AW_of (by decide +kernel) (by decide +kernel)
theorem y_7h : Cond.code yX5_init cX5_init 3 none ∈ AW := AW_of (by decide +kernel) (by decide +kernel)
theorem y_7i : Cond.classLink RX6 28 RX1 ∈ AW := AW_of (by decide +kernel) (by decide +kernel)
theorem y_7j : Cond.instantiable RX1 1 ∈ AW := AW_of (by decide +kernel) (by decide +kernel)
theorem y_7k : Cond.instanceMethod yX1_init ∈ AW := AW_of (by decide +kernel) (by decide +kernel)
theorem y_7l : Cond.code yX1_init cX1_init 1 none ∈ AW := AW_of (by decide +kernel) (by decide +kernel)
theorem y_7m : Cond.classLink RX6 35 RX0 ∈ AW := AW_of (by decide +kernel) (by decide +kernel)
theorem y_7n : Cond.instantiable RX0 2 ∈ AW := AW_of (by decide +kernel) (by decide +kernel)
theorem y_7o : Cond.instanceMethod yX0_init ∈ AW := AW_of (by decide +kernel) (by decide +kernel)
theorem y_7p : Cond.code yX0_init cX0_init 1 none ∈ AW := AW_of (by decide +kernel) (by decide +kernel)
def y_NC (U : State) : Prop := va_Nw (.methodLinkNest RX6 30 yX1_init "SevenAsks") U ∧ va_Nw (.methodLinkNest RX6 37 yX0_init "SevenAsks") U
theorem y_NC.warm {s U : State} (hW : s.WarmedH U.vm) (h : y_NC s) : y_NC U := ⟨va_Nw.warmM hW h.1, va_Nw.warmM hW h.2⟩
theorem y_NC.same {u U : State} (h : u.vm = U.vm) (hZ : y_NC u) : y_NC U := ⟨va_Nw.same rfl h hZ.1, va_Nw.same rfl h hZ.2⟩
abbrev y_V : Type := (Nat × Nat) × (Nat → Nat → Nat)
/-- the main house's addresses; the slots' shelf and the saved states' shelf; the laying and its row; the text and its row -/
abbrev y_U : Type := (Nat → Nat) × ((Nat × y_V) × ((Nat × y_V) × ((Nat × Nat) × (Nat × Nat))))
def y_sh (D : va_G) (cy : Nat → ClassId) (N : Nat) (u : Nat × y_V) : va_W := y_sx cy N u.1 u.2.1.1 u.2.1.2 (y_fq u.2.2 N) ++ y_hs D cy u.2.2 N
def y_bd (cy : Nat → ClassId) (u : Nat × Nat) : va_W := [(u.1, .inr (1, [.ref u.2])), (u.2, .inl (cy 0, 4, .inl (fun _ => 0)))]
def y_tx (cy : Nat → ClassId) (u : Nat × Nat) : va_W := [(u.1, .inr (0, [.ref u.2, .int 0])), (u.2, .inl (cy 0, 60, .inl (fun _ => 0)))]
def y_w7 (D : va_G) (cy : Nat → ClassId) (h0 : Nat) (u : y_U) : va_W := ([(h0, .inr (6, [.ref (u.1 1), .ref u.2.1.1, .ref u.2.2.1.1, .ref u.2.2.2.1.1, .ref u.2.2.2.2.1, .int 0, .int 0]))] : va_W) ++ ((((wl (z_GH D cy u.1) z_xH ++ y_sh D cy 2 u.2.1) ++ y_sh D cy 6 u.2.2.1) ++ y_bd cy u.2.2.2.1) ++ y_tx cy u.2.2.2.2)
theorem y_pm1 {X P : va_W} (n : va_W) : ((X ++ P) ++ n).Perm ((X ++ n) ++ P) := by
  rw [List.append_assoc, List.append_assoc]
  exact List.Perm.append_left _ List.perm_append_comm
theorem y_pm2 {X P : va_W} (n : va_W) : ((X ++ n) ++ P).Perm (X ++ (P ++ n)) := by
  rw [List.append_assoc]
  exact List.Perm.append_left _ List.perm_append_comm
set_option maxHeartbeats 8000000 in
set_option maxRecDepth 100000 in
theorem y_Seven (l : Launch) (D : va_G) (cy : Nat → ClassId) (h0 sz : Nat) : Met l yX6_init (ws_ yX6_init cX6_init 1 none) ({ frames := 9, cells := 100, slots := 1464, locals := 256 }) (va_Pc [.ref h0] (fun U => U.heap.size = sz ∧ va_P D vwCl [(h0, .inr (6, [.null, .null, .null, .null, .null, .int 0, .int 0]))] U.heap ∧ va_K D vwCl (z_ty cy) U ∧ va_D (fun _ => True) [(h0, .inr (6, [.null, .null, .null, .null, .null, .int 0, .int 0]))] ∧ NW U ∧ va_AO "SevenAsks$House" U ∧ y_NC U)) (va_Qv (fun _ : y_U => True) (fun u t => va_P D vwCl (y_w7 D cy h0 u) t.heap ∧ va_K D vwCl (z_ty cy) t ∧ va_D (va_A [(h0, .inr (6, [.null, .null, .null, .null, .null, .int 0, .int 0]))] sz) (y_w7 D cy h0 u)) (va_A [(h0, .inr (6, [.null, .null, .null, .null, .null, .int 0, .int 0]))] sz)) 100 1464 (va_A [(h0, .inr (6, [.null, .null, .null, .null, .null, .int 0, .int 0]))] sz) := by
  refine Met.ofW (cc := cX6_init) (maxL := 1) (ret := none) (by decide) rfl ?_
  intro p e s m args below meth co s₁ B hml hv
  obtain ⟨rfl, hsz, hP, hK, hD0, hN, hO, hC⟩ := hv
  have hx := B.exec
  have hb := B.bytes
  have hr := B.returns
  have hts0 := atoms_spec (ws := ws_ yX6_init cX6_init 1 none) B.pre
  have hts : ∀ w ∈ AW, w.before _ s = true := fun w hw => hts0 w (List.mem_cons_of_mem _ hw)
  have hown : s.vm.findClass RX6 = some m.cls := findClass_of_methodNamed B.named
  have hlocks := B.notSynchronized
  have hin : meth.name = "<init>" := (name_of_methodNamed B.named B.method).1
  subst hsz
  have hD := hD0.self (sz := s.heap.size)
  generalize hAe : va_A [(h0, .inr (6, [.null, .null, .null, .null, .null, .int 0, .int 0]))] s.heap.size = A at hD ⊢
  have hA : ∀ q : Nat, s.heap.size ≤ q → A q := fun q h => by rw [← hAe]; exact Or.inr h
  have hS : va_S A s.heap s.heap [] := va_S.rf
  have hP : va_P D vwCl (([(h0, .inr (6, [.null, .null, .null, .null, .null, .int 0, .int 0]))] : va_W) ++ []) s.heap := hP
  have hD : va_D A (([(h0, .inr (6, [.null, .null, .null, .null, .null, .int 0, .int 0]))] : va_W) ++ []) := hD
  have hl := lv_entry ([.ref h0]) (n := 1) (Nat.le_of_ble_eq_true rfl)
  rw [lg_entry_eq]
  generalize (lg_sl ([.ref h0]) ++ List.replicate (1 - (lg_sl ([.ref h0])).length) Slot.unset).toArray = ls at hl ⊢
  have hl : lv_has ls 1 [(0, .ref h0)] := hl
  refine lv_aload_n hx hb dX6_init_0 rfl (lv_at hl 0 rfl) ?_
  refine W.objInit hx hb hown (hts _ y_7a) (hts _ z_o2) (hts _ z_o3) rfl (by rw [hml]; exact hl.1) rfl dX6_init_1 (Nat.le_of_ble_eq_true rfl) (Nat.le_of_ble_eq_true rfl) ?_
  refine W.eq (g2 := F0 m 4 ls []) rfl ?_
  refine lv_aload_n hx hb dX6_init_4 rfl (lv_at hl 0 rfl) ?_
  refine va_new (ci := 3) (fs := [.null, .null, .null, .null]) (C := RX3) (T := TX3) (N := 4) hx hb hts inA3 tyX3 tyX3_ok hown (hts _ y_7b) (hts _ y_S7) (hts _ w_77) hK hP hD hS hA rfl (fun j hj => by rcases (show j = 0 ∨ j = 1 ∨ j = 2 ∨ j = 3 by omega) with rfl | rfl | rfl | rfl <;> rfl) (Nat.le_of_ble_eq_true rfl) (Nat.le_of_ble_eq_true rfl) dX6_init_5 (fun q1 H hP hD hS => ?_)
  have hP := y_Pperm (y_pm1 (X := ([(h0, .inr (6, [.null, .null, .null, .null, .null, .int 0, .int 0]))] : va_W)) (P := ([] : va_W)) ([(q1, .inr (3, [.null, .null, .null, .null]))] : va_W)) hP
  have hD := y_Dperm (y_pm1 (X := ([(h0, .inr (6, [.null, .null, .null, .null, .null, .int 0, .int 0]))] : va_W)) (P := ([] : va_W)) ([(q1, .inr (3, [.null, .null, .null, .null]))] : va_W)) hD
  refine W.widen (k := 1) (n := 4) (by omega) (by omega) ?_
  refine lv_dup hx hb dX6_init_8 rfl ?_
  have hPc := hP.sub (ws' := ([(q1, .inr (3, [.null, .null, .null, .null]))] : va_W)) [1] rfl
  have hDc := hD.sub (ws' := ([(q1, .inr (3, [.null, .null, .null, .null]))] : va_W)) [1] (by decide) rfl
  have hFc := va_free (wc := ([(q1, .inr (3, [.null, .null, .null, .null]))] : va_W)) hD hS hA [1] rfl
  refine va_callv (va_runI (As := []) (rest := [.ref q1, .ref h0]) ⟨hx, hb, hml, hown, hts⟩ (y_House l D cy q1 H.size) (cwI 0 hts (gw_ws y_S11) rfl rfl rfl (hts _ w_77) (hts _ y_7c) (hts _ y_S10) rfl (by decide +kernel) ⟨Nat.le_of_ble_eq_true rfl, Nat.le_of_ble_eq_true rfl⟩) ⟨fun a U g mk q1 => by obtain ⟨q0, q1, qP, qK, qD, qN⟩ := q1; exact ⟨q0, q1, qP, va_K.moved (u := U) (U := U.calling g mk a) (Vm.Alike.refl U.vm) qK, qD, NW.same rfl qN⟩, fun U hU hW => ⟨rfl, by rw [hU], by rw [hU]; exact hPc, va_K.moved hW.alike hK, hDc.weaken (fun _ _ _ _ => trivial), hN.warm hW⟩⟩ rfl rfl hl.1 rfl (lv_room (Nat.le_of_ble_eq_true rfl)) dX6_init_9 ⟨Nat.le_of_ble_eq_true rfl, Nat.le_of_ble_eq_true rfl⟩) hS (fun q1 _ h => hFc q1 h) hFc (fun adH t H1 locs ht hvm hw hB hz1 hk1 hS => ?_)
  obtain ⟨hq, hP1, hK1, hD1⟩ := hB
  rw [ht] at hP1
  obtain ⟨hP, hD⟩ := va_joinQ (X := ([(h0, .inr (6, [.null, .null, .null, .null, .null, .int 0, .int 0]))] : va_W) ++ ([(q1, .inr (3, [.null, .null, .null, .null]))] : va_W)) (wr := ([(h0, .inr (6, [.null, .null, .null, .null, .null, .int 0, .int 0]))] : va_W)) (w1 := wl (z_GH D cy adH) z_xH) (pl := ([] : va_W)) hP hD [1] [0] rfl rfl (by decide) (by decide) hk1 hFc hP1 hD1
  generalize H1 = H at hP hS ⊢
  rw [← hq]
  refine va_putF (D := D) (ci := 6) (v := .ref (adH 1)) (ty := .object "SevenAsks$House") (C := RX6) (T := TX6) (N := 7) hx hb hts inA6 tyX6 tyX6_ok nmX6 hown hK hP hD hS 0 rfl rfl 0 (by decide) (hts _ w_190) (fun _ h9 => h9) rfl hin rfl (by decide +kernel) rfl rfl (Nat.le_of_ble_eq_true rfl) dX6_init_12 (fun H locs hP hD hS => ?_)
  have hP : va_P D vwCl ((([(h0, .inr (6, [.ref (adH 1), .null, .null, .null, .null, .int 0, .int 0]))] : va_W) ++ wl (z_GH D cy adH) z_xH) ++ ([] : va_W)) H := hP
  have hD : va_D A ((([(h0, .inr (6, [.ref (adH 1), .null, .null, .null, .null, .int 0, .int 0]))] : va_W) ++ wl (z_GH D cy adH) z_xH) ++ ([] : va_W)) := hD
  have hP := y_Pperm (y_pm2 (X := ([(h0, .inr (6, [.ref (adH 1), .null, .null, .null, .null, .int 0, .int 0]))] : va_W)) (P := ([] : va_W)) (wl (z_GH D cy adH) z_xH)) hP
  have hD := y_Dperm (y_pm2 (X := ([(h0, .inr (6, [.ref (adH 1), .null, .null, .null, .null, .int 0, .int 0]))] : va_W)) (P := ([] : va_W)) (wl (z_GH D cy adH) z_xH)) hD
  refine W.widen (k := 10) (n := 153) (by omega) (by omega) ?_
  refine lv_aload_n hx hb dX6_init_15 rfl (lv_at hl 0 rfl) ?_
  refine va_new (ci := 5) (fs := [.null, .null]) (C := RX5) (T := TX5) (N := 2) hx hb hts inA5 tyX5 tyX5_ok hown (hts _ y_7d) (hts _ y_7e) (hts _ w_183) hK hP hD hS hA rfl (fun j hj => by rcases (show j = 0 ∨ j = 1 by omega) with rfl | rfl <;> rfl) (Nat.le_of_ble_eq_true rfl) (Nat.le_of_ble_eq_true rfl) dX6_init_16 (fun s2 H hP hD hS => ?_)
  have hP := y_Pperm (y_pm1 (X := ([(h0, .inr (6, [.ref (adH 1), .null, .null, .null, .null, .int 0, .int 0]))] : va_W)) (P := (([] : va_W) ++ wl (z_GH D cy adH) z_xH)) ([(s2, .inr (5, [.null, .null]))] : va_W)) hP
  have hD := y_Dperm (y_pm1 (X := ([(h0, .inr (6, [.ref (adH 1), .null, .null, .null, .null, .int 0, .int 0]))] : va_W)) (P := (([] : va_W) ++ wl (z_GH D cy adH) z_xH)) ([(s2, .inr (5, [.null, .null]))] : va_W)) hD
  refine W.widen (k := 11) (n := 155) (by omega) (by omega) ?_
  refine lv_dup hx hb dX6_init_19 rfl ?_
  refine lv_iconst (v := z_I 2) hx hb dX6_init_20 (by decide) ?_
  have hPc := hP.sub (ws' := ([(s2, .inr (5, [.null, .null]))] : va_W)) [1] rfl
  have hDc := hD.sub (ws' := ([(s2, .inr (5, [.null, .null]))] : va_W)) [1] (by decide) rfl
  have hFc := va_free (wc := ([(s2, .inr (5, [.null, .null]))] : va_W)) hD hS hA [1] rfl
  refine va_callv (va_runI (As := [.int (z_I 2)]) (rest := [.ref s2, .ref h0]) ⟨hx, hb, hml, hown, hts⟩ (y_Shelf l D cy s2 H.size (N := 2) (by decide) (by decide)) (cwI 1 hts (gw_ws y_7h) rfl rfl rfl (hts _ w_183) (hts _ y_7f) (hts _ y_7g) rfl (by decide +kernel) ⟨Nat.le_of_ble_eq_true rfl, Nat.le_of_ble_eq_true rfl⟩) ⟨fun a U g mk s2 => by obtain ⟨q0, q1, qP, qK, qD, qN, qO⟩ := s2; exact ⟨q0, q1, qP, va_K.moved (u := U) (U := U.calling g mk a) (Vm.Alike.refl U.vm) qK, qD, NW.same rfl qN, va_AO.moved (u := U) (U := U.calling g mk a) (Vm.Alike.refl U.vm) qO⟩, fun U hU hW => ⟨rfl, by rw [hU], by rw [hU]; exact hPc, va_K.moved hW.alike hK, hDc.weaken (fun _ _ _ _ => trivial), hN.warm hW, va_AO.moved hW.alike hO⟩⟩ rfl rfl hl.1 rfl (lv_room (Nat.le_of_ble_eq_true rfl)) dX6_init_21 ⟨Nat.le_of_ble_eq_true rfl, Nat.le_of_ble_eq_true rfl⟩) hS (fun s2 _ h => hFc s2 h) hFc (fun ⟨⟨ua, ub⟩, uc⟩ t H1 locs ht hvm hw hB hz1 hk1 hS => ?_)
  obtain ⟨hP1, hK1, hD1⟩ := hB
  rw [ht] at hP1
  obtain ⟨hP, hD⟩ := va_joinQ (X := ([(h0, .inr (6, [.ref (adH 1), .null, .null, .null, .null, .int 0, .int 0]))] : va_W) ++ ([(s2, .inr (5, [.null, .null]))] : va_W)) (wr := ([(h0, .inr (6, [.ref (adH 1), .null, .null, .null, .null, .int 0, .int 0]))] : va_W)) (w1 := y_sh D cy 2 (s2, ((ua, ub), uc))) (pl := (([] : va_W) ++ wl (z_GH D cy adH) z_xH)) hP hD [1] [0] rfl rfl (by decide) (by decide) hk1 hFc hP1 hD1
  generalize H1 = H at hP hS ⊢
  refine va_putF (D := D) (ci := 6) (v := .ref s2) (ty := .object "SevenAsks$Shelf") (C := RX6) (T := TX6) (N := 7) hx hb hts inA6 tyX6 tyX6_ok nmX6 hown hK hP hD hS 0 rfl rfl 1 (by decide) (hts _ wc_1) (fun _ h9 => h9) rfl hin rfl (by decide +kernel) rfl rfl (Nat.le_of_ble_eq_true rfl) dX6_init_24 (fun H locs hP hD hS => ?_)
  have hP : va_P D vwCl ((([(h0, .inr (6, [.ref (adH 1), .ref s2, .null, .null, .null, .int 0, .int 0]))] : va_W) ++ y_sh D cy 2 (s2, ((ua, ub), uc))) ++ (([] : va_W) ++ wl (z_GH D cy adH) z_xH)) H := hP
  have hD : va_D A ((([(h0, .inr (6, [.ref (adH 1), .ref s2, .null, .null, .null, .int 0, .int 0]))] : va_W) ++ y_sh D cy 2 (s2, ((ua, ub), uc))) ++ (([] : va_W) ++ wl (z_GH D cy adH) z_xH)) := hD
  have hP := y_Pperm (y_pm2 (X := ([(h0, .inr (6, [.ref (adH 1), .ref s2, .null, .null, .null, .int 0, .int 0]))] : va_W)) (P := (([] : va_W) ++ wl (z_GH D cy adH) z_xH)) (y_sh D cy 2 (s2, ((ua, ub), uc)))) hP
  have hD := y_Dperm (y_pm2 (X := ([(h0, .inr (6, [.ref (adH 1), .ref s2, .null, .null, .null, .int 0, .int 0]))] : va_W)) (P := (([] : va_W) ++ wl (z_GH D cy adH) z_xH)) (y_sh D cy 2 (s2, ((ua, ub), uc)))) hD
  refine W.widen (k := 33) (n := 465) (by omega) (by omega) ?_
  refine lv_aload_n hx hb dX6_init_27 rfl (lv_at hl 0 rfl) ?_
  refine va_new (ci := 5) (fs := [.null, .null]) (C := RX5) (T := TX5) (N := 2) hx hb hts inA5 tyX5 tyX5_ok hown (hts _ y_7d) (hts _ y_7e) (hts _ w_183) hK hP hD hS hA rfl (fun j hj => by rcases (show j = 0 ∨ j = 1 by omega) with rfl | rfl <;> rfl) (Nat.le_of_ble_eq_true rfl) (Nat.le_of_ble_eq_true rfl) dX6_init_28 (fun s6 H hP hD hS => ?_)
  have hP := y_Pperm (y_pm1 (X := ([(h0, .inr (6, [.ref (adH 1), .ref s2, .null, .null, .null, .int 0, .int 0]))] : va_W)) (P := ((([] : va_W) ++ wl (z_GH D cy adH) z_xH) ++ y_sh D cy 2 (s2, ((ua, ub), uc)))) ([(s6, .inr (5, [.null, .null]))] : va_W)) hP
  have hD := y_Dperm (y_pm1 (X := ([(h0, .inr (6, [.ref (adH 1), .ref s2, .null, .null, .null, .int 0, .int 0]))] : va_W)) (P := ((([] : va_W) ++ wl (z_GH D cy adH) z_xH) ++ y_sh D cy 2 (s2, ((ua, ub), uc)))) ([(s6, .inr (5, [.null, .null]))] : va_W)) hD
  refine W.widen (k := 34) (n := 467) (by omega) (by omega) ?_
  refine lv_dup hx hb dX6_init_31 rfl ?_
  refine lv_bipush (v := z_I 6) hx hb dX6_init_32 (by decide) ?_
  have hPc := hP.sub (ws' := ([(s6, .inr (5, [.null, .null]))] : va_W)) [1] rfl
  have hDc := hD.sub (ws' := ([(s6, .inr (5, [.null, .null]))] : va_W)) [1] (by decide) rfl
  have hFc := va_free (wc := ([(s6, .inr (5, [.null, .null]))] : va_W)) hD hS hA [1] rfl
  refine va_callv (va_runI (As := [.int (z_I 6)]) (rest := [.ref s6, .ref h0]) ⟨hx, hb, hml, hown, hts⟩ (y_Shelf l D cy s6 H.size (N := 6) (by decide) (by decide)) (cwI 1 hts (gw_ws y_7h) rfl rfl rfl (hts _ w_183) (hts _ y_7f) (hts _ y_7g) rfl (by decide +kernel) ⟨Nat.le_of_ble_eq_true rfl, Nat.le_of_ble_eq_true rfl⟩) ⟨fun a U g mk s6 => by obtain ⟨q0, q1, qP, qK, qD, qN, qO⟩ := s6; exact ⟨q0, q1, qP, va_K.moved (u := U) (U := U.calling g mk a) (Vm.Alike.refl U.vm) qK, qD, NW.same rfl qN, va_AO.moved (u := U) (U := U.calling g mk a) (Vm.Alike.refl U.vm) qO⟩, fun U hU hW => ⟨rfl, by rw [hU], by rw [hU]; exact hPc, va_K.moved hW.alike hK, hDc.weaken (fun _ _ _ _ => trivial), hN.warm hW, va_AO.moved hW.alike hO⟩⟩ rfl rfl hl.1 rfl (lv_room (Nat.le_of_ble_eq_true rfl)) dX6_init_34 ⟨Nat.le_of_ble_eq_true rfl, Nat.le_of_ble_eq_true rfl⟩) hS (fun s6 _ h => hFc s6 h) hFc (fun ⟨⟨va, vb⟩, vc⟩ t H1 locs ht hvm hw hB hz1 hk1 hS => ?_)
  obtain ⟨hP1, hK1, hD1⟩ := hB
  rw [ht] at hP1
  obtain ⟨hP, hD⟩ := va_joinQ (X := ([(h0, .inr (6, [.ref (adH 1), .ref s2, .null, .null, .null, .int 0, .int 0]))] : va_W) ++ ([(s6, .inr (5, [.null, .null]))] : va_W)) (wr := ([(h0, .inr (6, [.ref (adH 1), .ref s2, .null, .null, .null, .int 0, .int 0]))] : va_W)) (w1 := y_sh D cy 6 (s6, ((va, vb), vc))) (pl := ((([] : va_W) ++ wl (z_GH D cy adH) z_xH) ++ y_sh D cy 2 (s2, ((ua, ub), uc)))) hP hD [1] [0] rfl rfl (by decide) (by decide) hk1 hFc hP1 hD1
  generalize H1 = H at hP hS ⊢
  refine va_putF (D := D) (ci := 6) (v := .ref s6) (ty := .object "SevenAsks$Shelf") (C := RX6) (T := TX6) (N := 7) hx hb hts inA6 tyX6 tyX6_ok nmX6 hown hK hP hD hS 0 rfl rfl 2 (by decide) (hts _ w_204) (fun _ h9 => h9) rfl hin rfl (by decide +kernel) rfl rfl (Nat.le_of_ble_eq_true rfl) dX6_init_37 (fun H locs hP hD hS => ?_)
  have hP : va_P D vwCl ((([(h0, .inr (6, [.ref (adH 1), .ref s2, .ref s6, .null, .null, .int 0, .int 0]))] : va_W) ++ y_sh D cy 6 (s6, ((va, vb), vc))) ++ ((([] : va_W) ++ wl (z_GH D cy adH) z_xH) ++ y_sh D cy 2 (s2, ((ua, ub), uc)))) H := hP
  have hD : va_D A ((([(h0, .inr (6, [.ref (adH 1), .ref s2, .ref s6, .null, .null, .int 0, .int 0]))] : va_W) ++ y_sh D cy 6 (s6, ((va, vb), vc))) ++ ((([] : va_W) ++ wl (z_GH D cy adH) z_xH) ++ y_sh D cy 2 (s2, ((ua, ub), uc)))) := hD
  have hP := y_Pperm (y_pm2 (X := ([(h0, .inr (6, [.ref (adH 1), .ref s2, .ref s6, .null, .null, .int 0, .int 0]))] : va_W)) (P := ((([] : va_W) ++ wl (z_GH D cy adH) z_xH) ++ y_sh D cy 2 (s2, ((ua, ub), uc)))) (y_sh D cy 6 (s6, ((va, vb), vc)))) hP
  have hD := y_Dperm (y_pm2 (X := ([(h0, .inr (6, [.ref (adH 1), .ref s2, .ref s6, .null, .null, .int 0, .int 0]))] : va_W)) (P := ((([] : va_W) ++ wl (z_GH D cy adH) z_xH) ++ y_sh D cy 2 (s2, ((ua, ub), uc)))) (y_sh D cy 6 (s6, ((va, vb), vc)))) hD
  refine W.widen (k := 96) (n := 1397) (by omega) (by omega) ?_
  refine lv_aload_n hx hb dX6_init_40 rfl (lv_at hl 0 rfl) ?_
  refine va_new (ci := 1) (fs := [.null]) (C := RX1) (T := TX1) (N := 1) hx hb hts inA1 tyX1 tyX1_ok hown (hts _ y_7i) (hts _ y_7j) (hts _ w_29) hK hP hD hS hA rfl (fun j hj => by rw [show j = 0 by omega]; rfl) (Nat.le_of_ble_eq_true rfl) (Nat.le_of_ble_eq_true rfl) dX6_init_41 (fun b0 H hP hD hS => ?_)
  have hP := y_Pperm (y_pm1 (X := ([(h0, .inr (6, [.ref (adH 1), .ref s2, .ref s6, .null, .null, .int 0, .int 0]))] : va_W)) (P := (((([] : va_W) ++ wl (z_GH D cy adH) z_xH) ++ y_sh D cy 2 (s2, ((ua, ub), uc))) ++ y_sh D cy 6 (s6, ((va, vb), vc)))) ([(b0, .inr (1, [.null]))] : va_W)) hP
  have hD := y_Dperm (y_pm1 (X := ([(h0, .inr (6, [.ref (adH 1), .ref s2, .ref s6, .null, .null, .int 0, .int 0]))] : va_W)) (P := (((([] : va_W) ++ wl (z_GH D cy adH) z_xH) ++ y_sh D cy 2 (s2, ((ua, ub), uc))) ++ y_sh D cy 6 (s6, ((va, vb), vc)))) ([(b0, .inr (1, [.null]))] : va_W)) hD
  refine W.widen (k := 97) (n := 1398) (by omega) (by omega) ?_
  refine lv_dup hx hb dX6_init_44 rfl ?_
  have hPc := hP.sub (ws' := ([(b0, .inr (1, [.null]))] : va_W)) [1] rfl
  have hDc := hD.sub (ws' := ([(b0, .inr (1, [.null]))] : va_W)) [1] (by decide) rfl
  have hFc := va_free (wc := ([(b0, .inr (1, [.null]))] : va_W)) hD hS hA [1] rfl
  refine va_callv (va_runIN (host := "SevenAsks") (As := []) (rest := [.ref b0, .ref h0]) ⟨hx, hb, hml, hown, hts⟩ (y_Bed l D cy b0 H.size) ⟨va_cnB 0 hts (gw_ws y_7l) rfl rfl rfl hC.1 (hts _ w_29) ⟨by decide, by decide, by decide +kernel⟩ ⟨Nat.le_of_ble_eq_true rfl, Nat.le_of_ble_eq_true rfl⟩, rfl, hts _ y_7k⟩ ⟨fun a U g mk b0 => by obtain ⟨q0, q1, qP, qK, qD⟩ := b0; exact ⟨q0, q1, qP, va_K.moved (u := U) (U := U.calling g mk a) (Vm.Alike.refl U.vm) qK, qD⟩, fun U hU hW => ⟨rfl, by rw [hU], by rw [hU]; exact hPc, va_K.moved hW.alike hK, hDc.weaken (fun _ _ _ _ => trivial)⟩⟩ rfl rfl hl.1 rfl (lv_room (Nat.le_of_ble_eq_true rfl)) dX6_init_45 ⟨Nat.le_of_ble_eq_true rfl, Nat.le_of_ble_eq_true rfl⟩) hS (fun b0 _ h => hFc b0 h) hFc (fun bq t H1 locs ht hvm hw hB hz1 hk1 hS => ?_)
  obtain ⟨hP1, hK1, hD1⟩ := hB
  rw [ht] at hP1
  obtain ⟨hP, hD⟩ := va_joinQ (X := ([(h0, .inr (6, [.ref (adH 1), .ref s2, .ref s6, .null, .null, .int 0, .int 0]))] : va_W) ++ ([(b0, .inr (1, [.null]))] : va_W)) (wr := ([(h0, .inr (6, [.ref (adH 1), .ref s2, .ref s6, .null, .null, .int 0, .int 0]))] : va_W)) (w1 := y_bd cy (b0, bq)) (pl := (((([] : va_W) ++ wl (z_GH D cy adH) z_xH) ++ y_sh D cy 2 (s2, ((ua, ub), uc))) ++ y_sh D cy 6 (s6, ((va, vb), vc)))) hP hD [1] [0] rfl rfl (by decide) (by decide) hk1 hFc hP1 hD1
  generalize H1 = H at hP hS ⊢
  refine va_putF (D := D) (ci := 6) (v := .ref b0) (ty := .object "SevenAsks$BedLaying") (C := RX6) (T := TX6) (N := 7) hx hb hts inA6 tyX6 tyX6_ok nmX6 hown hK hP hD hS 0 rfl rfl 3 (by decide) (hts _ w_321) (fun _ h9 => h9) rfl hin rfl (by decide +kernel) rfl rfl (Nat.le_of_ble_eq_true rfl) dX6_init_48 (fun H locs hP hD hS => ?_)
  have hP : va_P D vwCl ((([(h0, .inr (6, [.ref (adH 1), .ref s2, .ref s6, .ref b0, .null, .int 0, .int 0]))] : va_W) ++ y_bd cy (b0, bq)) ++ (((([] : va_W) ++ wl (z_GH D cy adH) z_xH) ++ y_sh D cy 2 (s2, ((ua, ub), uc))) ++ y_sh D cy 6 (s6, ((va, vb), vc)))) H := hP
  have hD : va_D A ((([(h0, .inr (6, [.ref (adH 1), .ref s2, .ref s6, .ref b0, .null, .int 0, .int 0]))] : va_W) ++ y_bd cy (b0, bq)) ++ (((([] : va_W) ++ wl (z_GH D cy adH) z_xH) ++ y_sh D cy 2 (s2, ((ua, ub), uc))) ++ y_sh D cy 6 (s6, ((va, vb), vc)))) := hD
  have hP := y_Pperm (y_pm2 (X := ([(h0, .inr (6, [.ref (adH 1), .ref s2, .ref s6, .ref b0, .null, .int 0, .int 0]))] : va_W)) (P := (((([] : va_W) ++ wl (z_GH D cy adH) z_xH) ++ y_sh D cy 2 (s2, ((ua, ub), uc))) ++ y_sh D cy 6 (s6, ((va, vb), vc)))) (y_bd cy (b0, bq))) hP
  have hD := y_Dperm (y_pm2 (X := ([(h0, .inr (6, [.ref (adH 1), .ref s2, .ref s6, .ref b0, .null, .int 0, .int 0]))] : va_W)) (P := (((([] : va_W) ++ wl (z_GH D cy adH) z_xH) ++ y_sh D cy 2 (s2, ((ua, ub), uc))) ++ y_sh D cy 6 (s6, ((va, vb), vc)))) (y_bd cy (b0, bq))) hD
  refine W.widen (k := 98) (n := 1402) (by omega) (by omega) ?_
  refine lv_aload_n hx hb dX6_init_51 rfl (lv_at hl 0 rfl) ?_
  refine va_new (ci := 0) (fs := [.null, .int 0]) (C := RX0) (T := TX0) (N := 2) hx hb hts inA0 tyX0 tyX0_ok hown (hts _ y_7m) (hts _ y_7n) (hts _ wc_2) hK hP hD hS hA rfl (fun j hj => by rcases (show j = 0 ∨ j = 1 by omega) with rfl | rfl <;> rfl) (Nat.le_of_ble_eq_true rfl) (Nat.le_of_ble_eq_true rfl) dX6_init_52 (fun t0 H hP hD hS => ?_)
  have hP := y_Pperm (y_pm1 (X := ([(h0, .inr (6, [.ref (adH 1), .ref s2, .ref s6, .ref b0, .null, .int 0, .int 0]))] : va_W)) (P := ((((([] : va_W) ++ wl (z_GH D cy adH) z_xH) ++ y_sh D cy 2 (s2, ((ua, ub), uc))) ++ y_sh D cy 6 (s6, ((va, vb), vc))) ++ y_bd cy (b0, bq))) ([(t0, .inr (0, [.null, .int 0]))] : va_W)) hP
  have hD := y_Dperm (y_pm1 (X := ([(h0, .inr (6, [.ref (adH 1), .ref s2, .ref s6, .ref b0, .null, .int 0, .int 0]))] : va_W)) (P := ((((([] : va_W) ++ wl (z_GH D cy adH) z_xH) ++ y_sh D cy 2 (s2, ((ua, ub), uc))) ++ y_sh D cy 6 (s6, ((va, vb), vc))) ++ y_bd cy (b0, bq))) ([(t0, .inr (0, [.null, .int 0]))] : va_W)) hD
  refine W.widen (k := 99) (n := 1404) (by omega) (by omega) ?_
  refine lv_dup hx hb dX6_init_55 rfl ?_
  have hPc := hP.sub (ws' := ([(t0, .inr (0, [.null, .int 0]))] : va_W)) [1] rfl
  have hDc := hD.sub (ws' := ([(t0, .inr (0, [.null, .int 0]))] : va_W)) [1] (by decide) rfl
  have hFc := va_free (wc := ([(t0, .inr (0, [.null, .int 0]))] : va_W)) hD hS hA [1] rfl
  refine va_callv (va_runIN (host := "SevenAsks") (As := []) (rest := [.ref t0, .ref h0]) ⟨hx, hb, hml, hown, hts⟩ (y_Text l D cy t0 H.size) ⟨va_cnB 0 hts (gw_ws y_7p) rfl rfl rfl hC.2 (hts _ wc_2) ⟨by decide, by decide, by decide +kernel⟩ ⟨Nat.le_of_ble_eq_true rfl, Nat.le_of_ble_eq_true rfl⟩, rfl, hts _ y_7o⟩ ⟨fun a U g mk t0 => by obtain ⟨q0, q1, qP, qK, qD⟩ := t0; exact ⟨q0, q1, qP, va_K.moved (u := U) (U := U.calling g mk a) (Vm.Alike.refl U.vm) qK, qD⟩, fun U hU hW => ⟨rfl, by rw [hU], by rw [hU]; exact hPc, va_K.moved hW.alike hK, hDc.weaken (fun _ _ _ _ => trivial)⟩⟩ rfl rfl hl.1 rfl (lv_room (Nat.le_of_ble_eq_true rfl)) dX6_init_56 ⟨Nat.le_of_ble_eq_true rfl, Nat.le_of_ble_eq_true rfl⟩) hS (fun t0 _ h => hFc t0 h) hFc (fun tq t H1 locs ht hvm hw hB hz1 hk1 hS => ?_)
  obtain ⟨hP1, hK1, hD1⟩ := hB
  rw [ht] at hP1
  obtain ⟨hP, hD⟩ := va_joinQ (X := ([(h0, .inr (6, [.ref (adH 1), .ref s2, .ref s6, .ref b0, .null, .int 0, .int 0]))] : va_W) ++ ([(t0, .inr (0, [.null, .int 0]))] : va_W)) (wr := ([(h0, .inr (6, [.ref (adH 1), .ref s2, .ref s6, .ref b0, .null, .int 0, .int 0]))] : va_W)) (w1 := y_tx cy (t0, tq)) (pl := ((((([] : va_W) ++ wl (z_GH D cy adH) z_xH) ++ y_sh D cy 2 (s2, ((ua, ub), uc))) ++ y_sh D cy 6 (s6, ((va, vb), vc))) ++ y_bd cy (b0, bq))) hP hD [1] [0] rfl rfl (by decide) (by decide) hk1 hFc hP1 hD1
  generalize H1 = H at hP hS ⊢
  refine va_putF (D := D) (ci := 6) (v := .ref t0) (ty := .object "SevenAsks$AskingText") (C := RX6) (T := TX6) (N := 7) hx hb hts inA6 tyX6 tyX6_ok nmX6 hown hK hP hD hS 0 rfl rfl 4 (by decide) (hts _ wc_3) (fun _ h9 => h9) rfl hin rfl (by decide +kernel) rfl rfl (Nat.le_of_ble_eq_true rfl) dX6_init_59 (fun H locs hP hD hS => ?_)
  have hP : va_P D vwCl ((([(h0, .inr (6, [.ref (adH 1), .ref s2, .ref s6, .ref b0, .ref t0, .int 0, .int 0]))] : va_W) ++ y_tx cy (t0, tq)) ++ ((((([] : va_W) ++ wl (z_GH D cy adH) z_xH) ++ y_sh D cy 2 (s2, ((ua, ub), uc))) ++ y_sh D cy 6 (s6, ((va, vb), vc))) ++ y_bd cy (b0, bq))) H := hP
  have hD : va_D A ((([(h0, .inr (6, [.ref (adH 1), .ref s2, .ref s6, .ref b0, .ref t0, .int 0, .int 0]))] : va_W) ++ y_tx cy (t0, tq)) ++ ((((([] : va_W) ++ wl (z_GH D cy adH) z_xH) ++ y_sh D cy 2 (s2, ((ua, ub), uc))) ++ y_sh D cy 6 (s6, ((va, vb), vc))) ++ y_bd cy (b0, bq))) := hD
  have hP := y_Pperm (y_pm2 (X := ([(h0, .inr (6, [.ref (adH 1), .ref s2, .ref s6, .ref b0, .ref t0, .int 0, .int 0]))] : va_W)) (P := ((((([] : va_W) ++ wl (z_GH D cy adH) z_xH) ++ y_sh D cy 2 (s2, ((ua, ub), uc))) ++ y_sh D cy 6 (s6, ((va, vb), vc))) ++ y_bd cy (b0, bq))) (y_tx cy (t0, tq))) hP
  have hD := y_Dperm (y_pm2 (X := ([(h0, .inr (6, [.ref (adH 1), .ref s2, .ref s6, .ref b0, .ref t0, .int 0, .int 0]))] : va_W)) (P := ((((([] : va_W) ++ wl (z_GH D cy adH) z_xH) ++ y_sh D cy 2 (s2, ((ua, ub), uc))) ++ y_sh D cy 6 (s6, ((va, vb), vc))) ++ y_bd cy (b0, bq))) (y_tx cy (t0, tq))) hD
  refine W.widen (k := 100) (n := 1464) (by omega) (by omega) ?_
  exact W.vret hx hb hr (fun t ht hW => ⟨⟨(adH, ((s2, ((ua, ub), uc)), ((s6, ((va, vb), vc)), ((b0, bq), (t0, tq))))), rfl, trivial, by rw [ht]; exact hP, va_K.moved hW.alike hK, hD⟩, hS.F ht⟩) hS.2.2 dX6_init_62
