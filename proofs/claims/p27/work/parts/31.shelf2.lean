set_option maxHeartbeats 8000000 in
set_option maxRecDepth 100000 in
theorem y_Shelf (l : Launch) (D : va_G) (cy : Nat → ClassId) (h0 sz : Nat) {N : Nat} (hN6 : N ≤ 6) (hN1 : 1 ≤ N) : Met l yX5_init (ws_ yX5_init cX5_init 3 none) ({ frames := 8, cells := 2 + 10 * N, slots := 155 * N, locals := 224 }) (va_Pc [.ref h0, .int (z_I N)] (fun U => U.heap.size = sz ∧ va_P D vwCl [(h0, .inr (5, [.null, .null]))] U.heap ∧ va_K D vwCl (z_ty cy) U ∧ va_D (fun _ => True) [(h0, .inr (5, [.null, .null]))] ∧ NW U ∧ va_AO "SevenAsks$House" U)) (va_Qv (fun _ : (Nat × Nat) × (Nat → Nat → Nat) => True) (fun u t => va_P D vwCl (y_sx cy N h0 u.1.1 u.1.2 (y_fq u.2 N) ++ y_hs D cy u.2 N) t.heap ∧ va_K D vwCl (z_ty cy) t ∧ va_D (va_A [(h0, .inr (5, [.null, .null]))] sz) (y_sx cy N h0 u.1.1 u.1.2 (y_fq u.2 N) ++ y_hs D cy u.2 N)) (va_A [(h0, .inr (5, [.null, .null]))] sz)) (2 + 10 * N) (155 * N) (va_A [(h0, .inr (5, [.null, .null]))] sz) := by
  refine Met.ofW (cc := cX5_init) (maxL := 3) (ret := none) (by decide) rfl ?_
  intro p e s m args below meth co s₁ B hml hv
  obtain ⟨rfl, hsz, hP, hK, hD0, hN, hO⟩ := hv
  have hx := B.exec
  have hb := B.bytes
  have hr := B.returns
  have hts0 := atoms_spec (ws := ws_ yX5_init cX5_init 3 none) B.pre
  have hts : ∀ w ∈ AW, w.before _ s = true := fun w hw => hts0 w (List.mem_cons_of_mem _ hw)
  have hown : s.vm.findClass RX5 = some m.cls := findClass_of_methodNamed B.named
  have hlocks := B.notSynchronized
  have hin : meth.name = "<init>" := (name_of_methodNamed B.named B.method).1
  subst hsz
  have hD := hD0.self (sz := s.heap.size)
  generalize hAe : va_A [(h0, .inr (5, [.null, .null]))] s.heap.size = A at hD ⊢
  have hA : ∀ q : Nat, s.heap.size ≤ q → A q := fun q h => by rw [← hAe]; exact Or.inr h
  have hS : va_S A s.heap s.heap [] := va_S.rf
  have hP : va_P D vwCl [(h0, .inr (5, [.null, .null]))] s.heap := hP
  have hl := lv_entry ([.ref h0, .int (z_I N)]) (n := 3) (Nat.le_of_ble_eq_true rfl)
  rw [lg_entry_eq]
  generalize (lg_sl ([.ref h0, .int (z_I N)]) ++ List.replicate (3 - (lg_sl ([.ref h0, .int (z_I N)])).length) Slot.unset).toArray = ls at hl ⊢
  have hl : lv_has ls 3 [(0, .ref h0), (1, .int (z_I N))] := hl
  refine lv_aload_n hx hb dX5_init_0 rfl (lv_at hl 0 rfl) ?_
  refine W.objInit hx hb hown (hts _ y_S3) (hts _ z_o2) (hts _ z_o3) rfl (by rw [hml]; exact hl.1) rfl dX5_init_1 (by show 1 ≤ 8; omega) (by show _ ≤ 224; simp) ?_
  refine W.eq (g2 := F0 m 4 ls []) rfl ?_
  refine lv_aload_n hx hb dX5_init_4 rfl (lv_at hl 0 rfl) ?_
  refine lv_iconst (v := 0) hx hb dX5_init_5 (by decide) ?_
  refine lv_iload_n hx hb dX5_init_6 rfl (lv_at hl 1 rfl) ?_
  refine va_mmax hx hb (by rw [hml]; exact hl.1.symm) hown (hts _ y_S4) (hts _ w_32) (hts _ w_33) (hts _ w_34) (by show 1 ≤ 8; omega) (by show _ ≤ 224; simp [Value.category]) (Nat.zero_le _) (Nat.zero_le _) dX5_init_7 ?_
  rw [if_pos (show (0 : Int32) < z_I N by rw [z_L0, z_I_lt (by omega) (by omega)]; omega)]
  refine va_newq (C := "SevenAsks$House") (N' := N) hx hb hown (hts _ y_S5) hO hK hP hD hS hA (by rw [z_I_nn (by omega)]; exact id) (z_I_nat (by omega)) (by omega) (by show 0 + 1 ≤ 2 + 10 * N; omega) (by show 0 + N ≤ 155 * N; omega) dX5_init_10 (fun a cA H hK hP hD hS => ?_)
  have ec : cA = cy 2 := Option.some.inj ((va_nmO (hK.2 3 _ rfl).2 rfl).symm.trans (va_nmO (hK.2 2 _ rfl).2 rfl))
  subst ec
  have hK := hK.sub (tys' := z_ty cy) [0, 1, 2] rfl
  have hP : va_P D vwCl [(h0, .inr (5, [.null, .null])), (a, .inl (cy 2, N, .inr (.inr (.inr (.inr (fun _ => none))))))] H := hP
  have hD : va_D A [(h0, .inr (5, [.null, .null])), (a, .inl (cy 2, N, .inr (.inr (.inr (.inr (fun _ => none))))))] := hD
  refine va_putF (D := D) (ci := 5) (v := .ref a) (ty := .array (.object "SevenAsks$House")) (C := RX5) (T := TX5) (N := 2) hx hb hts inA5 tyX5 tyX5_ok nmX5 hown hK hP hD hS 0 rfl rfl 0 (by decide) (hts _ w_179) (fun _ h9 => h9) rfl hin rfl (by decide +kernel) rfl rfl (Nat.le_of_ble_eq_true rfl) dX5_init_13 (fun H locs hP hD hS => ?_)
  have hP : va_P D vwCl [(h0, .inr (5, [.ref a, .null])), (a, .inl (cy 2, N, .inr (.inr (.inr (.inr (fun _ => none))))))] H := hP
  have hD : va_D A [(h0, .inr (5, [.ref a, .null])), (a, .inl (cy 2, N, .inr (.inr (.inr (.inr (fun _ => none))))))] := hD
  refine lv_aload_n hx hb dX5_init_16 rfl (lv_at hl 0 rfl) ?_
  refine lv_aload_n hx hb dX5_init_17 rfl (lv_at hl 0 rfl) ?_
  refine va_get (D := D) (ci := 5) (v := .ref a) (C := RX5) (T := TX5) (N := 2) hx hb hts inA5 hown hK hP 0 rfl rfl 0 (by decide) (hts _ w_179) (fun _ h9 => h9) rfl dX5_init_18 ?_
  refine va_alen (v := z_I N) hx hb hK hP 1 2 rfl rfl rfl dX5_init_21 ?_
  refine va_newa (atype := .boolean) (ty := .boolean) (N' := N) (a0 := (N, .inl (fun _ => 0))) hx hb (hts _ y_S6) rfl hK hP hD hS hA (fun _ => rfl) (by rw [z_I_nn (by omega)]; exact id) (z_I_nat (by omega)) (by show N * 1 ≤ _; omega) (by show 0 + 1 + 1 ≤ 2 + 10 * N; omega) (by show 0 + N + N ≤ 155 * N; omega) dX5_init_22 (fun b cA H hK hP hD hS => ?_)
  have ec : cA = cy 1 := Option.some.inj ((va_nm_boolean (hK.2 3 _ rfl).2).symm.trans (va_nm_boolean (hK.2 1 _ rfl).2))
  subst ec
  have hK := hK.sub (tys' := z_ty cy) [0, 1, 2] rfl
  have hP : va_P D vwCl [(h0, .inr (5, [.ref a, .null])), (a, .inl (cy 2, N, .inr (.inr (.inr (.inr (fun _ => none)))))), (b, .inl (cy 1, N, .inl (fun _ => 0)))] H := hP
  have hD : va_D A [(h0, .inr (5, [.ref a, .null])), (a, .inl (cy 2, N, .inr (.inr (.inr (.inr (fun _ => none)))))), (b, .inl (cy 1, N, .inl (fun _ => 0)))] := hD
  refine va_putF (D := D) (ci := 5) (v := .ref b) (ty := .array .boolean) (C := RX5) (T := TX5) (N := 2) hx hb hts inA5 tyX5 tyX5_ok nmX5 hown hK hP hD hS 0 rfl rfl 1 (by decide) (hts _ w_189) (fun _ h9 => h9) rfl hin rfl (by decide +kernel) rfl rfl (Nat.le_of_ble_eq_true rfl) dX5_init_24 (fun H locs hP hD hS => ?_)
  have hP : va_P D vwCl (y_sx cy N h0 a b (y_fq (fun _ _ => 0) 0) ++ y_hs D cy (fun _ _ => 0) 0) H := by
    rw [show y_fq (fun _ _ => 0) 0 = fun _ => none from funext fun k => if_neg (Nat.not_lt_zero k)]; exact hP
  have hD : va_D A (y_sx cy N h0 a b (y_fq (fun _ _ => 0) 0) ++ y_hs D cy (fun _ _ => 0) 0) := by
    rw [show y_fq (fun _ _ => 0) 0 = fun _ => none from funext fun k => if_neg (Nat.not_lt_zero k)]; exact hD
  have lp : ∀ d j, j + d = N → ∀ (ads : Nat → Nat → Nat) (H : Heap) (locs : List Loc) (ls : Array Slot), lv_has ls 3 [(0, .ref h0), (1, .int (z_I N)), (2, .int (z_I j))] → va_P D vwCl (y_sx cy N h0 a b (y_fq ads j) ++ y_hs D cy ads j) H → va_D A (y_sx cy N h0 a b (y_fq ads j) ++ y_hs D cy ads j) → va_S A s.heap H locs → W p l e ({ frames := 8, cells := 2 + 10 * N, slots := 155 * N, locals := 224 }) s m [Value.ref h0, .int (z_I N)].toArray below meth co H locs (2 + 10 * j) (2 * N + 153 * j) (MQ below (va_Qv (fun _ : (Nat × Nat) × (Nat → Nat → Nat) => True) (fun u t => va_P D vwCl (y_sx cy N h0 u.1.1 u.1.2 (y_fq u.2 N) ++ y_hs D cy u.2 N) t.heap ∧ va_K D vwCl (z_ty cy) t ∧ va_D A (y_sx cy N h0 u.1.1 u.1.2 (y_fq u.2 N) ++ y_hs D cy u.2 N)) A) [Value.ref h0, .int (z_I N)].toArray s (2 + 10 * N) (155 * N) A) (F0 m 29 ls []) := by
    intro d
    induction d with
    | zero =>
      intro j hj ads H locs ls hl hP hD hS
      have : j = N := by omega
      subst this
      refine lv_iload_n hx hb dX5_init_29 rfl (lv_at hl 2 rfl) ?_
      refine lv_aload_n hx hb dX5_init_30 rfl (lv_at hl 0 rfl) ?_
      refine va_get (D := D) (ci := 5) (v := .ref a) (C := RX5) (T := TX5) (N := 2) hx hb hts inA5 hown hK hP 0 rfl rfl 0 (by decide) (hts _ w_179) (fun _ h9 => h9) rfl dX5_init_31 ?_
      refine va_alen (v := z_I j) hx hb hK hP 1 2 rfl rfl rfl dX5_init_34 ?_
      refine lv_icmp_ge (tgt := 57) hx hb dX5_init_35 (by decide) (fun c => ?_) (fun c => absurd (Int32.le_refl _) c)
      refine W.widen (k := 2 + 10 * j) (n := 155 * j) (by omega) (by omega) ?_
      exact W.vret hx hb hr (fun t ht hW => ⟨⟨((a, b), ads), rfl, trivial, by rw [ht]; exact hP, va_K.moved hW.alike hK, hD⟩, hS.F ht⟩) hS.2.2 dX5_init_57
    | succ d ih =>
      intro j hj ads H locs ls hl hP hD hS
      refine lv_iload_n hx hb dX5_init_29 rfl (lv_at hl 2 rfl) ?_
      refine lv_aload_n hx hb dX5_init_30 rfl (lv_at hl 0 rfl) ?_
      refine va_get (D := D) (ci := 5) (v := .ref a) (C := RX5) (T := TX5) (N := 2) hx hb hts inA5 hown hK hP 0 rfl rfl 0 (by decide) (hts _ w_179) (fun _ h9 => h9) rfl dX5_init_31 ?_
      refine va_alen (v := z_I N) hx hb hK hP 1 2 rfl rfl rfl dX5_init_34 ?_
      refine lv_icmp_ge (tgt := 57) hx hb dX5_init_35 (by decide) (fun c => absurd c (by rw [z_I_le (by omega) (by omega)]; omega)) (fun c => ?_)
      refine lv_aload_n hx hb dX5_init_38 rfl (lv_at hl 0 rfl) ?_
      refine va_get (D := D) (ci := 5) (v := .ref a) (C := RX5) (T := TX5) (N := 2) hx hb hts inA5 hown hK hP 0 rfl rfl 0 (by decide) (hts _ w_179) (fun _ h9 => h9) rfl dX5_init_39 ?_
      refine lv_iload_n hx hb dX5_init_42 rfl (lv_at hl 2 rfl) ?_
      refine va_new (ci := 3) (fs := [.null, .null, .null, .null]) (C := RX3) (T := TX3) (N := 4) hx hb hts inA3 tyX3 tyX3_ok hown (hts _ y_S5) (hts _ y_S7) (hts _ y_S8) hK hP hD hS hA rfl (fun j hj => by rcases (show j = 0 ∨ j = 1 ∨ j = 2 ∨ j = 3 by omega) with rfl | rfl | rfl | rfl <;> rfl) (by show 2 + 10 * j + 1 ≤ 2 + 10 * N; omega) (by show 2 * N + 153 * j + 4 ≤ 155 * N; omega) dX5_init_43 (fun q H hP hD hS => ?_)
      have pm : ((y_sx cy N h0 a b (y_fq ads j) ++ y_hs D cy ads j) ++ ([(q, .inr (3, [.null, .null, .null, .null]))] : va_W)).Perm ((y_sx cy N h0 a b (y_fq ads j) ++ ([(q, .inr (3, [.null, .null, .null, .null]))] : va_W)) ++ y_hs D cy ads j) := by
        rw [List.append_assoc, List.append_assoc]
        exact List.Perm.append_left _ List.perm_append_comm
      have hP := y_Pperm pm hP
      have hD := y_Dperm pm hD
      refine lv_dup hx hb dX5_init_46 rfl ?_
      have hPc := hP.sub (ws' := ([(q, .inr (3, [.null, .null, .null, .null]))] : va_W)) [3] rfl
      have hDc := hD.sub (ws' := ([(q, .inr (3, [.null, .null, .null, .null]))] : va_W)) [3] (by decide) rfl
      have hFc := va_free (wc := ([(q, .inr (3, [.null, .null, .null, .null]))] : va_W)) hD hS hA [3] rfl
      refine va_callv (va_runI (As := []) (rest := [.ref q, .int (z_I j), .ref a]) ⟨hx, hb, hml, hown, hts⟩ (y_House l D cy q H.size) (cwI 0 hts (gw_ws y_S11) rfl rfl rfl (hts _ y_S8) (hts _ y_S9) (hts _ y_S10) rfl (by decide +kernel) ⟨by show 6 + 1 ≤ 8; omega, by show 8 + (2 + 11) + 160 ≤ 224; omega⟩) ⟨fun a U g mk q => by obtain ⟨q0, q1, qP, qK, qD, qN⟩ := q; exact ⟨q0, q1, qP, va_K.moved (u := U) (U := U.calling g mk a) (Vm.Alike.refl U.vm) qK, qD, NW.same rfl qN⟩, fun U hU hW => ⟨rfl, by rw [hU], by rw [hU]; exact hPc, va_K.moved hW.alike hK, hDc.weaken (fun _ _ _ _ => trivial), hN.warm hW⟩⟩ rfl rfl hl.1 rfl (lv_room (Nat.le_of_ble_eq_true rfl)) dX5_init_47 ⟨by show 2 + 10 * j + 1 + 9 ≤ 2 + 10 * N; omega, by show 2 * N + 153 * j + 4 + 149 ≤ 155 * N; omega⟩) hS (fun q _ h => hFc q h) hFc (fun ad t H1 locs ht hvm hw hB hz1 hk1 hS => ?_)
      obtain ⟨hq, hP1, hK1, hD1⟩ := hB
      rw [ht] at hP1
      obtain ⟨hP, hD⟩ := va_joinQ (X := y_sx cy N h0 a b (y_fq ads j) ++ ([(q, .inr (3, [.null, .null, .null, .null]))] : va_W)) (wr := y_sx cy N h0 a b (y_fq ads j)) (w1 := wl (z_GH D cy ad) z_xH) (pl := y_hs D cy ads j) hP hD [3] [0, 1, 2] rfl rfl (by decide) (by decide) hk1 hFc hP1 hD1
      generalize H1 = H at hP hS ⊢
      rw [← hq]
      refine va_astq (q0 := 1) (t0 := 2) (qk := 3) (ci := 3) (r := (RX3, TX3, 4)) hx hb hK hP hD hS rfl rfl rfl rfl (by show ¬ (z_I j < 0 ∨ N ≤ (z_I j).toNatClampNeg); intro c9; exact c9.elim (fun h9 => Eq.mp (z_I_nn (a := j) (by omega)) h9) (fun h9 => by rw [z_I_nat (by omega)] at h9; omega)) dX5_init_50 (fun H locs hP hD hS => ?_)
      have hP : va_P D vwCl ((y_sx cy N h0 a b (va_up (y_fq ads j) (z_I j).toNatClampNeg (some (ad 1))) ++ wl (z_GH D cy ad) z_xH) ++ y_hs D cy ads j) H := hP
      have hD : va_D A ((y_sx cy N h0 a b (va_up (y_fq ads j) (z_I j).toNatClampNeg (some (ad 1))) ++ wl (z_GH D cy ad) z_xH) ++ y_hs D cy ads j) := hD
      rw [y_fq_s ads ad (by omega)] at hP hD
      have pm2 : ((y_sx cy N h0 a b (y_fq (fun k => if k = j then ad else ads k) (j + 1)) ++ wl (z_GH D cy ad) z_xH) ++ y_hs D cy ads j).Perm (y_sx cy N h0 a b (y_fq (fun k => if k = j then ad else ads k) (j + 1)) ++ y_hs D cy (fun k => if k = j then ad else ads k) (j + 1)) := by
        rw [y_hs_s, List.append_assoc]
        exact List.Perm.append_left _ List.perm_append_comm
      have hP := y_Pperm pm2 hP
      have hD := y_Dperm pm2 hD
      refine lv_iinc (v := z_I (j + 1)) (lv' := [(2, .int (z_I (j + 1))), (0, .ref h0), (1, .int (z_I N))]) hx hb dX5_init_51 hl (k := 2) rfl (z_I_s j) (by decide) rfl (fun ls hl => ?_)
      refine lv_goto (tgt := 29) hx hb dX5_init_54 (by decide) ?_
      refine W.widen (k := 2 + 10 * (j + 1)) (n := 2 * N + 153 * (j + 1)) (by omega) (by omega) ?_
      exact ih (j + 1) (by omega) _ _ _ ls (lv_sub hl [1, 2, 0] rfl) hP hD hS
  refine lv_iconst (v := 0) hx hb dX5_init_27 (by decide) ?_
  refine lv_istore_n (lv' := [(2, .int 0), (0, .ref h0), (1, .int (z_I N))]) hx hb dX5_init_28 rfl hl (by decide) rfl (fun ls hl => ?_)
  refine W.widen (k := 2 + 10 * 0) (n := 2 * N + 153 * 0) (by omega) (by omega) ?_
  exact lp N 0 (by omega) (fun _ _ => 0) _ _ ls (lv_sub hl [1, 2, 0] rfl) hP hD hS
