abbrev z_ty (cy : Nat → ClassId) : List (ClassId × FieldType) := [(cy 0, .int), (cy 1, .boolean), (cy 2, .object "SevenAsks$House"), (cy 3, .long)]
abbrev z_gr (cy : Nat → ClassId) (r c : Int32) (N : Nat) (f : Nat → Int32) (a b : Nat) : va_W := [(a, .inr (2, [.int r, .int c, .ref b])), (b, .inl (cy 0, N, .inl f))]
theorem z_o1 : Cond.methodLink RX2 3 objectInit ∈ AW := AW_of (by decide +kernel) (by decide +kernel)
theorem z_o2 : Cond.instanceMethod objectInit ∈ AW := AW_of (by decide +kernel) (by decide +kernel)
theorem z_o3 : Cond.code objectInit ⟨#[0xb1]⟩ 1 none ∈ AW := AW_of (by decide +kernel) (by decide +kernel)
theorem z_o4 : Cond.methodLink RX2 9 Lib.Math.max.name ∈ AW := AW_of (by decide +kernel) (by decide +kernel)
theorem z_o5 : Cond.arrayClass .int ∈ AW := AW_of (by decide +kernel) (by decide +kernel)
set_option maxHeartbeats 4000000 in
set_option maxRecDepth 100000 in
theorem z_Grid (l : Launch) (D : va_G) (cy : Nat → ClassId) (h0 sz : Nat) {r c : Int32} {N : Nat} (e1 : (if (0 : Int32) < r then r else 0) = r) (e2 : (if (0 : Int32) < c then c else 0) = c) (hn : ¬ r * c < 0) (hN : (r * c).toNatClampNeg = N) (hby : N * 4 ≤ 536870912) : Met l yX2_init (ws_ yX2_init cX2_init 3 none) ({ frames := 1, cells := 1, slots := N, locals := 32 }) (va_Pc [.ref h0, .int r, .int c] (fun U => U.heap.size = sz ∧ va_P D vwCl [(h0, .inr (2, [.int 0, .int 0, .null]))] U.heap ∧ va_K D vwCl (z_ty cy) U ∧ va_D (fun _ => True) [(h0, .inr (2, [.int 0, .int 0, .null]))])) (va_Qv (fun _ : Nat => True) (fun q t => va_P D vwCl (z_gr cy r c N (fun _ => 0) h0 q) t.heap ∧ va_K D vwCl (z_ty cy) t ∧ va_D (va_A [(h0, .inr (2, [.int 0, .int 0, .null]))] sz) (z_gr cy r c N (fun _ => 0) h0 q)) (va_A [(h0, .inr (2, [.int 0, .int 0, .null]))] sz)) 1 N (va_A [(h0, .inr (2, [.int 0, .int 0, .null]))] sz) := by
  refine Met.ofW (cc := cX2_init) (maxL := 3) (ret := none) (by decide) rfl ?_
  intro p e s m args below meth co s₁ B hml hv
  obtain ⟨rfl, hsz, hP, hK, hD0⟩ := hv
  have hx := B.exec
  have hb := B.bytes
  have hr := B.returns
  have hts0 := atoms_spec (ws := ws_ yX2_init cX2_init 3 none) B.pre
  have hts : ∀ w ∈ AW, w.before _ s = true := fun w hw => hts0 w (List.mem_cons_of_mem _ hw)
  have hown : s.vm.findClass RX2 = some m.cls := findClass_of_methodNamed B.named
  have hlocks := B.notSynchronized
  have hin : meth.name = "<init>" := (name_of_methodNamed B.named B.method).1
  subst hsz
  have hD := hD0.self (sz := s.heap.size)
  generalize hAe : va_A [(h0, .inr (2, [.int 0, .int 0, .null]))] s.heap.size = A at hD ⊢
  have hA : ∀ q : Nat, s.heap.size ≤ q → A q := fun q h => by rw [← hAe]; exact Or.inr h
  have hS : va_S A s.heap s.heap [] := va_S.rf
  have hP : va_P D vwCl [(h0, .inr (2, [.int 0, .int 0, .null]))] s.heap := hP
  have hl := lv_entry ([.ref h0, .int r, .int c]) (n := 3) (Nat.le_of_ble_eq_true rfl)
  rw [lg_entry_eq]
  generalize (lg_sl ([.ref h0, .int r, .int c]) ++ List.replicate (3 - (lg_sl ([.ref h0, .int r, .int c])).length) Slot.unset).toArray = ls at hl ⊢
  have hl : lv_has ls 3 [(0, .ref h0), (1, .int r), (2, .int c)] := hl
  refine lv_aload_n hx hb dX2_init_0 rfl (lv_at hl 0 rfl) ?_
  refine W.objInit hx hb hown (hts _ z_o1) (hts _ z_o2) (hts _ z_o3) rfl (by rw [hml]; exact hl.1) rfl dX2_init_1 (Nat.le_of_ble_eq_true rfl) (Nat.le_of_ble_eq_true rfl) ?_
  refine W.eq (g2 := F0 m 4 ls []) rfl ?_
  refine lv_aload_n hx hb dX2_init_4 rfl (lv_at hl 0 rfl) ?_
  refine lv_iconst (v := 0) hx hb dX2_init_5 (by decide) ?_
  refine lv_iload_n hx hb dX2_init_6 rfl (lv_at hl 1 rfl) ?_
  refine va_mmax hx hb (by rw [hml]; exact hl.1.symm) hown (hts _ z_o4) (hts _ w_45) (hts _ w_46) (hts _ w_47) (Nat.le_of_ble_eq_true rfl) (Nat.le_of_ble_eq_true rfl) (Nat.zero_le _) (Nat.zero_le _) dX2_init_7 ?_
  rw [e1]
  refine va_putF (D := D) (ci := 2) (v := .int r) (ty := .int) (C := RX2) (T := TX2) (N := 3) hx hb hts inA2 tyX2 tyX2_ok nmX2 hown hK hP hD hS 0 rfl rfl 0 (by decide) (hts _ w_22) (fun _ h9 => h9) rfl hin rfl (by decide +kernel) rfl rfl (Nat.le_of_ble_eq_true rfl) dX2_init_10 (fun H locs hP hD hS => ?_)
  have hP : va_P D vwCl [(h0, .inr (2, [.int r, .int 0, .null]))] H := hP
  have hD : va_D A [(h0, .inr (2, [.int r, .int 0, .null]))] := hD
  refine lv_aload_n hx hb dX2_init_13 rfl (lv_at hl 0 rfl) ?_
  refine lv_iconst (v := 0) hx hb dX2_init_14 (by decide) ?_
  refine lv_iload_n hx hb dX2_init_15 rfl (lv_at hl 2 rfl) ?_
  refine va_mmax hx hb (by rw [hml]; exact hl.1.symm) hown (hts _ z_o4) (hts _ w_45) (hts _ w_46) (hts _ w_47) (Nat.le_of_ble_eq_true rfl) (Nat.le_of_ble_eq_true rfl) (Nat.zero_le _) (Nat.zero_le _) dX2_init_16 ?_
  rw [e2]
  refine va_putF (D := D) (ci := 2) (v := .int c) (ty := .int) (C := RX2) (T := TX2) (N := 3) hx hb hts inA2 tyX2 tyX2_ok nmX2 hown hK hP hD hS 0 rfl rfl 1 (by decide) (hts _ w_23) (fun _ h9 => h9) rfl hin rfl (by decide +kernel) rfl rfl (Nat.le_of_ble_eq_true rfl) dX2_init_19 (fun H locs hP hD hS => ?_)
  have hP : va_P D vwCl [(h0, .inr (2, [.int r, .int c, .null]))] H := hP
  have hD : va_D A [(h0, .inr (2, [.int r, .int c, .null]))] := hD
  refine lv_aload_n hx hb dX2_init_22 rfl (lv_at hl 0 rfl) ?_
  refine lv_aload_n hx hb dX2_init_23 rfl (lv_at hl 0 rfl) ?_
  refine va_get (D := D) (ci := 2) (v := .int r) (C := RX2) (T := TX2) (N := 3) hx hb hts inA2 hown hK hP 0 rfl rfl 0 (by decide) (hts _ w_22) (fun _ h9 => h9) rfl dX2_init_24 ?_
  refine lv_aload_n hx hb dX2_init_27 rfl (lv_at hl 0 rfl) ?_
  refine va_get (D := D) (ci := 2) (v := .int c) (C := RX2) (T := TX2) (N := 3) hx hb hts inA2 hown hK hP 0 rfl rfl 1 (by decide) (hts _ w_23) (fun _ h9 => h9) rfl dX2_init_28 ?_
  refine lv_imul hx hb dX2_init_31 ?_
  refine va_newa (atype := .int) (ty := .int) (N' := N) (a0 := (N, .inl (fun _ => 0))) hx hb (hts _ z_o5) rfl hK hP hD hS hA (fun _ => rfl) hn hN hby (Nat.le_of_ble_eq_true rfl) (by show 0 + N ≤ N; omega) dX2_init_32 (fun q cA H hK hP hD hS => ?_)
  have ec : cA = cy 0 := Option.some.inj ((va_nm_int (hK.2 4 _ rfl).2).symm.trans (va_nm_int (hK.2 0 _ rfl).2))
  subst ec
  have hP : va_P D vwCl [(h0, .inr (2, [.int r, .int c, .null])), (q, .inl (cy 0, N, .inl (fun _ => 0)))] H := hP
  have hD : va_D A [(h0, .inr (2, [.int r, .int c, .null])), (q, .inl (cy 0, N, .inl (fun _ => 0)))] := hD
  have hK := hK.sub (tys' := z_ty cy) [0, 1, 2, 3] rfl
  refine va_putF (D := D) (ci := 2) (v := .ref q) (ty := .array .int) (C := RX2) (T := TX2) (N := 3) hx hb hts inA2 tyX2 tyX2_ok nmX2 hown hK hP hD hS 0 rfl rfl 2 (by decide) (hts _ w_24) (fun _ h9 => h9) rfl hin rfl (by decide +kernel) rfl rfl (Nat.le_of_ble_eq_true rfl) dX2_init_34 (fun H locs hP hD hS => ?_)
  have hP : va_P D vwCl (z_gr cy r c N (fun _ => 0) h0 q) H := hP
  have hD : va_D A (z_gr cy r c N (fun _ => 0) h0 q) := hD
  refine W.widen (k := 1) (n := N) (by omega) (by omega) ?_
  exact W.vret hx hb hr (fun t ht hW => ⟨⟨q, rfl, trivial, by rw [ht]; exact hP, va_K.moved hW.alike hK, hD⟩, hS.F ht⟩) hS.2.2 dX2_init_37
