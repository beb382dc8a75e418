theorem wc_0 : Cond.fieldLink RX0 9 "SevenAsks$AskingText" "signs" "[I" ∈ AW := AW_of (by decide +kernel) (by decide +kernel)
theorem wc_1 : Cond.fieldLink RX6 21 "SevenAsks" "slots" "LSevenAsks$Shelf;" ∈ AW := AW_of (by decide +kernel) (by decide +kernel)
theorem wc_2 : Cond.initialized RX0 ∈ AW := AW_of (by decide +kernel) (by decide +kernel)
theorem wc_3 : Cond.fieldLink RX6 38 "SevenAsks" "text" "LSevenAsks$AskingText;" ∈ AW := AW_of (by decide +kernel) (by decide +kernel)
abbrev z_ty (cy : Nat → ClassId) : List (ClassId × FieldType) := [(cy 0, .int), (cy 1, .boolean), (cy 2, .object "SevenAsks$House")]
abbrev z_gr (cy : Nat → ClassId) (r c : Int32) (N : Nat) (f : Nat → Int32) (a b : Nat) : va_W := [(a, .inr (2, [.int r, .int c, .ref b])), (b, .inl (cy 0, N, .inl f))]
theorem z_o1 : Cond.methodLink RX2 3 objectInit ∈ AW := AW_of (by decide +kernel) (by decide +kernel)
theorem z_o2 : Cond.instanceMethod objectInit ∈ AW := AW_of (by decide +kernel) (by decide +kernel)
theorem z_o3 : Cond.code objectInit ⟨#[0xb1]⟩ 1 none ∈ AW := AW_of (by decide +kernel) (by decide +kernel)
theorem z_o4 : Cond.methodLink RX2 9 Lib.Math.max.name ∈ AW := AW_of (by decide +kernel) (by decide +kernel)
theorem z_o5 : Cond.arrayClass .int ∈ AW := AW_of (by decide +kernel) (by decide +kernel)
set_option maxHeartbeats 4000000 in
set_option maxRecDepth 100000 in
theorem z_Grid (l : Launch) (D : va_G) (cy : Nat → ClassId) (h0 sz : Nat) {r c : Int32} {N : Nat} (e1 : (if (0 : Int32) < r then r else 0) = r) (e2 : (if (0 : Int32) < c then c else 0) = c) (hn : ¬ r * c < 0) (hN : (r * c).toNatClampNeg = N) (hby : N * 4 ≤ 536870912) : Met l yX2_init (ws_ yX2_init cX2_init 3 none) ({ frames := 1, cells := 1, slots := N, locals := 32 }) (va_Pc [.ref h0, .int r, .int c] (fun U => U.heap.size = sz ∧ va_P D vwCl [(h0, .inr (2, [.int 0, .int 0, .null]))] U.heap ∧ va_K D vwCl (z_ty cy) U ∧ va_D (fun _ => True) [(h0, .inr (2, [.int 0, .int 0, .null]))])) (va_Qv (fun _ : Nat => True) (fun q t => va_P D vwCl (z_gr cy r c N (fun _ => 0) h0 q) t.heap ∧ va_K D vwCl (z_ty cy) t ∧ va_D (va_A [(h0, .inr (2, [.int 0, .int 0, .null]))] sz) (z_gr cy r c N (fun _ => 0) h0 q)) (va_A [(h0, .inr (2, [.int 0, .int 0, .null]))] sz)) 1 N (va_A [(h0, .inr (2, [.int 0, .int 0, .null]))] sz) := by
  refine Met.ofW (cc := cX2_init) (maxL := 3) (ret := none) (by decide) rfl ?_
  intro p e s m args below meth co s₁ B hml hv
  obtain ⟨rfl, hsz, hP, hK, hD0⟩ := hv
  have hx := B.exec
  have hb := B.bytes
  have hr := B.returns
  have hts0 := atoms_spec (ws := ws_ yX2_init cX2_init 3 none) B.pre
  have hts : ∀ w ∈ AW, w.before _ s = true := fun w hw => hts0 w (List.mem_cons_of_mem _ hw)
  have hown : s.vm.findClass RX2 = some m.cls := findClass_of_methodNamed B.named
  have hlocks := B.notSynchronized
  have hin : meth.name = "<init>" := (name_of_methodNamed B.named B.method).1
  subst hsz
  have hD := hD0.self (sz := s.heap.size)
  generalize hAe : va_A [(h0, .inr (2, [.int 0, .int 0, .null]))] s.heap.size = A at hD ⊢
  have hA : ∀ q : Nat, s.heap.size ≤ q → A q := fun q h => by rw [← hAe]; exact Or.inr h
  have hS : va_S A s.heap s.heap [] := va_S.rf
  have hP : va_P D vwCl [(h0, .inr (2, [.int 0, .int 0, .null]))] s.heap := hP
  have hl := lv_entry ([.ref h0, .int r, .int c]) (n := 3) (Nat.le_of_ble_eq_true rfl)
  rw [lg_entry_eq]
  generalize (lg_sl ([.ref h0, .int r, .int c]) ++ List.replicate (3 - (lg_sl ([.ref h0, .int r, .int c])).length) Slot.unset).toArray = ls at hl ⊢
  have hl : lv_has ls 3 [(0, .ref h0), (1, .int r), (2, .int c)] := hl
  refine lv_aload_n hx hb dX2_init_0 rfl (lv_at hl 0 rfl) ?_
  refine W.objInit hx hb hown (hts _ z_o1) (hts _ z_o2) (hts _ z_o3) rfl (by rw [hml]; exact hl.1) rfl dX2_init_1 (Nat.le_of_ble_eq_true rfl) (Nat.le_of_ble_eq_true rfl) ?_
  refine W.eq (g2 := F0 m 4 ls []) rfl ?_
  refine lv_aload_n hx hb dX2_init_4 rfl (lv_at hl 0 rfl) ?_
  refine lv_iconst (v := 0) hx hb dX2_init_5 (by decide) ?_
  refine lv_iload_n hx hb dX2_init_6 rfl (lv_at hl 1 rfl) ?_
  refine va_mmax hx hb (by rw [hml]; exact hl.1.symm) hown (hts _ z_o4) (hts _ w_32) (hts _ w_33) (hts _ w_34) (Nat.le_of_ble_eq_true rfl) (Nat.le_of_ble_eq_true rfl) (Nat.zero_le _) (Nat.zero_le _) dX2_init_7 ?_
  rw [e1]
  refine va_putF (D := D) (ci := 2) (v := .int r) (ty := .int) (C := RX2) (T := TX2) (N := 3) hx hb hts inA2 tyX2 tyX2_ok nmX2 hown hK hP hD hS 0 rfl rfl 0 (by decide) (hts _ w_9) (fun _ h9 => h9) rfl hin rfl (by decide +kernel) rfl rfl (Nat.le_of_ble_eq_true rfl) dX2_init_10 (fun H locs hP hD hS => ?_)
  have hP : va_P D vwCl [(h0, .inr (2, [.int r, .int 0, .null]))] H := hP
  have hD : va_D A [(h0, .inr (2, [.int r, .int 0, .null]))] := hD
  refine lv_aload_n hx hb dX2_init_13 rfl (lv_at hl 0 rfl) ?_
  refine lv_iconst (v := 0) hx hb dX2_init_14 (by decide) ?_
  refine lv_iload_n hx hb dX2_init_15 rfl (lv_at hl 2 rfl) ?_
  refine va_mmax hx hb (by rw [hml]; exact hl.1.symm) hown (hts _ z_o4) (hts _ w_32) (hts _ w_33) (hts _ w_34) (Nat.le_of_ble_eq_true rfl) (Nat.le_of_ble_eq_true rfl) (Nat.zero_le _) (Nat.zero_le _) dX2_init_16 ?_
  rw [e2]
  refine va_putF (D := D) (ci := 2) (v := .int c) (ty := .int) (C := RX2) (T := TX2) (N := 3) hx hb hts inA2 tyX2 tyX2_ok nmX2 hown hK hP hD hS 0 rfl rfl 1 (by decide) (hts _ w_10) (fun _ h9 => h9) rfl hin rfl (by decide +kernel) rfl rfl (Nat.le_of_ble_eq_true rfl) dX2_init_19 (fun H locs hP hD hS => ?_)
  have hP : va_P D vwCl [(h0, .inr (2, [.int r, .int c, .null]))] H := hP
  have hD : va_D A [(h0, .inr (2, [.int r, .int c, .null]))] := hD
  refine lv_aload_n hx hb dX2_init_22 rfl (lv_at hl 0 rfl) ?_
  refine lv_aload_n hx hb dX2_init_23 rfl (lv_at hl 0 rfl) ?_
  refine va_get (D := D) (ci := 2) (v := .int r) (C := RX2) (T := TX2) (N := 3) hx hb hts inA2 hown hK hP 0 rfl rfl 0 (by decide) (hts _ w_9) (fun _ h9 => h9) rfl dX2_init_24 ?_
  refine lv_aload_n hx hb dX2_init_27 rfl (lv_at hl 0 rfl) ?_
  refine va_get (D := D) (ci := 2) (v := .int c) (C := RX2) (T := TX2) (N := 3) hx hb hts inA2 hown hK hP 0 rfl rfl 1 (by decide) (hts _ w_10) (fun _ h9 => h9) rfl dX2_init_28 ?_
  refine lv_imul hx hb dX2_init_31 ?_
  refine va_newa (atype := .int) (ty := .int) (N' := N) (a0 := (N, .inl (fun _ => 0))) hx hb (hts _ z_o5) rfl hK hP hD hS hA (fun _ => rfl) hn hN hby (Nat.le_of_ble_eq_true rfl) (by show 0 + N ≤ N; omega) dX2_init_32 (fun q cA H hK hP hD hS => ?_)
  have ec : cA = cy 0 := Option.some.inj ((va_nm_int (hK.2 3 _ rfl).2).symm.trans (va_nm_int (hK.2 0 _ rfl).2))
  subst ec
  have hP : va_P D vwCl [(h0, .inr (2, [.int r, .int c, .null])), (q, .inl (cy 0, N, .inl (fun _ => 0)))] H := hP
  have hD : va_D A [(h0, .inr (2, [.int r, .int c, .null])), (q, .inl (cy 0, N, .inl (fun _ => 0)))] := hD
  have hK := hK.sub (tys' := z_ty cy) [0, 1, 2] rfl
  refine va_putF (D := D) (ci := 2) (v := .ref q) (ty := .array .int) (C := RX2) (T := TX2) (N := 3) hx hb hts inA2 tyX2 tyX2_ok nmX2 hown hK hP hD hS 0 rfl rfl 2 (by decide) (hts _ w_11) (fun _ h9 => h9) rfl hin rfl (by decide +kernel) rfl rfl (Nat.le_of_ble_eq_true rfl) dX2_init_34 (fun H locs hP hD hS => ?_)
  have hP : va_P D vwCl (z_gr cy r c N (fun _ => 0) h0 q) H := hP
  have hD : va_D A (z_gr cy r c N (fun _ => 0) h0 q) := hD
  refine W.widen (k := 1) (n := N) (by omega) (by omega) ?_
  exact W.vret hx hb hr (fun t ht hW => ⟨⟨q, rfl, trivial, by rw [ht]; exact hP, va_K.moved hW.alike hK, hD⟩, hS.F ht⟩) hS.2.2 dX2_init_37
theorem z_DD {G : gT} {A : Nat → Prop} {x : xS} (hD : va_D A (wl G x)) (hn : G.2.1.2.Nodup) (hc : CL G) : DD G A := by
  have ix : ∀ i : Nat, i ∈ G.2.1.2 → ∃ a : Nat, G.2.1.2[a]? = some i ∧ (wl G x)[a]? = some (G.2.2 i, gE G x i) := by
    intro i hi
    obtain ⟨a, ha⟩ := List.getElem?_of_mem hi
    refine ⟨a, ha, ?_⟩
    unfold wl
    rw [List.getElem?_map, ha]; rfl
  refine ⟨⟨fun i j hi hj h => ?_, hn, hc⟩, fun i hi => ?_⟩
  · obtain ⟨a, ha, wa⟩ := ix i hi
    obtain ⟨b, hb, wb⟩ := ix j hj
    have := hD.1 a b _ _ wa wb h
    subst this
    exact Option.some.inj (ha.symm.trans hb)
  · obtain ⟨a, ha, wa⟩ := ix i hi
    exact hD.2 a _ wa
def z_hol : Nat → Int32 := fun k => if k < 48 then -1 else 0
abbrev z_ni (cy : Nat → ClassId) (f : Nat → Int32) (a b d : Nat) : va_W := (a, .inr (4, [.ref b, .int 0])) :: z_gr cy 4 12 48 f b d
def z_x0 : xS := (fun _ _ => 0, fun _ _ => 0)
def z_xN : xS := upR z_x0 4 z_hol
def z_aN (a b d : Nat) : Nat → Nat := fun i => if i = 2 then a else if i = 3 then b else d
def z_GN (D : va_G) (cy : Nat → ClassId) (a b d : Nat) : gT := (D, (cy, [2, 3, 4]), z_aN a b d)
theorem z_wlN (D : va_G) (cy : Nat → ClassId) (a b d : Nat) : wl (z_GN D cy a b d) z_x0 = z_ni cy (fun _ => 0) a b d := rfl
theorem z_wlN2 (D : va_G) (cy : Nat → ClassId) (a b d : Nat) : wl (z_GN D cy a b d) z_xN = z_ni cy z_hol a b d := rfl
theorem z_fillN : fX2_fill 3 (-1) z_x0 = some z_xN := by
  unfold fX2_fill fX2_fill_b0
  rw [z_fill_gen 4 (-1) (by decide) z_x0, z_ob]
  congr 2
theorem z_clN (D : va_G) (cy : Nat → ClassId) (a b d : Nat) : CL (z_GN D cy a b d) := by
  intro i hi
  have hi : i ∈ [2, 3, 4] := hi
  simp only [List.mem_cons, List.not_mem_nil, or_false] at hi
  show i < 203 ∧ (kd i = 0 → i + 1 ∈ [2, 3, 4]) ∧ (kd i = 1 → i + 1 ∈ [2, 3, 4]) ∧ (kd i = 2 → i + 1 ∈ [2, 3, 4]) ∧ (kd i = 3 → i + 1 ∈ [2, 3, 4] ∧ i + 4 ∈ [2, 3, 4] ∧ i + 6 ∈ [2, 3, 4] ∧ i + 8 ∈ [2, 3, 4]) ∧ (kd i = 4 → i + 1 ∈ [2, 3, 4]) ∧ (kd i = 5 → i + 1 ∈ [2, 3, 4] ∧ i + 2 ∈ [2, 3, 4]) ∧ (kd i = 6 → i + 1 ∈ [2, 3, 4] ∧ i + 11 ∈ [2, 3, 4] ∧ i + 34 ∈ [2, 3, 4] ∧ i + 97 ∈ [2, 3, 4] ∧ i + 99 ∈ [2, 3, 4]) ∧ (kd i = 7 → True) ∧ (kd i = 10 → ∀ k, k < ln i → i + 2 + 10 * k ∈ [2, 3, 4])
  rcases hi with rfl | rfl | rfl
  · exact ⟨by decide, by decide, by decide, by decide, by decide, by decide, by decide, by decide, by decide, fun h => absurd h (by decide)⟩
  · exact ⟨by decide, by decide, by decide, by decide, by decide, by decide, by decide, by decide, by decide, fun h => absurd h (by decide)⟩
  · exact ⟨by decide, by decide, by decide, by decide, by decide, by decide, by decide, by decide, by decide, fun h => absurd h (by decide)⟩
theorem z_q1 : Cond.methodLink RX4 3 objectInit ∈ AW := AW_of (by decide +kernel) (by decide +kernel)
theorem z_q2 : Cond.classLink RX4 9 RX2 ∈ AW := AW_of (by decide +kernel) (by decide +kernel)
theorem z_q3 : Cond.instantiable RX2 3 ∈ AW := AW_of (by decide +kernel) (by decide +kernel)
theorem z_q4 : Cond.methodLink RX4 11 yX2_init ∈ AW := AW_of (by decide +kernel) (by decide +kernel)
theorem z_q5 : Cond.instanceMethod yX2_init ∈ AW := AW_of (by decide +kernel) (by decide +kernel)
theorem z_q6 : Cond.code yX2_init cX2_init 3 none ∈ AW := AW_of (by decide +kernel) (by decide +kernel)
set_option maxHeartbeats 4000000 in
set_option maxRecDepth 100000 in
theorem z_Night (l : Launch) (D : va_G) (cy : Nat → ClassId) (h0 sz : Nat) : Met l yX4_init (ws_ yX4_init cX4_init 1 none) ({ frames := 4, cells := 2, slots := 51, locals := 96 }) (va_Pc [.ref h0] (fun U => U.heap.size = sz ∧ va_P D vwCl [(h0, .inr (4, [.null, .int 0]))] U.heap ∧ va_K D vwCl (z_ty cy) U ∧ va_D (fun _ => True) [(h0, .inr (4, [.null, .int 0]))] ∧ NW U)) (va_Qv (fun _ : Nat × Nat => True) (fun q t => va_P D vwCl (z_ni cy z_hol h0 q.1 q.2) t.heap ∧ va_K D vwCl (z_ty cy) t ∧ va_D (va_A [(h0, .inr (4, [.null, .int 0]))] sz) (z_ni cy z_hol h0 q.1 q.2)) (va_A [(h0, .inr (4, [.null, .int 0]))] sz)) 2 51 (va_A [(h0, .inr (4, [.null, .int 0]))] sz) := by
  refine Met.ofW (cc := cX4_init) (maxL := 1) (ret := none) (by decide) rfl ?_
  intro p e s m args below meth co s₁ B hml hv
  obtain ⟨rfl, hsz, hP, hK, hD0, hN⟩ := hv
  have hx := B.exec
  have hb := B.bytes
  have hr := B.returns
  have hts0 := atoms_spec (ws := ws_ yX4_init cX4_init 1 none) B.pre
  have hts : ∀ w ∈ AW, w.before _ s = true := fun w hw => hts0 w (List.mem_cons_of_mem _ hw)
  have hown : s.vm.findClass RX4 = some m.cls := findClass_of_methodNamed B.named
  have hlocks := B.notSynchronized
  have hin : meth.name = "<init>" := (name_of_methodNamed B.named B.method).1
  subst hsz
  have hD := hD0.self (sz := s.heap.size)
  generalize hAe : va_A [(h0, .inr (4, [.null, .int 0]))] s.heap.size = A at hD ⊢
  have hA : ∀ q : Nat, s.heap.size ≤ q → A q := fun q h => by rw [← hAe]; exact Or.inr h
  have hS : va_S A s.heap s.heap [] := va_S.rf
  have hP : va_P D vwCl [(h0, .inr (4, [.null, .int 0]))] s.heap := hP
  have hl := lv_entry ([.ref h0]) (n := 1) (Nat.le_of_ble_eq_true rfl)
  rw [lg_entry_eq]
  generalize (lg_sl ([.ref h0]) ++ List.replicate (1 - (lg_sl ([.ref h0])).length) Slot.unset).toArray = ls at hl ⊢
  have hl : lv_has ls 1 [(0, .ref h0)] := hl
  refine lv_aload_n hx hb dX4_init_0 rfl (lv_at hl 0 rfl) ?_
  refine W.objInit hx hb hown (hts _ z_q1) (hts _ z_o2) (hts _ z_o3) rfl (by rw [hml]; exact hl.1) rfl dX4_init_1 (Nat.le_of_ble_eq_true rfl) (Nat.le_of_ble_eq_true rfl) ?_
  refine W.eq (g2 := F0 m 4 ls []) rfl ?_
  refine lv_aload_n hx hb dX4_init_4 rfl (lv_at hl 0 rfl) ?_
  refine va_new (ci := 2) (fs := [.int 0, .int 0, .null]) (C := RX2) (T := TX2) (N := 3) hx hb hts inA2 tyX2 tyX2_ok hown (hts _ z_q2) (hts _ z_q3) (hts _ w_15) hK hP hD hS hA rfl (fun j hj => by rcases (show j = 0 ∨ j = 1 ∨ j = 2 by omega) with rfl | rfl | rfl <;> rfl) (Nat.le_of_ble_eq_true rfl) (Nat.le_of_ble_eq_true rfl) dX4_init_5 (fun q1 H hP hD hS => ?_)
  have hP : va_P D vwCl [(h0, .inr (4, [.null, .int 0])), (q1, .inr (2, [.int 0, .int 0, .null]))] H := hP
  have hD : va_D A [(h0, .inr (4, [.null, .int 0])), (q1, .inr (2, [.int 0, .int 0, .null]))] := hD
  refine W.widen (k := 1) (n := 3) (by omega) (by omega) ?_
  refine lv_dup hx hb dX4_init_8 rfl ?_
  refine lv_iconst (v := 4) hx hb dX4_init_9 (by decide) ?_
  refine lv_bipush (v := 12) hx hb dX4_init_10 (by decide) ?_
  have hPc := hP.sub (ws' := [(q1, .inr (2, [.int 0, .int 0, .null]))]) [1] rfl
  have hDc := hD.sub (ws' := [(q1, .inr (2, [.int 0, .int 0, .null]))]) [1] (by decide) rfl
  have hFc := va_free (wc := [(q1, .inr (2, [.int 0, .int 0, .null]))]) hD hS hA [1] rfl
  refine va_callv (va_runI (As := [.int 4, .int 12]) (rest := [.ref q1, .ref h0]) ⟨hx, hb, hml, hown, hts⟩ (z_Grid l D cy q1 H.size (r := 4) (c := 12) (N := 48) (by decide) (by decide) (by decide) (by decide) (by decide)) (cwI 2 hts (gw_ws z_q6) rfl rfl rfl (hts _ w_15) (hts _ z_q4) (hts _ z_q5) rfl (by decide +kernel) ⟨Nat.le_of_ble_eq_true rfl, Nat.le_of_ble_eq_true rfl⟩) ⟨fun a U g mk q => by obtain ⟨q0, q1, qP, qK, qD⟩ := q; exact ⟨q0, q1, qP, va_K.moved (u := U) (U := U.calling g mk a) (Vm.Alike.refl U.vm) qK, qD⟩, fun U hU hW => ⟨rfl, by rw [hU], by rw [hU]; exact hPc, va_K.moved hW.alike hK, hDc.weaken (fun _ _ _ _ => trivial)⟩⟩ rfl rfl hl.1 rfl (lv_room (Nat.le_of_ble_eq_true rfl)) dX4_init_12 ⟨Nat.le_of_ble_eq_true rfl, Nat.le_of_ble_eq_true rfl⟩) hS (fun q _ h => hFc q h) hFc (fun q2 t H1 locs ht hvm hw hB hz1 hk1 hS => ?_)
  obtain ⟨hP1, hK1, hD1⟩ := hB
  rw [ht] at hP1
  obtain ⟨hP, hD⟩ := va_join (wr := [(h0, .inr (4, [.null, .int 0]))]) (w1 := z_gr cy 4 12 48 (fun _ => 0) q1 q2) hP hD [1] [0] rfl rfl (by decide) (by decide) hk1 hFc hP1 hD1
  generalize H1 = H at hP hS ⊢
  have hP : va_P D vwCl ((h0, .inr (4, [.null, .int 0])) :: z_gr cy 4 12 48 (fun _ => 0) q1 q2) H := hP
  have hD : va_D A ((h0, .inr (4, [.null, .int 0])) :: z_gr cy 4 12 48 (fun _ => 0) q1 q2) := hD
  refine va_putF (D := D) (ci := 4) (v := .ref q1) (ty := .object "SevenAsks$Grid") (C := RX4) (T := TX4) (N := 2) hx hb hts inA4 tyX4 tyX4_ok nmX4 hown hK hP hD hS 0 rfl rfl 0 (by decide) (hts _ w_8) (fun _ h9 => h9) rfl hin rfl (by decide +kernel) rfl rfl (Nat.le_of_ble_eq_true rfl) dX4_init_15 (fun H locs hP hD hS => ?_)
  have hP : va_P D vwCl (wl (z_GN D cy h0 q1 q2) z_x0) H := hP
  have hD : va_D A (wl (z_GN D cy h0 q1 q2) z_x0) := hD
  have C : CT p s m [Value.ref h0].toArray meth co cX4_init 1 RX4 none (z_GN D cy h0 q1 q2) A := ⟨hx, hb, hml, hown, hts, hK, z_DD hD (by show [2, 3, 4].Nodup; decide) (z_clN D cy h0 q1 q2), hA, hr, hlocks, hN⟩
  have k2 : KD (z_GN D cy h0 q1 q2) 2 4 := ⟨by show 2 ∈ [2, 3, 4]; decide, rfl⟩
  have wb : WB p l e ({ frames := 4, cells := 2, slots := 51, locals := 96 }) s m [Value.ref h0].toArray below meth co 1 (z_GN D cy h0 q1 q2) A (MQ below (va_Qv (fun _ : Nat × Nat => True) (fun q t => va_P D vwCl (z_ni cy z_hol h0 q.1 q.2) t.heap ∧ va_K D vwCl (z_ty cy) t ∧ va_D A (z_ni cy z_hol h0 q.1 q.2)) A) [Value.ref h0].toArray s 2 51 A) 2 51 18 [(0, .ref ((z_GN D cy h0 q1 q2).2.2 2))] [] z_x0 := by
    refine b_aload_n C dX4_init_18 rfl 0 rfl ?_
    refine gfX4_14 C k2 dX4_init_19 ?_
    refine b_iconst (v := (-1)) C dX4_init_22 (by decide) ?_
    refine b_callVv (K := 2) (As := [.int (-1)]) (res := z_xN) C (metX2_fill l _ _ _ _ _ (kd4 C.cl k2) z_fillN) (kd4 C.cl k2) (by decide) rfl gkX4_20 ekX4_20 rfl ⟨rfl, rfl⟩ ⟨Nat.le_of_ble_eq_true rfl, Nat.le_of_ble_eq_true rfl⟩ (by simp [Value.category]) ⟨Nat.le_of_ble_eq_true rfl, Nat.le_of_ble_eq_true rfl⟩ rfl dX4_init_23 ?_
    intro H locs ls h1 h2 h3
    exact W.vret hx hb hr (fun t ht hW => ⟨⟨(q1, q2), rfl, trivial, by rw [ht]; exact h2, va_K.moved hW.alike hK, wl_D C.D z_xN⟩, h3.F ht⟩) h3.2.2 dX4_init_26
  exact wb H locs ls hl hP hS
