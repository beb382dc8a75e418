theorem y_M1 : Cond.methodLink RX7 1 objectInit ∈ AW := AW_of (by decide +kernel) (by decide +kernel)
def y_L6 : List Nat := [101, 102, 103, 104, 105, 106]
def y_GM (D : va_G) (cy : Nat → ClassId) (ad : Nat → Nat) : gT := (D, (cy, y_L6), ad)
def y_rA (j : Nat) : Nat → Int32 := fun k => if k < 6 * j ∧ k % 6 = 0 then z_I (k / 6) else 0
def y_xA (j : Nat) : xS := upR z_x0 102 (y_rA j)
def y_xB (j : Nat) : xS := upR z_x0 102 (fun k => if 60 ≤ k ∧ k < 60 + j then -1 else y_rA 10 k)
def y_xM : xS := up1 (y_xB 48) 102 119 3
theorem y_gd {k : Nat} (h : k < 120) : ¬ (z_I k < 0 ∨ ln 102 ≤ (z_I k).toNatClampNeg) := by
  intro w
  rw [z_I_nn (by omega), z_I_nat (by omega)] at w
  rcases w with w | w
  · exact w
  · have : (120 : Nat) ≤ k := w
    omega
theorem y_A0 : y_xA 0 = z_x0 := by
  refine Prod.ext (funext fun i => funext fun k => ?_) rfl
  unfold y_xA
  rw [z_upR_at]
  by_cases h : i = 102
  · rw [if_pos h, h]; unfold y_rA; rw [if_neg (by omega)]; rfl
  · rw [if_neg h]
theorem y_As {j : Nat} (hj : j < 10) : up1 (y_xA j) 102 (z_I (6 * j + 0)).toNatClampNeg (z_I j) = y_xA (j + 1) := by
  rw [z_I_nat (by omega)]
  refine Prod.ext (funext fun i => funext fun k => ?_) rfl
  rw [z_up1_at]
  unfold y_xA
  rw [z_upR_at, z_upR_at]
  by_cases h : i = 102
  · rw [if_pos h, if_pos h]
    unfold y_rA
    by_cases hk : k = 6 * j + 0
    · rw [if_pos ⟨h, hk⟩, if_pos (by omega), show k / 6 = j by omega]
    · rw [if_neg (fun w => hk w.2)]
      by_cases h2 : k < 6 * j ∧ k % 6 = 0
      · rw [if_pos h2, if_pos (by omega)]
      · rw [if_neg h2, if_neg (by omega)]
  · rw [if_neg (fun w => h w.1), if_neg h, if_neg h]
theorem y_B0 : y_xB 0 = y_xA 10 := by
  refine Prod.ext (funext fun i => funext fun k => ?_) rfl
  unfold y_xA y_xB
  rw [z_upR_at, z_upR_at]
  by_cases h : i = 102
  · rw [if_pos h, if_pos h, if_neg (by omega)]
  · rw [if_neg h, if_neg h]
theorem y_Bs {j : Nat} (hj : j < 48) : up1 (y_xB j) 102 (z_I (60 + j)).toNatClampNeg (-1) = y_xB (j + 1) := by
  rw [z_I_nat (by omega)]
  refine Prod.ext (funext fun i => funext fun k => ?_) rfl
  rw [z_up1_at]
  unfold y_xB
  rw [z_upR_at, z_upR_at]
  by_cases h : i = 102
  · rw [if_pos h, if_pos h]
    by_cases hk : k = 60 + j
    · rw [if_pos ⟨h, hk⟩, if_pos (by omega)]
    · rw [if_neg (fun w => hk w.2)]
      by_cases h2 : 60 ≤ k ∧ k < 60 + j
      · rw [if_pos h2, if_pos (by omega)]
      · rw [if_neg h2, if_neg (by omega)]
  · rw [if_neg (fun w => h w.1), if_neg h, if_neg h]
theorem y_M102 : y_xM.1 102 = z_s00 := by
  funext k
  unfold y_xM
  rw [z_up1_at]
  unfold y_xB z_s00
  rw [z_upR_at, if_pos rfl]
  by_cases h : k = 119
  · rw [if_pos ⟨rfl, h⟩, if_neg (by omega), if_neg (by omega), if_pos h]
  · rw [if_neg (fun w => h w.2)]
    unfold y_rA
    by_cases h1 : k < 60
    · rw [if_neg (by omega), if_pos h1]
      by_cases h2 : k % 6 = 0
      · rw [if_pos (by omega), if_pos h2]
      · rw [if_neg (by omega), if_neg h2]
    · rw [if_neg h1]
      by_cases h2 : k < 108
      · rw [if_pos (by omega), if_pos h2]
      · rw [if_neg (by omega), if_neg (by omega), if_neg h2, if_neg h]
theorem y_clM (D : va_G) (cy : Nat → ClassId) (ad : Nat → Nat) : CL (y_GM D cy ad) := by
  intro i hi
  have hi : i ∈ y_L6 := hi
  unfold y_L6 at hi
  simp only [List.mem_cons, List.not_mem_nil, or_false] at hi
  show i < 108 ∧ (kd i = 0 → i + 1 ∈ y_L6) ∧ (kd i = 1 → i + 1 ∈ y_L6) ∧ (kd i = 2 → i + 1 ∈ y_L6) ∧ (kd i = 3 → i + 1 ∈ y_L6 ∧ i + 4 ∈ y_L6 ∧ i + 6 ∈ y_L6 ∧ i + 8 ∈ y_L6) ∧ (kd i = 4 → i + 1 ∈ y_L6) ∧ (kd i = 5 → i + 1 ∈ y_L6 ∧ i + 2 ∈ y_L6) ∧ (kd i = 6 → i + 1 ∈ y_L6 ∧ i + 11 ∈ y_L6 ∧ i + 34 ∈ y_L6 ∧ i + 97 ∈ y_L6 ∧ i + 99 ∈ y_L6) ∧ (kd i = 7 → i + 1 ∈ y_L6 ∧ i + 2 ∈ y_L6 ∧ i + 3 ∈ y_L6 ∧ i + 4 ∈ y_L6 ∧ i + 5 ∈ y_L6) ∧ (kd i = 10 → ∀ k, k < ln i → i + 2 + 10 * k ∈ y_L6)
  rcases hi with rfl | rfl | rfl | rfl | rfl | rfl
  · exact ⟨by decide, by decide, by decide, by decide, by decide, by decide, by decide, by decide, by decide, fun h => absurd h (by decide)⟩
  · exact ⟨by decide, by decide, by decide, by decide, by decide, by decide, by decide, by decide, by decide, fun h => absurd h (by decide)⟩
  · exact ⟨by decide, by decide, by decide, by decide, by decide, by decide, by decide, by decide, by decide, fun h => absurd h (by decide)⟩
  · exact ⟨by decide, by decide, by decide, by decide, by decide, by decide, by decide, by decide, by decide, fun h => absurd h (by decide)⟩
  · exact ⟨by decide, by decide, by decide, by decide, by decide, by decide, by decide, by decide, by decide, fun h => absurd h (by decide)⟩
  · exact ⟨by decide, by decide, by decide, by decide, by decide, by decide, by decide, by decide, by decide, fun h => absurd h (by decide)⟩
set_option maxHeartbeats 8000000 in
set_option maxRecDepth 100000 in
theorem y_Model (l : Launch) (D : va_G) (cy : Nat → ClassId) (h0 sz : Nat) : Met l yX7_init (ws_ yX7_init cX7_init 2 none) ({ frames := 3, cells := 5, slots := 1260, locals := 96 }) (va_Pc [.ref h0] (fun U => U.heap.size = sz ∧ va_P D vwCl [(h0, .inr (7, [.int 0, .null, .null, .null, .int 0, .null, .int 0, .null, .int 0, .int 0, .int 0, .int 0, .int 0, .int 0, .int 0, .long 0]))] U.heap ∧ va_K D vwCl (z_ty cy) U ∧ va_D (fun _ => True) [(h0, .inr (7, [.int 0, .null, .null, .null, .int 0, .null, .int 0, .null, .int 0, .int 0, .int 0, .int 0, .int 0, .int 0, .int 0, .long 0]))] ∧ NW U)) (va_Qv (fun _ : Nat → Nat => True) (fun ad t => ad 101 = h0 ∧ va_P D vwCl (wl (y_GM D cy ad) y_xM) t.heap ∧ va_K D vwCl (z_ty cy) t ∧ va_D (va_A [(h0, .inr (7, [.int 0, .null, .null, .null, .int 0, .null, .int 0, .null, .int 0, .int 0, .int 0, .int 0, .int 0, .int 0, .int 0, .long 0]))] sz) (wl (y_GM D cy ad) y_xM)) (va_A [(h0, .inr (7, [.int 0, .null, .null, .null, .int 0, .null, .int 0, .null, .int 0, .int 0, .int 0, .int 0, .int 0, .int 0, .int 0, .long 0]))] sz)) 5 1260 (va_A [(h0, .inr (7, [.int 0, .null, .null, .null, .int 0, .null, .int 0, .null, .int 0, .int 0, .int 0, .int 0, .int 0, .int 0, .int 0, .long 0]))] sz) := by
  refine Met.ofW (cc := cX7_init) (maxL := 2) (ret := none) (by decide) rfl ?_
  intro p e s m args below meth co s₁ B hml hv
  obtain ⟨rfl, hsz, hP, hK, hD0, hN⟩ := hv
  have hx := B.exec
  have hb := B.bytes
  have hr := B.returns
  have hts0 := atoms_spec (ws := ws_ yX7_init cX7_init 2 none) B.pre
  have hts : ∀ w ∈ AW, w.before _ s = true := fun w hw => hts0 w (List.mem_cons_of_mem _ hw)
  have hown : s.vm.findClass RX7 = some m.cls := findClass_of_methodNamed B.named
  have hlocks := B.notSynchronized
  have hin : meth.name = "<init>" := (name_of_methodNamed B.named B.method).1
  subst hsz
  have hD := hD0.self (sz := s.heap.size)
  generalize hAe : va_A [(h0, .inr (7, [.int 0, .null, .null, .null, .int 0, .null, .int 0, .null, .int 0, .int 0, .int 0, .int 0, .int 0, .int 0, .int 0, .long 0]))] s.heap.size = A at hD ⊢
  have hA : ∀ q : Nat, s.heap.size ≤ q → A q := fun q h => by rw [← hAe]; exact Or.inr h
  have hS : va_S A s.heap s.heap [] := va_S.rf
  have hP : va_P D vwCl [(h0, .inr (7, [.int 0, .null, .null, .null, .int 0, .null, .int 0, .null, .int 0, .int 0, .int 0, .int 0, .int 0, .int 0, .int 0, .long 0]))] s.heap := hP
  have hl := lv_entry ([.ref h0]) (n := 2) (Nat.le_of_ble_eq_true rfl)
  rw [lg_entry_eq]
  generalize (lg_sl ([.ref h0]) ++ List.replicate (2 - (lg_sl ([.ref h0])).length) Slot.unset).toArray = ls at hl ⊢
  have hl : lv_has ls 2 [(0, .ref h0)] := hl
  refine lv_aload_n hx hb dX7_init_0 rfl (lv_at hl 0 rfl) ?_
  refine W.objInit hx hb hown (hts _ y_M1) (hts _ z_o2) (hts _ z_o3) rfl (by rw [hml]; exact hl.1) rfl dX7_init_1 (Nat.le_of_ble_eq_true rfl) (Nat.le_of_ble_eq_true rfl) ?_
  refine W.eq (g2 := F0 m 4 ls []) rfl ?_
  refine lv_aload_n hx hb dX7_init_4 rfl (lv_at hl 0 rfl) ?_
  refine lv_bipush (v := 120) hx hb dX7_init_5 (by decide) ?_
  refine va_newa (atype := .int) (ty := .int) (N' := 120) (a0 := (120, .inl (fun _ => 0))) hx hb (hts _ z_o5) rfl hK hP hD hS hA (fun _ => rfl) (by decide) (by decide) (by decide) (Nat.le_of_ble_eq_true rfl) (Nat.le_of_ble_eq_true rfl) dX7_init_7 (fun q1 cA H hK hP hD hS => ?_)
  have ec : cA = cy 0 := Option.some.inj ((va_nm_int (hK.2 4 _ rfl).2).symm.trans (va_nm_int (hK.2 0 _ rfl).2))
  subst ec
  have hP : va_P D vwCl [(h0, .inr (7, [.int 0, .null, .null, .null, .int 0, .null, .int 0, .null, .int 0, .int 0, .int 0, .int 0, .int 0, .int 0, .int 0, .long 0])), (q1, .inl (cy 0, 120, .inl (fun _ => 0)))] H := hP
  have hD : va_D A [(h0, .inr (7, [.int 0, .null, .null, .null, .int 0, .null, .int 0, .null, .int 0, .int 0, .int 0, .int 0, .int 0, .int 0, .int 0, .long 0])), (q1, .inl (cy 0, 120, .inl (fun _ => 0)))] := hD
  have hK := hK.sub (tys' := z_ty cy) [0, 1, 2, 3] rfl
  refine va_putF (D := D) (ci := 7) (v := .ref q1) (ty := .array .int) (C := RX7) (T := TX7) (N := 16) hx hb hts inA7 tyX7 tyX7_ok nmX7 hown hK hP hD hS 0 rfl rfl 1 (by decide) (hts _ w_371) (fun _ h9 => h9) rfl hin rfl (by decide +kernel) rfl rfl (Nat.le_of_ble_eq_true rfl) dX7_init_9 (fun H locs hP hD hS => ?_)
  have hP : va_P D vwCl [(h0, .inr (7, [.int 0, .ref q1, .null, .null, .int 0, .null, .int 0, .null, .int 0, .int 0, .int 0, .int 0, .int 0, .int 0, .int 0, .long 0])), (q1, .inl (cy 0, 120, .inl (fun _ => 0)))] H := hP
  have hD : va_D A [(h0, .inr (7, [.int 0, .ref q1, .null, .null, .int 0, .null, .int 0, .null, .int 0, .int 0, .int 0, .int 0, .int 0, .int 0, .int 0, .long 0])), (q1, .inl (cy 0, 120, .inl (fun _ => 0)))] := hD
  refine W.widen (k := 1) (n := 120) (by omega) (by omega) ?_
  refine lv_aload_n hx hb dX7_init_12 rfl (lv_at hl 0 rfl) ?_
  refine lv_bipush (v := 120) hx hb dX7_init_13 (by decide) ?_
  refine va_newa (atype := .int) (ty := .int) (N' := 120) (a0 := (120, .inl (fun _ => 0))) hx hb (hts _ z_o5) rfl hK hP hD hS hA (fun _ => rfl) (by decide) (by decide) (by decide) (Nat.le_of_ble_eq_true rfl) (Nat.le_of_ble_eq_true rfl) dX7_init_15 (fun q2 cA H hK hP hD hS => ?_)
  have ec : cA = cy 0 := Option.some.inj ((va_nm_int (hK.2 4 _ rfl).2).symm.trans (va_nm_int (hK.2 0 _ rfl).2))
  subst ec
  have hP : va_P D vwCl [(h0, .inr (7, [.int 0, .ref q1, .null, .null, .int 0, .null, .int 0, .null, .int 0, .int 0, .int 0, .int 0, .int 0, .int 0, .int 0, .long 0])), (q1, .inl (cy 0, 120, .inl (fun _ => 0))), (q2, .inl (cy 0, 120, .inl (fun _ => 0)))] H := hP
  have hD : va_D A [(h0, .inr (7, [.int 0, .ref q1, .null, .null, .int 0, .null, .int 0, .null, .int 0, .int 0, .int 0, .int 0, .int 0, .int 0, .int 0, .long 0])), (q1, .inl (cy 0, 120, .inl (fun _ => 0))), (q2, .inl (cy 0, 120, .inl (fun _ => 0)))] := hD
  have hK := hK.sub (tys' := z_ty cy) [0, 1, 2, 3] rfl
  refine va_putF (D := D) (ci := 7) (v := .ref q2) (ty := .array .int) (C := RX7) (T := TX7) (N := 16) hx hb hts inA7 tyX7 tyX7_ok nmX7 hown hK hP hD hS 0 rfl rfl 2 (by decide) (hts _ w_459) (fun _ h9 => h9) rfl hin rfl (by decide +kernel) rfl rfl (Nat.le_of_ble_eq_true rfl) dX7_init_17 (fun H locs hP hD hS => ?_)
  have hP : va_P D vwCl [(h0, .inr (7, [.int 0, .ref q1, .ref q2, .null, .int 0, .null, .int 0, .null, .int 0, .int 0, .int 0, .int 0, .int 0, .int 0, .int 0, .long 0])), (q1, .inl (cy 0, 120, .inl (fun _ => 0))), (q2, .inl (cy 0, 120, .inl (fun _ => 0)))] H := hP
  have hD : va_D A [(h0, .inr (7, [.int 0, .ref q1, .ref q2, .null, .int 0, .null, .int 0, .null, .int 0, .int 0, .int 0, .int 0, .int 0, .int 0, .int 0, .long 0])), (q1, .inl (cy 0, 120, .inl (fun _ => 0))), (q2, .inl (cy 0, 120, .inl (fun _ => 0)))] := hD
  refine W.widen (k := 2) (n := 240) (by omega) (by omega) ?_
  refine lv_aload_n hx hb dX7_init_20 rfl (lv_at hl 0 rfl) ?_
  refine lv_sipush (v := 720) hx hb dX7_init_21 (by decide) ?_
  refine va_newa (atype := .int) (ty := .int) (N' := 720) (a0 := (720, .inl (fun _ => 0))) hx hb (hts _ z_o5) rfl hK hP hD hS hA (fun _ => rfl) (by decide) (by decide) (by decide) (Nat.le_of_ble_eq_true rfl) (Nat.le_of_ble_eq_true rfl) dX7_init_24 (fun q3 cA H hK hP hD hS => ?_)
  have ec : cA = cy 0 := Option.some.inj ((va_nm_int (hK.2 4 _ rfl).2).symm.trans (va_nm_int (hK.2 0 _ rfl).2))
  subst ec
  have hP : va_P D vwCl [(h0, .inr (7, [.int 0, .ref q1, .ref q2, .null, .int 0, .null, .int 0, .null, .int 0, .int 0, .int 0, .int 0, .int 0, .int 0, .int 0, .long 0])), (q1, .inl (cy 0, 120, .inl (fun _ => 0))), (q2, .inl (cy 0, 120, .inl (fun _ => 0))), (q3, .inl (cy 0, 720, .inl (fun _ => 0)))] H := hP
  have hD : va_D A [(h0, .inr (7, [.int 0, .ref q1, .ref q2, .null, .int 0, .null, .int 0, .null, .int 0, .int 0, .int 0, .int 0, .int 0, .int 0, .int 0, .long 0])), (q1, .inl (cy 0, 120, .inl (fun _ => 0))), (q2, .inl (cy 0, 120, .inl (fun _ => 0))), (q3, .inl (cy 0, 720, .inl (fun _ => 0)))] := hD
  have hK := hK.sub (tys' := z_ty cy) [0, 1, 2, 3] rfl
  refine va_putF (D := D) (ci := 7) (v := .ref q3) (ty := .array .int) (C := RX7) (T := TX7) (N := 16) hx hb hts inA7 tyX7 tyX7_ok nmX7 hown hK hP hD hS 0 rfl rfl 3 (by decide) (hts _ w_370) (fun _ h9 => h9) rfl hin rfl (by decide +kernel) rfl rfl (Nat.le_of_ble_eq_true rfl) dX7_init_26 (fun H locs hP hD hS => ?_)
  have hP : va_P D vwCl [(h0, .inr (7, [.int 0, .ref q1, .ref q2, .ref q3, .int 0, .null, .int 0, .null, .int 0, .int 0, .int 0, .int 0, .int 0, .int 0, .int 0, .long 0])), (q1, .inl (cy 0, 120, .inl (fun _ => 0))), (q2, .inl (cy 0, 120, .inl (fun _ => 0))), (q3, .inl (cy 0, 720, .inl (fun _ => 0)))] H := hP
  have hD : va_D A [(h0, .inr (7, [.int 0, .ref q1, .ref q2, .ref q3, .int 0, .null, .int 0, .null, .int 0, .int 0, .int 0, .int 0, .int 0, .int 0, .int 0, .long 0])), (q1, .inl (cy 0, 120, .inl (fun _ => 0))), (q2, .inl (cy 0, 120, .inl (fun _ => 0))), (q3, .inl (cy 0, 720, .inl (fun _ => 0)))] := hD
  refine W.widen (k := 3) (n := 960) (by omega) (by omega) ?_
  refine lv_aload_n hx hb dX7_init_29 rfl (lv_at hl 0 rfl) ?_
  refine lv_sipush (v := 240) hx hb dX7_init_30 (by decide) ?_
  refine va_newa (atype := .int) (ty := .int) (N' := 240) (a0 := (240, .inl (fun _ => 0))) hx hb (hts _ z_o5) rfl hK hP hD hS hA (fun _ => rfl) (by decide) (by decide) (by decide) (Nat.le_of_ble_eq_true rfl) (Nat.le_of_ble_eq_true rfl) dX7_init_33 (fun q4 cA H hK hP hD hS => ?_)
  have ec : cA = cy 0 := Option.some.inj ((va_nm_int (hK.2 4 _ rfl).2).symm.trans (va_nm_int (hK.2 0 _ rfl).2))
  subst ec
  have hP : va_P D vwCl [(h0, .inr (7, [.int 0, .ref q1, .ref q2, .ref q3, .int 0, .null, .int 0, .null, .int 0, .int 0, .int 0, .int 0, .int 0, .int 0, .int 0, .long 0])), (q1, .inl (cy 0, 120, .inl (fun _ => 0))), (q2, .inl (cy 0, 120, .inl (fun _ => 0))), (q3, .inl (cy 0, 720, .inl (fun _ => 0))), (q4, .inl (cy 0, 240, .inl (fun _ => 0)))] H := hP
  have hD : va_D A [(h0, .inr (7, [.int 0, .ref q1, .ref q2, .ref q3, .int 0, .null, .int 0, .null, .int 0, .int 0, .int 0, .int 0, .int 0, .int 0, .int 0, .long 0])), (q1, .inl (cy 0, 120, .inl (fun _ => 0))), (q2, .inl (cy 0, 120, .inl (fun _ => 0))), (q3, .inl (cy 0, 720, .inl (fun _ => 0))), (q4, .inl (cy 0, 240, .inl (fun _ => 0)))] := hD
  have hK := hK.sub (tys' := z_ty cy) [0, 1, 2, 3] rfl
  refine va_putF (D := D) (ci := 7) (v := .ref q4) (ty := .array .int) (C := RX7) (T := TX7) (N := 16) hx hb hts inA7 tyX7 tyX7_ok nmX7 hown hK hP hD hS 0 rfl rfl 5 (by decide) (hts _ w_513) (fun _ h9 => h9) rfl hin rfl (by decide +kernel) rfl rfl (Nat.le_of_ble_eq_true rfl) dX7_init_35 (fun H locs hP hD hS => ?_)
  have hP : va_P D vwCl [(h0, .inr (7, [.int 0, .ref q1, .ref q2, .ref q3, .int 0, .ref q4, .int 0, .null, .int 0, .int 0, .int 0, .int 0, .int 0, .int 0, .int 0, .long 0])), (q1, .inl (cy 0, 120, .inl (fun _ => 0))), (q2, .inl (cy 0, 120, .inl (fun _ => 0))), (q3, .inl (cy 0, 720, .inl (fun _ => 0))), (q4, .inl (cy 0, 240, .inl (fun _ => 0)))] H := hP
  have hD : va_D A [(h0, .inr (7, [.int 0, .ref q1, .ref q2, .ref q3, .int 0, .ref q4, .int 0, .null, .int 0, .int 0, .int 0, .int 0, .int 0, .int 0, .int 0, .long 0])), (q1, .inl (cy 0, 120, .inl (fun _ => 0))), (q2, .inl (cy 0, 120, .inl (fun _ => 0))), (q3, .inl (cy 0, 720, .inl (fun _ => 0))), (q4, .inl (cy 0, 240, .inl (fun _ => 0)))] := hD
  refine W.widen (k := 4) (n := 1200) (by omega) (by omega) ?_
  refine lv_aload_n hx hb dX7_init_38 rfl (lv_at hl 0 rfl) ?_
  refine lv_bipush (v := 60) hx hb dX7_init_39 (by decide) ?_
  refine va_newa (atype := .int) (ty := .int) (N' := 60) (a0 := (60, .inl (fun _ => 0))) hx hb (hts _ z_o5) rfl hK hP hD hS hA (fun _ => rfl) (by decide) (by decide) (by decide) (Nat.le_of_ble_eq_true rfl) (Nat.le_of_ble_eq_true rfl) dX7_init_41 (fun q5 cA H hK hP hD hS => ?_)
  have ec : cA = cy 0 := Option.some.inj ((va_nm_int (hK.2 4 _ rfl).2).symm.trans (va_nm_int (hK.2 0 _ rfl).2))
  subst ec
  have hP : va_P D vwCl [(h0, .inr (7, [.int 0, .ref q1, .ref q2, .ref q3, .int 0, .ref q4, .int 0, .null, .int 0, .int 0, .int 0, .int 0, .int 0, .int 0, .int 0, .long 0])), (q1, .inl (cy 0, 120, .inl (fun _ => 0))), (q2, .inl (cy 0, 120, .inl (fun _ => 0))), (q3, .inl (cy 0, 720, .inl (fun _ => 0))), (q4, .inl (cy 0, 240, .inl (fun _ => 0))), (q5, .inl (cy 0, 60, .inl (fun _ => 0)))] H := hP
  have hD : va_D A [(h0, .inr (7, [.int 0, .ref q1, .ref q2, .ref q3, .int 0, .ref q4, .int 0, .null, .int 0, .int 0, .int 0, .int 0, .int 0, .int 0, .int 0, .long 0])), (q1, .inl (cy 0, 120, .inl (fun _ => 0))), (q2, .inl (cy 0, 120, .inl (fun _ => 0))), (q3, .inl (cy 0, 720, .inl (fun _ => 0))), (q4, .inl (cy 0, 240, .inl (fun _ => 0))), (q5, .inl (cy 0, 60, .inl (fun _ => 0)))] := hD
  have hK := hK.sub (tys' := z_ty cy) [0, 1, 2, 3] rfl
  refine va_putF (D := D) (ci := 7) (v := .ref q5) (ty := .array .int) (C := RX7) (T := TX7) (N := 16) hx hb hts inA7 tyX7 tyX7_ok nmX7 hown hK hP hD hS 0 rfl rfl 7 (by decide) (hts _ w_362) (fun _ h9 => h9) rfl hin rfl (by decide +kernel) rfl rfl (Nat.le_of_ble_eq_true rfl) dX7_init_43 (fun H locs hP hD hS => ?_)
  have hP : va_P D vwCl [(h0, .inr (7, [.int 0, .ref q1, .ref q2, .ref q3, .int 0, .ref q4, .int 0, .ref q5, .int 0, .int 0, .int 0, .int 0, .int 0, .int 0, .int 0, .long 0])), (q1, .inl (cy 0, 120, .inl (fun _ => 0))), (q2, .inl (cy 0, 120, .inl (fun _ => 0))), (q3, .inl (cy 0, 720, .inl (fun _ => 0))), (q4, .inl (cy 0, 240, .inl (fun _ => 0))), (q5, .inl (cy 0, 60, .inl (fun _ => 0)))] H := hP
  have hD : va_D A [(h0, .inr (7, [.int 0, .ref q1, .ref q2, .ref q3, .int 0, .ref q4, .int 0, .ref q5, .int 0, .int 0, .int 0, .int 0, .int 0, .int 0, .int 0, .long 0])), (q1, .inl (cy 0, 120, .inl (fun _ => 0))), (q2, .inl (cy 0, 120, .inl (fun _ => 0))), (q3, .inl (cy 0, 720, .inl (fun _ => 0))), (q4, .inl (cy 0, 240, .inl (fun _ => 0))), (q5, .inl (cy 0, 60, .inl (fun _ => 0)))] := hD
  refine W.widen (k := 5) (n := 1260) (by omega) (by omega) ?_
  obtain ⟨ad, had⟩ : ∃ ad : Nat → Nat, ad = fun i => if i = 101 then h0 else if i = 102 then q1 else if i = 103 then q2 else if i = 104 then q3 else if i = 105 then q4 else q5 := ⟨_, rfl⟩
  have hP : va_P D vwCl (wl (y_GM D cy ad) z_x0) H := by rw [had]; exact hP
  have hD : va_D A (wl (y_GM D cy ad) z_x0) := by rw [had]; exact hD
  have h01 : ad 101 = h0 := by rw [had]; rfl
  have hl : lv_has ls 2 [(0, .ref (ad 101))] := by rw [h01]; exact hl
  have C : CT p s m [Value.ref h0].toArray meth co cX7_init 2 RX7 none (y_GM D cy ad) A := ⟨hx, hb, hml, hown, hts, hK, z_DD hD (by show y_L6.Nodup; decide) (y_clM D cy ad), hA, hr, hlocks, hN⟩
  have k1 : KD (y_GM D cy ad) 101 7 := ⟨by show 101 ∈ y_L6; decide, rfl⟩
  have lb : ∀ d j, j + d = 48 → WB p l e ({ frames := 3, cells := 5, slots := 1260, locals := 96 }) s m [Value.ref h0].toArray below meth co 2 (y_GM D cy ad) A (MQ below (va_Qv (fun _ : Nat → Nat => True) (fun ad t => ad 101 = h0 ∧ va_P D vwCl (wl (y_GM D cy ad) y_xM) t.heap ∧ va_K D vwCl (z_ty cy) t ∧ va_D A (wl (y_GM D cy ad) y_xM)) A) [Value.ref h0].toArray s 5 1260 A) 5 1260 73 [(0, .ref ((y_GM D cy ad).2.2 101)), (1, .int (z_I j))] [] (y_xB j) := by
    intro d
    induction d with
    | zero =>
      intro j hj
      have : j = 48 := by omega
      subst this
      refine b_iload_n C dX7_init_73 rfl 1 rfl ?_
      refine b_bipush (v := 48) C dX7_init_74 (by decide) ?_
      refine b_icmp_ge (tgt := 95) C dX7_init_76 (by decide) (fun c9 => ?_) (fun c9 => absurd (show (48 : Int32) ≤ z_I 48 by decide) c9)
      refine b_aload_n C dX7_init_95 rfl 0 rfl ?_
      refine gfX7_7 C k1 dX7_init_96 ?_
      refine b_bipush (v := 119) C dX7_init_99 (by decide) ?_
      refine b_iconst (v := 3) C dX7_init_101 (by decide) ?_
      refine b_iast C ((kd7 C.cl k1).1) (y_gd (k := 119) (by omega)) dX7_init_102 ?_
      intro H locs ls h1 h2 h3
      exact W.vret hx hb hr (fun t ht hW => ⟨⟨ad, rfl, trivial, h01, by rw [ht]; exact h2, va_K.moved hW.alike hK, wl_D C.D y_xM⟩, h3.F ht⟩) h3.2.2 dX7_init_103
    | succ d ih =>
      intro j hj
      refine b_iload_n C dX7_init_73 rfl 1 rfl ?_
      refine b_bipush (v := 48) C dX7_init_74 (by decide) ?_
      refine b_icmp_ge (tgt := 95) C dX7_init_76 (by decide) (fun c9 => absurd c9 (by rw [show (48 : Int32) = z_I 48 from rfl, z_I_le (by omega) (by omega)]; omega)) (fun c9 => ?_)
      refine b_aload_n C dX7_init_79 rfl 0 rfl ?_
      refine gfX7_7 C k1 dX7_init_80 ?_
      refine b_bipush (v := 60) C dX7_init_83 (by decide) ?_
      refine b_iload_n C dX7_init_85 rfl 1 rfl ?_
      refine b_iadd C dX7_init_86 ?_
      refine b_iconst (v := (-1)) C dX7_init_87 (by decide) ?_
      rw [show (60 : Int32) + z_I j = z_I (60 + j) by rw [z_L60, z_I_add]]
      refine b_iast C ((kd7 C.cl k1).1) (y_gd (k := 60 + j) (by omega)) dX7_init_88 ?_
      rw [y_Bs (by omega)]
      refine b_iinc (q := 1) (v' := (z_I j + 1)) (lv' := [(1, .int (z_I j + 1)), (0, .ref ((y_GM D cy ad).2.2 101))]) C dX7_init_89 rfl rfl (by decide) rfl ?_
      refine b_goto (tgt := 73) C dX7_init_92 (by decide) ?_
      rw [z_I_s]
      refine b_pm [1, 0] (lv' := [(0, .ref ((y_GM D cy ad).2.2 101)), (1, .int (z_I (j + 1)))]) rfl ?_
      exact ih (j + 1) (by omega)
  have la : ∀ d j, j + d = 10 → WB p l e ({ frames := 3, cells := 5, slots := 1260, locals := 96 }) s m [Value.ref h0].toArray below meth co 2 (y_GM D cy ad) A (MQ below (va_Qv (fun _ : Nat → Nat => True) (fun ad t => ad 101 = h0 ∧ va_P D vwCl (wl (y_GM D cy ad) y_xM) t.heap ∧ va_K D vwCl (z_ty cy) t ∧ va_D A (wl (y_GM D cy ad) y_xM)) A) [Value.ref h0].toArray s 5 1260 A) 5 1260 48 [(0, .ref ((y_GM D cy ad).2.2 101)), (1, .int (z_I j))] [] (y_xA j) := by
    intro d
    induction d with
    | zero =>
      intro j hj
      have : j = 10 := by omega
      subst this
      refine b_iload_n C dX7_init_48 rfl 1 rfl ?_
      refine b_bipush (v := 10) C dX7_init_49 (by decide) ?_
      refine b_icmp_ge (tgt := 71) C dX7_init_51 (by decide) (fun c9 => ?_) (fun c9 => absurd (show (10 : Int32) ≤ z_I 10 by decide) c9)
      refine b_iconst (v := 0) C dX7_init_71 (by decide) ?_
      refine b_istore_n (lv' := [(1, .int 0), (0, .ref ((y_GM D cy ad).2.2 101))]) C dX7_init_72 rfl (by decide) rfl ?_
      refine b_pm [1, 0] (lv' := [(0, .ref ((y_GM D cy ad).2.2 101)), (1, .int (z_I 0))]) rfl ?_
      rw [← y_B0]
      exact lb 48 0 rfl
    | succ d ih =>
      intro j hj
      refine b_iload_n C dX7_init_48 rfl 1 rfl ?_
      refine b_bipush (v := 10) C dX7_init_49 (by decide) ?_
      refine b_icmp_ge (tgt := 71) C dX7_init_51 (by decide) (fun c9 => absurd c9 (by rw [show (10 : Int32) = z_I 10 from rfl, z_I_le (by omega) (by omega)]; omega)) (fun c9 => ?_)
      refine b_aload_n C dX7_init_54 rfl 0 rfl ?_
      refine gfX7_7 C k1 dX7_init_55 ?_
      refine b_iload_n C dX7_init_58 rfl 1 rfl ?_
      refine b_iconst (v := 0) C dX7_init_59 (by decide) ?_
      refine b_callSi (As := [.int (z_I j), .int 0]) (res := (z_I (6 * j + 0), y_xA j)) C (metX7_of l _ _ _ _ _ (z_r_of j 0 (y_xA j))) gkX7_25 ekX7_25 rfl ⟨rfl, rfl⟩ ⟨Nat.le_of_ble_eq_true rfl, Nat.le_of_ble_eq_true rfl⟩ (by simp [Value.category]) ⟨Nat.le_of_ble_eq_true rfl, Nat.le_of_ble_eq_true rfl⟩ rfl dX7_init_60 ?_
      refine b_iload_n C dX7_init_63 rfl 1 rfl ?_
      refine b_iast C ((kd7 C.cl k1).1) (y_gd (k := 6 * j + 0) (by omega)) dX7_init_64 ?_
      rw [y_As (by omega)]
      refine b_iinc (q := 1) (v' := (z_I j + 1)) (lv' := [(1, .int (z_I j + 1)), (0, .ref ((y_GM D cy ad).2.2 101))]) C dX7_init_65 rfl rfl (by decide) rfl ?_
      refine b_goto (tgt := 48) C dX7_init_68 (by decide) ?_
      rw [z_I_s]
      refine b_pm [1, 0] (lv' := [(0, .ref ((y_GM D cy ad).2.2 101)), (1, .int (z_I (j + 1)))]) rfl ?_
      exact ih (j + 1) (by omega)
  have st : WB p l e ({ frames := 3, cells := 5, slots := 1260, locals := 96 }) s m [Value.ref h0].toArray below meth co 2 (y_GM D cy ad) A (MQ below (va_Qv (fun _ : Nat → Nat => True) (fun ad t => ad 101 = h0 ∧ va_P D vwCl (wl (y_GM D cy ad) y_xM) t.heap ∧ va_K D vwCl (z_ty cy) t ∧ va_D A (wl (y_GM D cy ad) y_xM)) A) [Value.ref h0].toArray s 5 1260 A) 5 1260 46 [(0, .ref ((y_GM D cy ad).2.2 101))] [] (z_x0) := by
    refine b_iconst (v := 0) C dX7_init_46 (by decide) ?_
    refine b_istore_n (lv' := [(1, .int 0), (0, .ref ((y_GM D cy ad).2.2 101))]) C dX7_init_47 rfl (by decide) rfl ?_
    refine b_pm [1, 0] (lv' := [(0, .ref ((y_GM D cy ad).2.2 101)), (1, .int (z_I 0))]) rfl ?_
    rw [← y_A0]
    exact la 10 0 rfl
  exact st H locs ls hl hP hS
