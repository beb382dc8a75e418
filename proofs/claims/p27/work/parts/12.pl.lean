/-! the same pool, seen from the second object: the two blocks of 101 things change places -/
def sg (i : Nat) : Nat := if i < 101 then i + 101 else if i < 202 then i - 101 else i
theorem sg_sg (i : Nat) : sg (sg i) = i := by
  unfold sg
  by_cases h1 : i < 101
  · rw [if_pos h1, if_neg (by omega), if_pos (by omega)]; omega
  · by_cases h2 : i < 202
    · rw [if_neg h1, if_pos h2, if_pos (by omega)]; omega
    · rw [if_neg h1, if_neg h2, if_neg h1, if_neg h2]
theorem sg_lt {i : Nat} : sg i < 203 ↔ i < 203 := by
  unfold sg
  by_cases h1 : i < 101
  · rw [if_pos h1]; omega
  · by_cases h2 : i < 202
    · rw [if_neg h1, if_pos h2]; omega
    · rw [if_neg h1, if_neg h2]
def sw (x : xS) : xS := (fun i => x.1 (sg i), fun i => x.2 (sg i))
theorem sw_sw (x : xS) : sw (sw x) = x := by
  have h1 : (sw (sw x)).1 = x.1 := by
    funext i
    show x.1 (sg (sg i)) = x.1 i
    rw [sg_sg]
  have h2 : (sw (sw x)).2 = x.2 := by
    funext i
    show x.2 (sg (sg i)) = x.2 i
    rw [sg_sg]
  exact Prod.ext h1 h2
def swG (G : gT) : gT := (G.1, (G.2.1.1, G.2.1.2.map sg), fun i => G.2.2 (sg i))
def SW (G : gT) : Prop := G.2.1.2 = List.range 203
theorem sw_mem {G : gT} (h : SW G) (i : Nat) : i ∈ G.2.1.2 ↔ i < 203 := by
  unfold SW at h
  rw [h]
  exact List.mem_range
theorem sw_mem2 {G : gT} (h : SW G) (i : Nat) : i ∈ (swG G).2.1.2 ↔ i < 203 := by
  show i ∈ G.2.1.2.map sg ↔ i < 203
  rw [List.mem_map]
  constructor
  · rintro ⟨j, hj, rfl⟩
    exact sg_lt.mpr ((sw_mem h j).mp hj)
  · intro hi
    exact ⟨sg i, (sw_mem h _).mpr (sg_lt.mpr hi), sg_sg i⟩
theorem sw_k0 {G : gT} (h : SW G) : KD (swG G) 0 6 := ⟨(sw_mem2 h 0).mpr (by decide), by decide +kernel⟩
theorem sw_k202 {G : gT} (h : SW G) : KD (swG G) 202 8 := ⟨(sw_mem2 h 202).mpr (by decide), by decide +kernel⟩
theorem sw_nodup {l : List Nat} (h : l.Nodup) : (l.map sg).Nodup := by
  rw [List.nodup_iff_pairwise_ne, List.pairwise_map]
  rw [List.nodup_iff_pairwise_ne] at h
  refine h.imp (fun {a b} hab e => hab ?_)
  rw [← sg_sg a, e, sg_sg]
theorem sw_CL {G : gT} (h : SW G) (H : CL G) : CL (swG G) := by
  intro i hi
  have hi := (sw_mem2 h i).mp hi
  have K := H i ((sw_mem h i).mpr hi)
  simp only [sw_mem h] at K
  simp only [sw_mem2 h]
  exact K
theorem sw_inj {G : gT} (h : SW G) (H : inj G) : inj (swG G) := by
  refine ⟨fun i j hi hj e => ?_, sw_nodup H.2.1, sw_CL h H.2.2⟩
  have e1 := H.1 (sg i) (sg j) ((sw_mem h _).mpr (sg_lt.mpr ((sw_mem2 h i).mp hi))) ((sw_mem h _).mpr (sg_lt.mpr ((sw_mem2 h j).mp hj))) e
  rw [← sg_sg i, e1, sg_sg]
theorem sw_DD {G : gT} {A : Nat → Prop} (h : SW G) (H : DD G A) : DD (swG G) A := ⟨sw_inj h H.1, fun i hi => H.2 (sg i) ((sw_mem h _).mpr (sg_lt.mpr ((sw_mem2 h i).mp hi)))⟩
theorem sw_kd : ∀ i, i < 203 → kd (sg i) = kd i ∧ ln (sg i) = ln i ∧ gR (sg i) = gR i ∧ gC (sg i) = gC i := by decide +kernel
theorem sw_ofA : ∀ i, i < 203 → (kd i = 0 ∨ kd i = 1 ∨ kd i = 2 ∨ kd i = 4 → sg (sg i + 1) = i + 1) ∧ (kd i = 3 → sg (sg i + 1) = i + 1 ∧ sg (sg i + 4) = i + 4 ∧ sg (sg i + 6) = i + 6 ∧ sg (sg i + 8) = i + 8) ∧ (kd i = 5 → sg (sg i + 1) = i + 1 ∧ sg (sg i + 2) = i + 2) ∧ (kd i = 6 → sg (sg i + 1) = i + 1 ∧ sg (sg i + 11) = i + 11 ∧ sg (sg i + 34) = i + 34 ∧ sg (sg i + 97) = i + 97 ∧ sg (sg i + 99) = i + 99) := by decide +kernel
theorem sw_ofB : ∀ i, i < 203 → kd i = 10 → ∀ k, k < ln i → sg (sg i + 2 + 10 * k) = i + 2 + 10 * k := by decide +kernel
theorem sw_kinds : ∀ i, i < 203 → kd i = 0 ∨ kd i = 1 ∨ kd i = 2 ∨ kd i = 3 ∨ kd i = 4 ∨ kd i = 5 ∨ kd i = 6 ∨ kd i = 8 ∨ kd i = 9 ∨ kd i = 10 := by decide +kernel
theorem sw_cellq {cA : ClassId} {n : Nat} {f g : Nat → Option Nat} (h : ∀ k, k < n → f k = g k) : vp_cell cA (n, .inr (.inr (.inr (.inr f)))) = vp_cell cA (n, .inr (.inr (.inr (.inr g)))) := by
  rw [vp_cell_q, vp_cell_q]
  unfold arrV
  have e : (fun j : Fin n => va_rf (f j.val)) = (fun j : Fin n => va_rf (g j.val)) := by
    funext j
    rw [h j.val j.isLt]
  rw [e]
theorem sw_at {G : gT} {x : xS} {i : Nat} {H : Heap} (hi : i < 203) (h : va_at G.1 vwCl (G.2.2 i, gE G x i) H) : va_at (swG G).1 vwCl ((swG G).2.2 (sg i), gE (swG G) (sw x) (sg i)) H := by
  have ea : (swG G).2.2 (sg i) = G.2.2 i := by show G.2.2 (sg (sg i)) = G.2.2 i; rw [sg_sg]
  rw [ea]
  obtain ⟨e1, e2, e3, e4⟩ := sw_kd i hi
  have ex1 : (sw x).1 (sg i) = x.1 i := by show x.1 (sg (sg i)) = x.1 i; rw [sg_sg]
  obtain ⟨hA, h3, h5, h6⟩ := sw_ofA i hi
  have hx : ∀ c, sg (sg i + c) = i + c → (swG G).2.2 (sg i + c) = G.2.2 (i + c) := fun c e => by show G.2.2 (sg (sg i + c)) = _; rw [e]
  rcases sw_kinds i hi with k | k | k | k | k | k | k | k | k | k
  · rw [gE_obj k (by decide)] at h
    rw [gE_obj (e1.trans k) (by decide)]
    have : gF (swG G) (sw x) (sg i) 0 = gF G x i 0 := by simp only [gF]; rw [hx 1 (hA (by omega)), ex1]
    rw [this]; exact h
  · rw [gE_obj k (by decide)] at h
    rw [gE_obj (e1.trans k) (by decide)]
    have : gF (swG G) (sw x) (sg i) 1 = gF G x i 1 := by simp only [gF]; rw [hx 1 (hA (by omega))]
    rw [this]; exact h
  · rw [gE_obj k (by decide)] at h
    rw [gE_obj (e1.trans k) (by decide)]
    have : gF (swG G) (sw x) (sg i) 2 = gF G x i 2 := by simp only [gF]; rw [hx 1 (hA (by omega)), e3, e4]
    rw [this]; exact h
  · rw [gE_obj k (by decide)] at h
    rw [gE_obj (e1.trans k) (by decide)]
    obtain ⟨q1, q2, q3, q4⟩ := h3 k
    have : gF (swG G) (sw x) (sg i) 3 = gF G x i 3 := by simp only [gF]; rw [hx 1 q1, hx 4 q2, hx 6 q3, hx 8 q4]
    rw [this]; exact h
  · rw [gE_obj k (by decide)] at h
    rw [gE_obj (e1.trans k) (by decide)]
    have : gF (swG G) (sw x) (sg i) 4 = gF G x i 4 := by simp only [gF]; rw [hx 1 (hA (by omega)), ex1]
    rw [this]; exact h
  · rw [gE_obj k (by decide)] at h
    rw [gE_obj (e1.trans k) (by decide)]
    obtain ⟨q1, q2⟩ := h5 k
    have : gF (swG G) (sw x) (sg i) 5 = gF G x i 5 := by simp only [gF]; rw [hx 1 q1, hx 2 q2]
    rw [this]; exact h
  · rw [gE_obj k (by decide)] at h
    rw [gE_obj (e1.trans k) (by decide)]
    obtain ⟨q1, q2, q3, q4, q5⟩ := h6 k
    have : gF (swG G) (sw x) (sg i) 6 = gF G x i 6 := by simp only [gF]; rw [hx 1 q1, hx 11 q2, hx 34 q3, hx 97 q4, hx 99 q5, ex1]
    rw [this]; exact h
  · rw [gE_8 k] at h
    rw [gE_8 (e1.trans k), ex1, e2]; exact h
  · rw [gE_9 k] at h
    rw [gE_9 (e1.trans k), ex1, e2]; exact h
  · rw [gE_10 k] at h
    rw [gE_10 (e1.trans k), e2]
    have hq := sw_ofB i hi k
    have e : vp_cell (G.2.1.1 2) (ln i, .inr (.inr (.inr (.inr (fun j => some (G.2.2 (sg (sg i + 2 + 10 * j)))))))) = vp_cell (G.2.1.1 2) (ln i, .inr (.inr (.inr (.inr (fun j => some (G.2.2 (i + 2 + 10 * j))))))) := sw_cellq (fun j hj => by rw [hq j hj])
    exact Eq.trans h (congrArg some e.symm)
theorem sw_P {G : gT} {x : xS} {H : Heap} (hs : SW G) (h : va_P G.1 vwCl (wl G x) H) : va_P (swG G).1 vwCl (wl (swG G) (sw x)) H := by
  intro k q hk
  obtain ⟨i, h1, m1, rfl⟩ := wl_inv hk
  have hi := (sw_mem2 hs i).mp m1
  have hj : sg i < 203 := sg_lt.mpr hi
  obtain ⟨k1, q1, q2⟩ := wl_get G x ((sw_mem hs (sg i)).mpr hj)
  have := sw_at hj (h k1 _ q2)
  rwa [sg_sg] at this
theorem swG_swG {G : gT} (hs : SW G) : (swG (swG G)).2.2 = G.2.2 := by
  funext i
  show G.2.2 (sg (sg i)) = G.2.2 i
  rw [sg_sg]
theorem sw_P2 {G : gT} {x : xS} {H : Heap} (hs : SW G) (h : va_P (swG G).1 vwCl (wl (swG G) x) H) : va_P G.1 vwCl (wl G (sw x)) H := by
  intro k q hk
  obtain ⟨i, h1, m1, rfl⟩ := wl_inv hk
  have hi := (sw_mem hs i).mp m1
  have hj : sg i < 203 := sg_lt.mpr hi
  obtain ⟨k1, q1, q2⟩ := wl_get (swG G) x ((sw_mem2 hs (sg i)).mpr hj)
  have K := sw_at (G := swG G) (x := x) hj (h k1 _ q2)
  rw [sg_sg] at K
  have e1 : gE (swG (swG G)) (sw x) i = gE G (sw x) i := by
    unfold gE
    have e3 : (swG (swG G)).2.1.1 = G.2.1.1 := rfl
    have e2 : ∀ K, gF (swG (swG G)) (sw x) i K = gF G (sw x) i K := by
      intro K
      unfold gF
      simp only [swG_swG hs]
    simp only [e2, e3, swG_swG hs]
  rw [swG_swG hs, e1] at K
  exact K
section
variable {p : Program} {l : Launch} {e : Env} {R : Room} {s : State} {m : MethodId} {args : Array Value} {below : List Frame} {meth : Method} {c : Code} {nL : Nat} {G : gT} {A : Nat → Prop} {Q : State → Prop} {k n pc : Nat} {lv : List (Nat × Value)} {st : List Value} {x : xS} {cc : ByteArray} {own : String} {ret : Option FieldType}
theorem CT.sw (C : CT p s m args meth c cc nL own ret G A) (hs : SW G) : CT p s m args meth c cc nL own ret (swG G) A := ⟨C.hx, C.b, C.ml, C.ow, C.ts, C.K, sw_DD hs C.D, C.hA, C.r, C.lk, C.nw⟩
theorem b_sw (hs : SW G) (kk : WB p l e R s m args below meth c nL (swG G) A Q k n pc lv st (sw x)) : WB p l e R s m args below meth c nL G A Q k n pc lv st x := fun H locs ls h1 h2 h3 => kk H locs ls h1 (sw_P hs h2) h3
theorem b_sw2 (hs : SW G) (kk : WB p l e R s m args below meth c nL G A Q k n pc lv st (sw x)) : WB p l e R s m args below meth c nL (swG G) A Q k n pc lv st x := fun H locs ls h1 h2 h3 => kk H locs ls h1 (sw_P2 hs h2) h3
theorem b_ldc1 (C : CT p s m args meth c cc nL own ret G A) {idx : Nat} {v : Int32} (hq : Cond.constant own idx v ∈ AW) (hd : decode cc pc = .ok (.ldc idx, 2)) (kk : WB p l e R s m args below meth c nL G A Q k n (pc + 2) lv (.int v :: st) x) : WB p l e R s m args below meth c nL G A Q k n pc lv st x := fun H locs ls h1 h2 h3 => lv_ldc C.hx C.b C.ow (C.ts _ hq) hd (kk H locs ls h1 h2 h3)
theorem b_callVi_sw (C : CT p s m args meth c cc nL own ret G A) (hs : SW G) {idx nl na : Nat} {y : MethodName} {b : ByteArray} {r : FieldType} {rm : Room} {As stk : List Value} {v : Int32} (h : cI l y b nl r rm (.ref ((swG G).2.2 0) :: As) (swG G) (sw x) (v, sw x)) (hg : GoodIn AW (wsV own idx RX6 y (ws_ y b nl (some r)))) (hd1 : y.cls = RX6 ∧ y.cls ≠ "java/lang/invoke/MethodHandle" ∧ y.cls ≠ "java/lang/invoke/VarHandle" ∧ (parseMethodDescriptor y.desc).map (fun d => d.parameters.length) = some na) (hna : As.length = na) (hrm : rm.cells = 0 ∧ rm.slots = 0) (hR : rm.frames + 1 ≤ R.frames ∧ 8 + (nl + 11) + rm.locals ≤ R.locals) (hst : (st.map fun v => v.category).sum ≤ 8) (hkn : k ≤ R.cells ∧ n ≤ R.slots) (hstk : stk = As.reverse ++ .ref (G.2.2 101) :: st) (hd : decode cc pc = .ok (.invokevirtual idx, 3)) (kk : WB p l e R s m args below meth c nL G A Q k n (pc + 3) lv (.int v :: st) x) : WB p l e R s m args below meth c nL G A Q k n pc lv stk x := by
  refine b_sw hs ?_
  refine b_callVi (K := 6) (As := As) (res := (v, sw x)) (C.sw hs) h (sw_k0 hs) (by decide) rfl hg hd1 hna hrm hR hst hkn hstk hd ?_
  refine b_sw2 hs ?_
  show WB p l e R s m args below meth c nL G A Q k n (pc + 3) lv (.int v :: st) (sw (sw x))
  rw [sw_sw]
  exact kk
end
-- L_low
abbrev rL_low : Room := { frames := 0, cells := 0, slots := 0, locals := 0 }
def fL_low_b0 (v0 : Int32) (v1 : Int32) (x : xS)  : Option Int32 :=
  (if v1 = 0 then none else
  some ((v0 &&& 2147483647) - (v0 &&& 2147483647) / v1 * v1))
def fL_low (v0 : Int32) (v1 : Int32) (x : xS) : Option Int32 := fL_low_b0 v0 v1 x
section
variable {p : Program} {l : Launch} {e : Env} {R : Room} {s : State} {m : MethodId} {args : Array Value} {below : List Frame} {meth : Method} {c : Code} {G : gT}
set_option maxHeartbeats 4000000 in
set_option maxRecDepth 100000 in
theorem wL_low_b0 (C : CT p s m args meth c cL_low 2 RL (some (.int)) G (pA G s.heap.size)) {v0 : Int32} {v1 : Int32} {x : xS}  {r : Int32}  (hf : fL_low_b0 v0 v1 x  = some r) : WB p l e rL_low s m args below meth c 2 G (pA G s.heap.size) (qI below G (r, x) args s 0 0) 0 0 0 [(0, .int v0), (1, .int v1)] [] x := by
  unfold fL_low_b0 at hf
  refine b_iload_n C dL_low_0 rfl 0 rfl ?_
  refine b_ldc1 C w_264 dL_low_1 ?_
  refine b_iand C dL_low_3 ?_
  refine b_iload_n C dL_low_4 rfl 1 rfl ?_
  obtain ⟨g5, hf⟩ := iN hf
  refine b_irem C dL_low_5 g5 ?_
  exact b_ireti C dL_low_6 (congrArg (Option.map (fun q => (q, x))) hf)
end
theorem metL_low (l : Launch) (G : gT) (v0 : Int32) (v1 : Int32) (x : xS) (r : Int32)  (hf : fL_low v0 v1 x = some r) : cI l yL_low cL_low 2 (.int) rL_low [.int v0, .int v1] G x (r, x) :=
  b_body (by decide) (Nat.le_of_ble_eq_true rfl) rfl (fun p e s m args below meth c C => wL_low_b0 C  hf)
-- PX6_checkRange
abbrev rpX6_checkRange : Room := { frames := 0, cells := 0, slots := 0, locals := 0 }
def fpX6_checkRange_b0 (v0 : Int32) (v1 : Int32) (v2 : Int32) (x : xS)  : Option Unit :=
  (if v0 < v1 then
  none
  else
  (if v0 ≤ v2 then
  some ()
  else
  none))
def fpX6_checkRange (v0 : Int32) (v1 : Int32) (v2 : Int32) (x : xS) : Option Unit := fpX6_checkRange_b0 v0 v1 v2 x
section
variable {p : Program} {l : Launch} {e : Env} {R : Room} {s : State} {m : MethodId} {args : Array Value} {below : List Frame} {meth : Method} {c : Code} {G : gT}
set_option maxHeartbeats 4000000 in
set_option maxRecDepth 100000 in
theorem wpX6_checkRange_b0 (C : CT p s m args meth c cX6_checkRange 3 RX6 none G (pA G s.heap.size)) {v0 : Int32} {v1 : Int32} {v2 : Int32} {x : xS}  {r : Unit}  (hf : fpX6_checkRange_b0 v0 v1 v2 x  = some r) : WB p l e rpX6_checkRange s m args below meth c 3 G (pA G s.heap.size) (qV below G x args s 0 0) 0 0 0 [(0, .int v0), (1, .int v1), (2, .int v2)] [] x := by
  unfold fpX6_checkRange_b0 at hf
  refine b_iload_n C dX6_checkRange_0 rfl 0 rfl ?_
  refine b_iload_n C dX6_checkRange_1 rfl 1 rfl ?_
  refine b_icmp_lt (tgt := 10) C dX6_checkRange_2 (by decide) (fun c2 => ?_) (fun c2 => ?_)
  · have hf := iT c2 hf
    cases hf
  · have hf := iF c2 hf
    refine b_iload_n C dX6_checkRange_5 rfl 0 rfl ?_
    refine b_iload_n C dX6_checkRange_6 rfl 2 rfl ?_
    refine b_icmp_le (tgt := 20) C dX6_checkRange_7 (by decide) (fun c7 => ?_) (fun c7 => ?_)
    · have hf := iT c7 hf
      exact b_vret C dX6_checkRange_20 rfl
    · have hf := iF c7 hf
      cases hf
end
theorem metpX6_checkRange (l : Launch) (G : gT) (v0 : Int32) (v1 : Int32) (v2 : Int32) (x : xS) (r : Unit)  (hf : fpX6_checkRange v0 v1 v2 x = some r) : cV l yX6_checkRange cX6_checkRange 3 rpX6_checkRange [.int v0, .int v1, .int v2] G x x :=
  b_body (by decide) (Nat.le_of_ble_eq_true rfl) rfl (fun p e s m args below meth c C => wpX6_checkRange_b0 C  hf)
-- PX6_checkHour
abbrev rpX6_checkHour : Room := { frames := 1, cells := 0, slots := 0, locals := 22 }
def fpX6_checkHour_b0 (v0 : Int32) (x : xS)  : Option Unit :=
  Option.bind (fpX6_checkRange v0 0 11 x) (fun r4 =>
  some ())
def fpX6_checkHour (v0 : Int32) (x : xS) : Option Unit := fpX6_checkHour_b0 v0 x
section
variable {p : Program} {l : Launch} {e : Env} {R : Room} {s : State} {m : MethodId} {args : Array Value} {below : List Frame} {meth : Method} {c : Code} {G : gT}
set_option maxHeartbeats 4000000 in
set_option maxRecDepth 100000 in
theorem wpX6_checkHour_b0 (C : CT p s m args meth c cX6_checkHour 1 RX6 none G (pA G s.heap.size)) {v0 : Int32} {x : xS}  {r : Unit}  (hf : fpX6_checkHour_b0 v0 x  = some r) : WB p l e rpX6_checkHour s m args below meth c 1 G (pA G s.heap.size) (qV below G x args s 0 0) 0 0 0 [(0, .int v0)] [] x := by
  unfold fpX6_checkHour_b0 at hf
  refine b_iload_n C dX6_checkHour_0 rfl 0 rfl ?_
  refine b_iconst (v := 0) C dX6_checkHour_1 (by decide) ?_
  refine b_bipush (v := 11) C dX6_checkHour_2 (by decide) ?_
  obtain ⟨r4, c4, hf⟩ := oB hf
  refine b_callSv (As := [.int v0, .int 0, .int 11]) (res := x) C (metpX6_checkRange l G _ _ _ _ _ c4) gkX6_160 ekX6_160 rfl ⟨rfl, rfl⟩ ⟨Nat.le_of_ble_eq_true rfl, Nat.le_of_ble_eq_true rfl⟩ (by simp [Value.category]) ⟨Nat.zero_le _, Nat.zero_le _⟩ rfl dX6_checkHour_4 ?_
  exact b_vret C dX6_checkHour_7 rfl
end
theorem metpX6_checkHour (l : Launch) (G : gT) (v0 : Int32) (x : xS) (r : Unit)  (hf : fpX6_checkHour v0 x = some r) : cV l yX6_checkHour cX6_checkHour 1 rpX6_checkHour [.int v0] G x x :=
  b_body (by decide) (Nat.le_of_ble_eq_true rfl) rfl (fun p e s m args below meth c C => wpX6_checkHour_b0 C  hf)
-- PX6_at
abbrev rpX6_at : Room := { frames := 2, cells := 0, slots := 0, locals := 44 }
def fpX6_at_b0 (i0 : Nat) (v1 : Int32) (v2 : Int32) (x : xS)  : Option Int32 :=
  (if v1 < 0 then
  none
  else
  (if v1 < 4 then
  Option.bind (fpX6_checkHour v2 x) (fun r20 =>
  Option.bind (fX4_holder ((i0 + 1) + 1) v1 v2 x) (fun r32 =>
  some r32))
  else
  none))
def fpX6_at (i0 : Nat) (v1 : Int32) (v2 : Int32) (x : xS) : Option Int32 := fpX6_at_b0 i0 v1 v2 x
section
variable {p : Program} {l : Launch} {e : Env} {R : Room} {s : State} {m : MethodId} {args : Array Value} {below : List Frame} {meth : Method} {c : Code} {G : gT}
set_option maxHeartbeats 4000000 in
set_option maxRecDepth 100000 in
theorem wpX6_at_b0 (C : CT p s m args meth c cX6_at 3 RX6 (some (.int)) G (pA G s.heap.size)) {i0 : Nat} {v1 : Int32} {v2 : Int32} {x : xS}  {r : Int32} (hk0 : KD G i0 6) (hf : fpX6_at_b0 i0 v1 v2 x  = some r) : WB p l e rpX6_at s m args below meth c 3 G (pA G s.heap.size) (qI below G (r, x) args s 0 0) 0 0 0 [(0, .ref (G.2.2 i0)), (1, .int v1), (2, .int v2)] [] x := by
  unfold fpX6_at_b0 at hf
  refine b_iload_n C dX6_at_0 rfl 1 rfl ?_
  refine b_if_lt (tgt := 9) C dX6_at_1 (by decide) (fun c1 => ?_) (fun c1 => ?_)
  · have hf := iT c1 hf
    cases hf
  · have hf := iF c1 hf
    refine b_iload_n C dX6_at_4 rfl 1 rfl ?_
    refine b_iconst (v := 4) C dX6_at_5 (by decide) ?_
    refine b_icmp_lt (tgt := 19) C dX6_at_6 (by decide) (fun c6 => ?_) (fun c6 => ?_)
    · have hf := iT c6 hf
      refine b_iload_n C dX6_at_19 rfl 2 rfl ?_
      obtain ⟨r20, c20, hf⟩ := oB hf
      refine b_callSv (As := [.int v2]) (res := x) C (metpX6_checkHour l G _ _ _ c20) gkX6_56 ekX6_56 rfl ⟨rfl, rfl⟩ ⟨Nat.le_of_ble_eq_true rfl, Nat.le_of_ble_eq_true rfl⟩ (by simp [Value.category]) ⟨Nat.zero_le _, Nat.zero_le _⟩ rfl dX6_at_20 ?_
      refine b_aload_n C dX6_at_23 rfl 0 rfl ?_
      refine gfX6_10 C hk0 dX6_at_24 ?_
      refine gfX6_151 C ((kd6 C.cl hk0).1) dX6_at_27 ?_
      refine b_iload_n C dX6_at_30 rfl 1 rfl ?_
      refine b_iload_n C dX6_at_31 rfl 2 rfl ?_
      obtain ⟨r32, c32, hf⟩ := oB hf
      refine b_callVi (K := 4) (As := [.int v1, .int v2]) (res := (r32, x)) C (metX4_holder l G _ _ _ _ _ ((kd3 C.cl ((kd6 C.cl hk0).1)).1) c32) ((kd3 C.cl ((kd6 C.cl hk0).1)).1) (by decide) rfl gkX6_155 ekX6_155 rfl ⟨rfl, rfl⟩ ⟨Nat.le_of_ble_eq_true rfl, Nat.le_of_ble_eq_true rfl⟩ (by simp [Value.category]) ⟨Nat.zero_le _, Nat.zero_le _⟩ rfl dX6_at_32 ?_
      exact b_ireti C dX6_at_35 (congrArg (Option.map (fun q => (q, x))) hf)
    · have hf := iF c6 hf
      cases hf
end
theorem metpX6_at (l : Launch) (G : gT) (i0 : Nat) (v1 : Int32) (v2 : Int32) (x : xS) (r : Int32) (hk0 : KD G i0 6) (hf : fpX6_at i0 v1 v2 x = some r) : cI l yX6_at cX6_at 3 (.int) rpX6_at [.ref (G.2.2 i0), .int v1, .int v2] G x (r, x) :=
  b_body (by decide) (Nat.le_of_ble_eq_true rfl) rfl (fun p e s m args below meth c C => wpX6_at_b0 C hk0 hf)
-- L_isFree
abbrev rL_isFree : Room := { frames := 3, cells := 0, slots := 0, locals := 66 }
def fL_isFree_b35 (k6 : Int32 → Int32 → Option Int32) (i0 : Nat) (v1 : Int32) (v2 : Int32) (v3 : Int32) (x : xS) (v5 : Int32) (s0 : Int32) : Option Int32 :=
  k6 s0 (v5 + 1)
def fL_isFree_b34 (k6 : Int32 → Int32 → Option Int32) (i0 : Nat) (v1 : Int32) (v2 : Int32) (v3 : Int32) (x : xS) (v5 : Int32) : Option Int32 :=
  fL_isFree_b35 k6 i0 v1 v2 v3 x v5 0
def fL_isFree_b6 (i0 : Nat) (v1 : Int32) (v2 : Int32) (v3 : Int32) (x : xS) : Nat → Int32 → Int32 → Option Int32
  | 0, _, _ => none
  | n + 1, v4, v5 => (if (v2 + v3) ≤ v5 then
  (if v4 &&& 1 = v4 then some v4 else none)
  else
  (if v4 = 0 then
  fL_isFree_b34 (fL_isFree_b6 i0 v1 v2 v3 x n) i0 v1 v2 v3 x v5
  else
  Option.bind (fpX6_at i0 v1 v5 x) (fun r23 =>
  (if r23 = (-1) then
  fL_isFree_b35 (fL_isFree_b6 i0 v1 v2 v3 x n) i0 v1 v2 v3 x v5 1
  else
  fL_isFree_b34 (fL_isFree_b6 i0 v1 v2 v3 x n) i0 v1 v2 v3 x v5))))
def fL_isFree_b0 (i0 : Nat) (v1 : Int32) (v2 : Int32) (v3 : Int32) (x : xS)  : Option Int32 :=
  fL_isFree_b6 i0 v1 v2 v3 x FU 1 v2
def fL_isFree (i0 : Nat) (v1 : Int32) (v2 : Int32) (v3 : Int32) (x : xS) : Option Int32 := fL_isFree_b0 i0 v1 v2 v3 x
section
variable {p : Program} {l : Launch} {e : Env} {R : Room} {s : State} {m : MethodId} {args : Array Value} {below : List Frame} {meth : Method} {c : Code} {G : gT}
set_option maxHeartbeats 4000000 in
set_option maxRecDepth 100000 in
theorem wL_isFree_b35 (C : CT p s m args meth c cL_isFree 6 RL (some (.boolean)) G (pA G s.heap.size)) {k6 : Int32 → Int32 → Option Int32} {i0 : Nat} {v1 : Int32} {v2 : Int32} {v3 : Int32} {x : xS} {v5 : Int32} {s0 : Int32} {r : Int32} (h6 : ∀ (v4 : Int32) (v5 : Int32), k6 v4 v5 = some r → WB p l e rL_isFree s m args below meth c 6 G (pA G s.heap.size) (qI below G (r, x) args s 0 0) 0 0 6 [(0, .ref (G.2.2 i0)), (1, .int v1), (2, .int v2), (3, .int v3), (4, .int v4), (5, .int v5)] [] x) (hk0 : KD G i0 6) (hf : fL_isFree_b35 k6 i0 v1 v2 v3 x v5 s0 = some r) : WB p l e rL_isFree s m args below meth c 6 G (pA G s.heap.size) (qI below G (r, x) args s 0 0) 0 0 35 [(0, .ref (G.2.2 i0)), (1, .int v1), (2, .int v2), (3, .int v3), (5, .int v5)] [.int s0] x := by
  unfold fL_isFree_b35 at hf
  refine b_istore (lv' := [(4, .int s0), (0, .ref (G.2.2 i0)), (1, .int v1), (2, .int v2), (3, .int v3), (5, .int v5)]) C dL_isFree_35 (by decide) rfl ?_
  refine b_iinc (q := 5) (v' := (v5 + 1)) (lv' := [(5, .int (v5 + 1)), (4, .int s0), (0, .ref (G.2.2 i0)), (1, .int v1), (2, .int v2), (3, .int v3)]) C dL_isFree_37 rfl rfl (by decide) rfl ?_
  refine b_goto (tgt := 6) C dL_isFree_40 (by decide) ?_
  refine b_pm [2, 3, 4, 5, 1, 0] (lv' := [(0, .ref (G.2.2 i0)), (1, .int v1), (2, .int v2), (3, .int v3), (4, .int s0), (5, .int (v5 + 1))]) rfl ?_
  exact h6 _ _ hf
set_option maxHeartbeats 4000000 in
set_option maxRecDepth 100000 in
theorem wL_isFree_b34 (C : CT p s m args meth c cL_isFree 6 RL (some (.boolean)) G (pA G s.heap.size)) {k6 : Int32 → Int32 → Option Int32} {i0 : Nat} {v1 : Int32} {v2 : Int32} {v3 : Int32} {x : xS} {v5 : Int32} {r : Int32} (h6 : ∀ (v4 : Int32) (v5 : Int32), k6 v4 v5 = some r → WB p l e rL_isFree s m args below meth c 6 G (pA G s.heap.size) (qI below G (r, x) args s 0 0) 0 0 6 [(0, .ref (G.2.2 i0)), (1, .int v1), (2, .int v2), (3, .int v3), (4, .int v4), (5, .int v5)] [] x) (hk0 : KD G i0 6) (hf : fL_isFree_b34 k6 i0 v1 v2 v3 x v5 = some r) : WB p l e rL_isFree s m args below meth c 6 G (pA G s.heap.size) (qI below G (r, x) args s 0 0) 0 0 34 [(0, .ref (G.2.2 i0)), (1, .int v1), (2, .int v2), (3, .int v3), (5, .int v5)] [] x := by
  unfold fL_isFree_b34 at hf
  refine b_iconst (v := 0) C dL_isFree_34 (by decide) ?_
  exact wL_isFree_b35 C h6 hk0 hf
set_option maxHeartbeats 4000000 in
set_option maxRecDepth 100000 in
theorem wL_isFree_b6 (C : CT p s m args meth c cL_isFree 6 RL (some (.boolean)) G (pA G s.heap.size)) {i0 : Nat} {v1 : Int32} {v2 : Int32} {v3 : Int32} {x : xS} {r : Int32} (hk0 : KD G i0 6) : ∀ (n : Nat) (v4 : Int32) (v5 : Int32), fL_isFree_b6 i0 v1 v2 v3 x n v4 v5 = some r → WB p l e rL_isFree s m args below meth c 6 G (pA G s.heap.size) (qI below G (r, x) args s 0 0) 0 0 6 [(0, .ref (G.2.2 i0)), (1, .int v1), (2, .int v2), (3, .int v3), (4, .int v4), (5, .int v5)] [] x := by
  intro n
  induction n with
  | zero =>
    intro v4 v5 hf
    cases hf
  | succ n ih =>
    intro v4 v5 hf
    rw [fL_isFree_b6] at hf
    refine b_iload C dL_isFree_6 5 rfl ?_
    refine b_iload_n C dL_isFree_8 rfl 2 rfl ?_
    refine b_iload_n C dL_isFree_9 rfl 3 rfl ?_
    refine b_iadd C dL_isFree_10 ?_
    refine b_icmp_ge (tgt := 43) C dL_isFree_11 (by decide) (fun c11 => ?_) (fun c11 => ?_)
    · have hf := iT c11 hf
      refine b_iload C dL_isFree_43 4 rfl ?_
      obtain ⟨g45, hf⟩ := iP hf
      exact b_iretz C g45 dL_isFree_45 (congrArg (Option.map (fun q => (q, x))) hf)
    · have hf := iF c11 hf
      refine b_iload C dL_isFree_14 4 rfl ?_
      refine b_if_eq (tgt := 34) C dL_isFree_16 (by decide) (fun c16 => ?_) (fun c16 => ?_)
      · have hf := iT c16 hf
        refine b_pm [0, 1, 2, 3, 5] (lv' := [(0, .ref (G.2.2 i0)), (1, .int v1), (2, .int v2), (3, .int v3), (5, .int v5)]) rfl ?_
        exact wL_isFree_b34 C ih hk0 hf
      · have hf := iF c16 hf
        refine b_aload_n C dL_isFree_19 rfl 0 rfl ?_
        refine b_iload_n C dL_isFree_20 rfl 1 rfl ?_
        refine b_iload C dL_isFree_21 5 rfl ?_
        obtain ⟨r23, c23, hf⟩ := oB hf
        refine b_callVi (K := 6) (As := [.int v1, .int v5]) (res := (r23, x)) C (metpX6_at l G _ _ _ _ _ hk0 c23) hk0 (by decide) rfl gkL_59 ekL_59 rfl ⟨rfl, rfl⟩ ⟨Nat.le_of_ble_eq_true rfl, Nat.le_of_ble_eq_true rfl⟩ (by simp [Value.category]) ⟨Nat.zero_le _, Nat.zero_le _⟩ rfl dL_isFree_23 ?_
        refine b_iconst (v := (-1)) C dL_isFree_26 (by decide) ?_
        refine b_icmp_ne (tgt := 34) C dL_isFree_27 (by decide) (fun c27 => ?_) (fun c27 => ?_)
        · have hf := iF c27 hf
          refine b_pm [0, 1, 2, 3, 5] (lv' := [(0, .ref (G.2.2 i0)), (1, .int v1), (2, .int v2), (3, .int v3), (5, .int v5)]) rfl ?_
          exact wL_isFree_b34 C ih hk0 hf
        · have hf := iT c27 hf
          refine b_iconst (v := 1) C dL_isFree_30 (by decide) ?_
          refine b_goto (tgt := 35) C dL_isFree_31 (by decide) ?_
          refine b_pm [0, 1, 2, 3, 5] (lv' := [(0, .ref (G.2.2 i0)), (1, .int v1), (2, .int v2), (3, .int v3), (5, .int v5)]) rfl ?_
          exact wL_isFree_b35 C ih hk0 hf
set_option maxHeartbeats 4000000 in
set_option maxRecDepth 100000 in
theorem wL_isFree_b0 (C : CT p s m args meth c cL_isFree 6 RL (some (.boolean)) G (pA G s.heap.size)) {i0 : Nat} {v1 : Int32} {v2 : Int32} {v3 : Int32} {x : xS}  {r : Int32} (hk0 : KD G i0 6) (hf : fL_isFree_b0 i0 v1 v2 v3 x  = some r) : WB p l e rL_isFree s m args below meth c 6 G (pA G s.heap.size) (qI below G (r, x) args s 0 0) 0 0 0 [(0, .ref (G.2.2 i0)), (1, .int v1), (2, .int v2), (3, .int v3)] [] x := by
  unfold fL_isFree_b0 at hf
  refine b_iconst (v := 1) C dL_isFree_0 (by decide) ?_
  refine b_istore (lv' := [(4, .int 1), (0, .ref (G.2.2 i0)), (1, .int v1), (2, .int v2), (3, .int v3)]) C dL_isFree_1 (by decide) rfl ?_
  refine b_iload_n C dL_isFree_3 rfl 3 rfl ?_
  refine b_istore (lv' := [(5, .int v2), (4, .int 1), (0, .ref (G.2.2 i0)), (1, .int v1), (2, .int v2), (3, .int v3)]) C dL_isFree_4 (by decide) rfl ?_
  refine b_pm [2, 3, 4, 5, 1, 0] (lv' := [(0, .ref (G.2.2 i0)), (1, .int v1), (2, .int v2), (3, .int v3), (4, .int 1), (5, .int v2)]) rfl ?_
  exact wL_isFree_b6 C  hk0 FU _ _ hf
end
theorem metL_isFree (l : Launch) (G : gT) (i0 : Nat) (v1 : Int32) (v2 : Int32) (v3 : Int32) (x : xS) (r : Int32) (hk0 : KD G i0 6) (hf : fL_isFree i0 v1 v2 v3 x = some r) : cI l yL_isFree cL_isFree 6 (.boolean) rL_isFree [.ref (G.2.2 i0), .int v1, .int v2, .int v3] G x (r, x) :=
  b_body (by decide) (Nat.le_of_ble_eq_true rfl) rfl (fun p e s m args below meth c C => wL_isFree_b0 C hk0 hf)
-- L_has
abbrev rL_has : Room := { frames := 3, cells := 0, slots := 0, locals := 66 }
def fL_has_b42 (k6 : Int32 → Int32 → Option Int32) (i0 : Nat) (v1 : Int32) (v2 : Int32) (v3 : Int32) (x : xS) (v5 : Int32) (s0 : Int32) : Option Int32 :=
  k6 s0 (v5 + 1)
def fL_has_b37 (k6 : Int32 → Int32 → Option Int32) (i0 : Nat) (v1 : Int32) (v2 : Int32) (v3 : Int32) (x : xS) (v5 : Int32) : Option Int32 :=
  fL_has_b42 k6 i0 v1 v2 v3 x v5 1
def fL_has_b6 (i0 : Nat) (v1 : Int32) (v2 : Int32) (v3 : Int32) (x : xS) : Nat → Int32 → Int32 → Option Int32
  | 0, _, _ => none
  | n + 1, v4, v5 => (if (4 * v3) ≤ v5 then
  (if v4 &&& 1 = v4 then some v4 else none)
  else
  (if v4 = 0 then
  (if v3 = 0 then none else
  (if v3 = 0 then none else
  Option.bind (fpX6_at i0 (v5 / v3) (v2 + (v5 - v5 / v3 * v3)) x) (fun r30 =>
  (if r30 = v1 then
  fL_has_b37 (fL_has_b6 i0 v1 v2 v3 x n) i0 v1 v2 v3 x v5
  else
  fL_has_b42 (fL_has_b6 i0 v1 v2 v3 x n) i0 v1 v2 v3 x v5 0))))
  else
  fL_has_b37 (fL_has_b6 i0 v1 v2 v3 x n) i0 v1 v2 v3 x v5))
def fL_has_b0 (i0 : Nat) (v1 : Int32) (v2 : Int32) (v3 : Int32) (x : xS)  : Option Int32 :=
  fL_has_b6 i0 v1 v2 v3 x FU 0 0
def fL_has (i0 : Nat) (v1 : Int32) (v2 : Int32) (v3 : Int32) (x : xS) : Option Int32 := fL_has_b0 i0 v1 v2 v3 x
section
variable {p : Program} {l : Launch} {e : Env} {R : Room} {s : State} {m : MethodId} {args : Array Value} {below : List Frame} {meth : Method} {c : Code} {G : gT}
set_option maxHeartbeats 4000000 in
set_option maxRecDepth 100000 in
theorem wL_has_b42 (C : CT p s m args meth c cL_has 6 RL (some (.boolean)) G (pA G s.heap.size)) {k6 : Int32 → Int32 → Option Int32} {i0 : Nat} {v1 : Int32} {v2 : Int32} {v3 : Int32} {x : xS} {v5 : Int32} {s0 : Int32} {r : Int32} (h6 : ∀ (v4 : Int32) (v5 : Int32), k6 v4 v5 = some r → WB p l e rL_has s m args below meth c 6 G (pA G s.heap.size) (qI below G (r, x) args s 0 0) 0 0 6 [(0, .ref (G.2.2 i0)), (1, .int v1), (2, .int v2), (3, .int v3), (4, .int v4), (5, .int v5)] [] x) (hk0 : KD G i0 6) (hf : fL_has_b42 k6 i0 v1 v2 v3 x v5 s0 = some r) : WB p l e rL_has s m args below meth c 6 G (pA G s.heap.size) (qI below G (r, x) args s 0 0) 0 0 42 [(0, .ref (G.2.2 i0)), (1, .int v1), (2, .int v2), (3, .int v3), (5, .int v5)] [.int s0] x := by
  unfold fL_has_b42 at hf
  refine b_istore (lv' := [(4, .int s0), (0, .ref (G.2.2 i0)), (1, .int v1), (2, .int v2), (3, .int v3), (5, .int v5)]) C dL_has_42 (by decide) rfl ?_
  refine b_iinc (q := 5) (v' := (v5 + 1)) (lv' := [(5, .int (v5 + 1)), (4, .int s0), (0, .ref (G.2.2 i0)), (1, .int v1), (2, .int v2), (3, .int v3)]) C dL_has_44 rfl rfl (by decide) rfl ?_
  refine b_goto (tgt := 6) C dL_has_47 (by decide) ?_
  refine b_pm [2, 3, 4, 5, 1, 0] (lv' := [(0, .ref (G.2.2 i0)), (1, .int v1), (2, .int v2), (3, .int v3), (4, .int s0), (5, .int (v5 + 1))]) rfl ?_
  exact h6 _ _ hf
set_option maxHeartbeats 4000000 in
set_option maxRecDepth 100000 in
theorem wL_has_b37 (C : CT p s m args meth c cL_has 6 RL (some (.boolean)) G (pA G s.heap.size)) {k6 : Int32 → Int32 → Option Int32} {i0 : Nat} {v1 : Int32} {v2 : Int32} {v3 : Int32} {x : xS} {v5 : Int32} {r : Int32} (h6 : ∀ (v4 : Int32) (v5 : Int32), k6 v4 v5 = some r → WB p l e rL_has s m args below meth c 6 G (pA G s.heap.size) (qI below G (r, x) args s 0 0) 0 0 6 [(0, .ref (G.2.2 i0)), (1, .int v1), (2, .int v2), (3, .int v3), (4, .int v4), (5, .int v5)] [] x) (hk0 : KD G i0 6) (hf : fL_has_b37 k6 i0 v1 v2 v3 x v5 = some r) : WB p l e rL_has s m args below meth c 6 G (pA G s.heap.size) (qI below G (r, x) args s 0 0) 0 0 37 [(0, .ref (G.2.2 i0)), (1, .int v1), (2, .int v2), (3, .int v3), (5, .int v5)] [] x := by
  unfold fL_has_b37 at hf
  refine b_iconst (v := 1) C dL_has_37 (by decide) ?_
  refine b_goto (tgt := 42) C dL_has_38 (by decide) ?_
  exact wL_has_b42 C h6 hk0 hf
set_option maxHeartbeats 4000000 in
set_option maxRecDepth 100000 in
theorem wL_has_b6 (C : CT p s m args meth c cL_has 6 RL (some (.boolean)) G (pA G s.heap.size)) {i0 : Nat} {v1 : Int32} {v2 : Int32} {v3 : Int32} {x : xS} {r : Int32} (hk0 : KD G i0 6) : ∀ (n : Nat) (v4 : Int32) (v5 : Int32), fL_has_b6 i0 v1 v2 v3 x n v4 v5 = some r → WB p l e rL_has s m args below meth c 6 G (pA G s.heap.size) (qI below G (r, x) args s 0 0) 0 0 6 [(0, .ref (G.2.2 i0)), (1, .int v1), (2, .int v2), (3, .int v3), (4, .int v4), (5, .int v5)] [] x := by
  intro n
  induction n with
  | zero =>
    intro v4 v5 hf
    cases hf
  | succ n ih =>
    intro v4 v5 hf
    rw [fL_has_b6] at hf
    refine b_iload C dL_has_6 5 rfl ?_
    refine b_iconst (v := 4) C dL_has_8 (by decide) ?_
    refine b_iload_n C dL_has_9 rfl 3 rfl ?_
    refine b_imul C dL_has_10 ?_
    refine b_icmp_ge (tgt := 50) C dL_has_11 (by decide) (fun c11 => ?_) (fun c11 => ?_)
    · have hf := iT c11 hf
      refine b_iload C dL_has_50 4 rfl ?_
      obtain ⟨g52, hf⟩ := iP hf
      exact b_iretz C g52 dL_has_52 (congrArg (Option.map (fun q => (q, x))) hf)
    · have hf := iF c11 hf
      refine b_iload C dL_has_14 4 rfl ?_
      refine b_if_ne (tgt := 37) C dL_has_16 (by decide) (fun c16 => ?_) (fun c16 => ?_)
      · have hf := iF c16 hf
        refine b_pm [0, 1, 2, 3, 5] (lv' := [(0, .ref (G.2.2 i0)), (1, .int v1), (2, .int v2), (3, .int v3), (5, .int v5)]) rfl ?_
        exact wL_has_b37 C ih hk0 hf
      · have hf := iT c16 hf
        refine b_aload_n C dL_has_19 rfl 0 rfl ?_
        refine b_iload C dL_has_20 5 rfl ?_
        refine b_iload_n C dL_has_22 rfl 3 rfl ?_
        obtain ⟨g23, hf⟩ := iN hf
        refine b_idiv C dL_has_23 g23 ?_
        refine b_iload_n C dL_has_24 rfl 2 rfl ?_
        refine b_iload C dL_has_25 5 rfl ?_
        refine b_iload_n C dL_has_27 rfl 3 rfl ?_
        obtain ⟨g28, hf⟩ := iN hf
        refine b_irem C dL_has_28 g28 ?_
        refine b_iadd C dL_has_29 ?_
        obtain ⟨r30, c30, hf⟩ := oB hf
        refine b_callVi (K := 6) (As := [.int (v5 / v3), .int (v2 + (v5 - v5 / v3 * v3))]) (res := (r30, x)) C (metpX6_at l G _ _ _ _ _ hk0 c30) hk0 (by decide) rfl gkL_59 ekL_59 rfl ⟨rfl, rfl⟩ ⟨Nat.le_of_ble_eq_true rfl, Nat.le_of_ble_eq_true rfl⟩ (by simp [Value.category]) ⟨Nat.zero_le _, Nat.zero_le _⟩ rfl dL_has_30 ?_
        refine b_iload_n C dL_has_33 rfl 1 rfl ?_
        refine b_icmp_ne (tgt := 41) C dL_has_34 (by decide) (fun c34 => ?_) (fun c34 => ?_)
        · have hf := iF c34 hf
          refine b_iconst (v := 0) C dL_has_41 (by decide) ?_
          refine b_pm [0, 1, 2, 3, 5] (lv' := [(0, .ref (G.2.2 i0)), (1, .int v1), (2, .int v2), (3, .int v3), (5, .int v5)]) rfl ?_
          exact wL_has_b42 C ih hk0 hf
        · have hf := iT c34 hf
          refine b_pm [0, 1, 2, 3, 5] (lv' := [(0, .ref (G.2.2 i0)), (1, .int v1), (2, .int v2), (3, .int v3), (5, .int v5)]) rfl ?_
          exact wL_has_b37 C ih hk0 hf
set_option maxHeartbeats 4000000 in
set_option maxRecDepth 100000 in
theorem wL_has_b0 (C : CT p s m args meth c cL_has 6 RL (some (.boolean)) G (pA G s.heap.size)) {i0 : Nat} {v1 : Int32} {v2 : Int32} {v3 : Int32} {x : xS}  {r : Int32} (hk0 : KD G i0 6) (hf : fL_has_b0 i0 v1 v2 v3 x  = some r) : WB p l e rL_has s m args below meth c 6 G (pA G s.heap.size) (qI below G (r, x) args s 0 0) 0 0 0 [(0, .ref (G.2.2 i0)), (1, .int v1), (2, .int v2), (3, .int v3)] [] x := by
  unfold fL_has_b0 at hf
  refine b_iconst (v := 0) C dL_has_0 (by decide) ?_
  refine b_istore (lv' := [(4, .int 0), (0, .ref (G.2.2 i0)), (1, .int v1), (2, .int v2), (3, .int v3)]) C dL_has_1 (by decide) rfl ?_
  refine b_iconst (v := 0) C dL_has_3 (by decide) ?_
  refine b_istore (lv' := [(5, .int 0), (4, .int 0), (0, .ref (G.2.2 i0)), (1, .int v1), (2, .int v2), (3, .int v3)]) C dL_has_4 (by decide) rfl ?_
  refine b_pm [2, 3, 4, 5, 1, 0] (lv' := [(0, .ref (G.2.2 i0)), (1, .int v1), (2, .int v2), (3, .int v3), (4, .int 0), (5, .int 0)]) rfl ?_
  exact wL_has_b6 C  hk0 FU _ _ hf
end
theorem metL_has (l : Launch) (G : gT) (i0 : Nat) (v1 : Int32) (v2 : Int32) (v3 : Int32) (x : xS) (r : Int32) (hk0 : KD G i0 6) (hf : fL_has i0 v1 v2 v3 x = some r) : cI l yL_has cL_has 6 (.boolean) rL_has [.ref (G.2.2 i0), .int v1, .int v2, .int v3] G x (r, x) :=
  b_body (by decide) (Nat.le_of_ble_eq_true rfl) rfl (fun p e s m args below meth c C => wL_has_b0 C hk0 hf)
-- PX6_checkLodger
abbrev rpX6_checkLodger : Room := { frames := 0, cells := 0, slots := 0, locals := 0 }
def fpX6_checkLodger_b0 (v0 : Int32) (x : xS)  : Option Unit :=
  (if v0 < 0 then
  none
  else
  (if v0 < 10 then
  some ()
  else
  none))
def fpX6_checkLodger (v0 : Int32) (x : xS) : Option Unit := fpX6_checkLodger_b0 v0 x
section
variable {p : Program} {l : Launch} {e : Env} {R : Room} {s : State} {m : MethodId} {args : Array Value} {below : List Frame} {meth : Method} {c : Code} {G : gT}
set_option maxHeartbeats 4000000 in
set_option maxRecDepth 100000 in
theorem wpX6_checkLodger_b0 (C : CT p s m args meth c cX6_checkLodger 1 RX6 none G (pA G s.heap.size)) {v0 : Int32} {x : xS}  {r : Unit}  (hf : fpX6_checkLodger_b0 v0 x  = some r) : WB p l e rpX6_checkLodger s m args below meth c 1 G (pA G s.heap.size) (qV below G x args s 0 0) 0 0 0 [(0, .int v0)] [] x := by
  unfold fpX6_checkLodger_b0 at hf
  refine b_iload_n C dX6_checkLodger_0 rfl 0 rfl ?_
  refine b_if_lt (tgt := 10) C dX6_checkLodger_1 (by decide) (fun c1 => ?_) (fun c1 => ?_)
  · have hf := iT c1 hf
    cases hf
  · have hf := iF c1 hf
    refine b_iload_n C dX6_checkLodger_4 rfl 0 rfl ?_
    refine b_bipush (v := 10) C dX6_checkLodger_5 (by decide) ?_
    refine b_icmp_lt (tgt := 20) C dX6_checkLodger_7 (by decide) (fun c7 => ?_) (fun c7 => ?_)
    · have hf := iT c7 hf
      exact b_vret C dX6_checkLodger_20 rfl
    · have hf := iF c7 hf
      cases hf
end
theorem metpX6_checkLodger (l : Launch) (G : gT) (v0 : Int32) (x : xS) (r : Unit)  (hf : fpX6_checkLodger v0 x = some r) : cV l yX6_checkLodger cX6_checkLodger 1 rpX6_checkLodger [.int v0] G x x :=
  b_body (by decide) (Nat.le_of_ble_eq_true rfl) rfl (fun p e s m args below meth c C => wpX6_checkLodger_b0 C  hf)
-- PX6_longest
abbrev rpX6_longest : Room := { frames := 5, cells := 0, slots := 0, locals := 117 }
def fpX6_longest_b0 (i0 : Nat) (v1 : Int32) (v2 : Int32) (x : xS)  : Option Int32 :=
  Option.bind (fpX6_checkLodger v1 x) (fun r1 =>
  Option.bind (fpX6_checkHour v2 x) (fun r5 =>
  Option.bind (fX4_longestFor ((i0 + 1) + 1) v1 v2 x) (fun r17 =>
  some r17)))
def fpX6_longest (i0 : Nat) (v1 : Int32) (v2 : Int32) (x : xS) : Option Int32 := fpX6_longest_b0 i0 v1 v2 x
section
variable {p : Program} {l : Launch} {e : Env} {R : Room} {s : State} {m : MethodId} {args : Array Value} {below : List Frame} {meth : Method} {c : Code} {G : gT}
set_option maxHeartbeats 4000000 in
set_option maxRecDepth 100000 in
theorem wpX6_longest_b0 (C : CT p s m args meth c cX6_longest 3 RX6 (some (.int)) G (pA G s.heap.size)) {i0 : Nat} {v1 : Int32} {v2 : Int32} {x : xS}  {r : Int32} (hk0 : KD G i0 6) (hf : fpX6_longest_b0 i0 v1 v2 x  = some r) : WB p l e rpX6_longest s m args below meth c 3 G (pA G s.heap.size) (qI below G (r, x) args s 0 0) 0 0 0 [(0, .ref (G.2.2 i0)), (1, .int v1), (2, .int v2)] [] x := by
  unfold fpX6_longest_b0 at hf
  refine b_iload_n C dX6_longest_0 rfl 1 rfl ?_
  obtain ⟨r1, c1, hf⟩ := oB hf
  refine b_callSv (As := [.int v1]) (res := x) C (metpX6_checkLodger l G _ _ _ c1) gkX6_53 ekX6_53 rfl ⟨rfl, rfl⟩ ⟨Nat.le_of_ble_eq_true rfl, Nat.le_of_ble_eq_true rfl⟩ (by simp [Value.category]) ⟨Nat.zero_le _, Nat.zero_le _⟩ rfl dX6_longest_1 ?_
  refine b_iload_n C dX6_longest_4 rfl 2 rfl ?_
  obtain ⟨r5, c5, hf⟩ := oB hf
  refine b_callSv (As := [.int v2]) (res := x) C (metpX6_checkHour l G _ _ _ c5) gkX6_56 ekX6_56 rfl ⟨rfl, rfl⟩ ⟨Nat.le_of_ble_eq_true rfl, Nat.le_of_ble_eq_true rfl⟩ (by simp [Value.category]) ⟨Nat.zero_le _, Nat.zero_le _⟩ rfl dX6_longest_5 ?_
  refine b_aload_n C dX6_longest_8 rfl 0 rfl ?_
  refine gfX6_10 C hk0 dX6_longest_9 ?_
  refine gfX6_151 C ((kd6 C.cl hk0).1) dX6_longest_12 ?_
  refine b_iload_n C dX6_longest_15 rfl 1 rfl ?_
  refine b_iload_n C dX6_longest_16 rfl 2 rfl ?_
  obtain ⟨r17, c17, hf⟩ := oB hf
  refine b_callVi (K := 4) (As := [.int v1, .int v2]) (res := (r17, x)) C (metX4_longestFor l G _ _ _ _ _ ((kd3 C.cl ((kd6 C.cl hk0).1)).1) c17) ((kd3 C.cl ((kd6 C.cl hk0).1)).1) (by decide) rfl gkX6_185 ekX6_185 rfl ⟨rfl, rfl⟩ ⟨Nat.le_of_ble_eq_true rfl, Nat.le_of_ble_eq_true rfl⟩ (by simp [Value.category]) ⟨Nat.zero_le _, Nat.zero_le _⟩ rfl dX6_longest_17 ?_
  exact b_ireti C dX6_longest_20 (congrArg (Option.map (fun q => (q, x))) hf)
end
theorem metpX6_longest (l : Launch) (G : gT) (i0 : Nat) (v1 : Int32) (v2 : Int32) (x : xS) (r : Int32) (hk0 : KD G i0 6) (hf : fpX6_longest i0 v1 v2 x = some r) : cI l yX6_longest cX6_longest 3 (.int) rpX6_longest [.ref (G.2.2 i0), .int v1, .int v2] G x (r, x) :=
  b_body (by decide) (Nat.le_of_ble_eq_true rfl) rfl (fun p e s m args below meth c C => wpX6_longest_b0 C hk0 hf)
-- PX6_count
abbrev rpX6_count : Room := { frames := 5, cells := 0, slots := 0, locals := 109 }
def fpX6_count_b0 (i0 : Nat) (v1 : Int32) (x : xS)  : Option Int32 :=
  Option.bind (fpX6_checkRange v1 0 11 x) (fun r4 =>
  Option.bind (fX6_accountOf i0 v1 x) (fun r9 =>
  some r9))
def fpX6_count (i0 : Nat) (v1 : Int32) (x : xS) : Option Int32 := fpX6_count_b0 i0 v1 x
section
variable {p : Program} {l : Launch} {e : Env} {R : Room} {s : State} {m : MethodId} {args : Array Value} {below : List Frame} {meth : Method} {c : Code} {G : gT}
set_option maxHeartbeats 4000000 in
set_option maxRecDepth 100000 in
theorem wpX6_count_b0 (C : CT p s m args meth c cX6_count 2 RX6 (some (.int)) G (pA G s.heap.size)) {i0 : Nat} {v1 : Int32} {x : xS}  {r : Int32} (hk0 : KD G i0 6) (hf : fpX6_count_b0 i0 v1 x  = some r) : WB p l e rpX6_count s m args below meth c 2 G (pA G s.heap.size) (qI below G (r, x) args s 0 0) 0 0 0 [(0, .ref (G.2.2 i0)), (1, .int v1)] [] x := by
  unfold fpX6_count_b0 at hf
  refine b_iload_n C dX6_count_0 rfl 1 rfl ?_
  refine b_iconst (v := 0) C dX6_count_1 (by decide) ?_
  refine b_bipush (v := 11) C dX6_count_2 (by decide) ?_
  obtain ⟨r4, c4, hf⟩ := oB hf
  refine b_callSv (As := [.int v1, .int 0, .int 11]) (res := x) C (metpX6_checkRange l G _ _ _ _ _ c4) gkX6_160 ekX6_160 rfl ⟨rfl, rfl⟩ ⟨Nat.le_of_ble_eq_true rfl, Nat.le_of_ble_eq_true rfl⟩ (by simp [Value.category]) ⟨Nat.zero_le _, Nat.zero_le _⟩ rfl dX6_count_4 ?_
  refine b_aload_n C dX6_count_7 rfl 0 rfl ?_
  refine b_iload_n C dX6_count_8 rfl 1 rfl ?_
  obtain ⟨r9, c9, hf⟩ := oB hf
  refine b_callVi (K := 6) (As := [.int v1]) (res := (r9, x)) C (metX6_accountOf l G _ _ _ _ hk0 c9) hk0 (by decide) rfl gkX6_166 ekX6_166 rfl ⟨rfl, rfl⟩ ⟨Nat.le_of_ble_eq_true rfl, Nat.le_of_ble_eq_true rfl⟩ (by simp [Value.category]) ⟨Nat.zero_le _, Nat.zero_le _⟩ rfl dX6_count_9 ?_
  exact b_ireti C dX6_count_12 (congrArg (Option.map (fun q => (q, x))) hf)
end
theorem metpX6_count (l : Launch) (G : gT) (i0 : Nat) (v1 : Int32) (x : xS) (r : Int32) (hk0 : KD G i0 6) (hf : fpX6_count i0 v1 x = some r) : cI l yX6_count cX6_count 2 (.int) rpX6_count [.ref (G.2.2 i0), .int v1] G x (r, x) :=
  b_body (by decide) (Nat.le_of_ble_eq_true rfl) rfl (fun p e s m args below meth c C => wpX6_count_b0 C hk0 hf)
-- L_isLongestSo
abbrev rL_isLongestSo : Room := { frames := 6, cells := 0, slots := 0, locals := 139 }
def fL_isLongestSo_b173 (k48 : Int32 → Int32 → Int32 → Option Int32) (i0 : Nat) (v1 : Int32) (v2 : Int32) (x : xS) (v3 : Int32) (v5 : Int32) (s0 : Int32) : Option Int32 :=
  k48 v3 s0 (v5 + 1)
def fL_isLongestSo_b172 (k48 : Int32 → Int32 → Int32 → Option Int32) (i0 : Nat) (v1 : Int32) (v2 : Int32) (x : xS) (v3 : Int32) (v5 : Int32) : Option Int32 :=
  fL_isLongestSo_b173 k48 i0 v1 v2 x v3 v5 0
def fL_isLongestSo_b168 (k48 : Int32 → Int32 → Int32 → Option Int32) (i0 : Nat) (v1 : Int32) (v2 : Int32) (x : xS) (v3 : Int32) (v5 : Int32) : Option Int32 :=
  fL_isLongestSo_b173 k48 i0 v1 v2 x v3 v5 1
def fL_isLongestSo_b165 (k48 : Int32 → Int32 → Int32 → Option Int32) (i0 : Nat) (v1 : Int32) (v2 : Int32) (x : xS) (v3 : Int32) (v5 : Int32) (s0 : Int32) (s1 : Int32) : Option Int32 :=
  (if s0 = s1 then
  fL_isLongestSo_b168 k48 i0 v1 v2 x v3 v5
  else
  fL_isLongestSo_b172 k48 i0 v1 v2 x v3 v5)
def fL_isLongestSo_b143 (k48 : Int32 → Int32 → Int32 → Option Int32) (i0 : Nat) (v1 : Int32) (v2 : Int32) (x : xS) (v3 : Int32) (v4 : Int32) (v5 : Int32) (v6 : Int32) (v7 : Int32) : Option Int32 :=
  (if v4 = 0 then
  fL_isLongestSo_b172 k48 i0 v1 v2 x v3 v5
  else
  (if v6 = 0 then
  fL_isLongestSo_b168 k48 i0 v1 v2 x v3 v5
  else
  (if v5 = 0 then
  fL_isLongestSo_b165 k48 i0 v1 v2 x v3 v5 v7 1
  else
  fL_isLongestSo_b165 k48 i0 v1 v2 x v3 v5 v7 0)))
def fL_isLongestSo_b135 (k48 : Int32 → Int32 → Int32 → Option Int32) (k66 : Int32 → Int32 → Int32 → Int32 → Int32 → Int32 → Option Int32) (i0 : Nat) (v1 : Int32) (v2 : Int32) (x : xS) (v3 : Int32) (v4 : Int32) (v5 : Int32) (v6 : Int32) (v8 : Int32) (s0 : Int32) : Option Int32 :=
  k66 v3 v4 v5 v6 s0 (v8 + 1)
def fL_isLongestSo_b130 (k48 : Int32 → Int32 → Int32 → Option Int32) (k66 : Int32 → Int32 → Int32 → Int32 → Int32 → Int32 → Option Int32) (i0 : Nat) (v1 : Int32) (v2 : Int32) (x : xS) (v3 : Int32) (v4 : Int32) (v5 : Int32) (v6 : Int32) (v8 : Int32) : Option Int32 :=
  fL_isLongestSo_b135 k48 k66 i0 v1 v2 x v3 v4 v5 v6 v8 1
def fL_isLongestSo_b134 (k48 : Int32 → Int32 → Int32 → Option Int32) (k66 : Int32 → Int32 → Int32 → Int32 → Int32 → Int32 → Option Int32) (i0 : Nat) (v1 : Int32) (v2 : Int32) (x : xS) (v3 : Int32) (v4 : Int32) (v5 : Int32) (v6 : Int32) (v8 : Int32) : Option Int32 :=
  fL_isLongestSo_b135 k48 k66 i0 v1 v2 x v3 v4 v5 v6 v8 0
def fL_isLongestSo_b66 (k48 : Int32 → Int32 → Int32 → Option Int32) (i0 : Nat) (v1 : Int32) (v2 : Int32) (x : xS) : Nat → Int32 → Int32 → Int32 → Int32 → Int32 → Int32 → Option Int32
  | 0, _, _, _, _, _, _ => none
  | n + 1, v3, v4, v5, v6, v7, v8 => (if (4 : Int32) ≤ v8 then
  fL_isLongestSo_b143 k48 i0 v1 v2 x v3 v4 v5 v6 v7
  else
  (if v6 ≤ 0 then
  fL_isLongestSo_b143 k48 i0 v1 v2 x v3 v4 v5 v6 v7
  else
  (if (10 : Int32) ≤ v6 then
  fL_isLongestSo_b143 k48 i0 v1 v2 x v3 v4 v5 v6 v7
  else
  (if (13 : Int32) ≤ (v2 + v6) then
  fL_isLongestSo_b143 k48 i0 v1 v2 x v3 v4 v5 v6 v7
  else
  (if v7 = 0 then
  Option.bind (fL_isFree i0 v8 v2 v6 x) (fun r104 =>
  (if r104 = 0 then
  fL_isLongestSo_b134 k48 (fL_isLongestSo_b66 k48 i0 v1 v2 x n) i0 v1 v2 x v3 v4 v5 v6 v8
  else
  Option.bind (fL_has i0 v1 v2 v6 x) (fun r115 =>
  (if r115 = 0 then
  Option.bind (fpX6_count i0 0 x) (fun r124 =>
  (if v2 < r124 then
  fL_isLongestSo_b134 k48 (fL_isLongestSo_b66 k48 i0 v1 v2 x n) i0 v1 v2 x v3 v4 v5 v6 v8
  else
  fL_isLongestSo_b130 k48 (fL_isLongestSo_b66 k48 i0 v1 v2 x n) i0 v1 v2 x v3 v4 v5 v6 v8))
  else
  fL_isLongestSo_b134 k48 (fL_isLongestSo_b66 k48 i0 v1 v2 x n) i0 v1 v2 x v3 v4 v5 v6 v8))))
  else
  fL_isLongestSo_b130 k48 (fL_isLongestSo_b66 k48 i0 v1 v2 x n) i0 v1 v2 x v3 v4 v5 v6 v8)))))
def fL_isLongestSo_b48 (i0 : Nat) (v1 : Int32) (v2 : Int32) (x : xS) : Nat → Int32 → Int32 → Int32 → Option Int32
  | 0, _, _, _ => none
  | n + 1, v3, v4, v5 => (if (2 : Int32) ≤ v5 then
  (if v4 &&& 1 = v4 then some v4 else none)
  else
  lt1 (v3 + v5) (fun y58 => 
  fL_isLongestSo_b66 (fL_isLongestSo_b48 i0 v1 v2 x n) i0 v1 v2 x FU v3 v4 v5 y58 0 0))
def fL_isLongestSo_b43 (i0 : Nat) (v1 : Int32) (v2 : Int32) (x : xS) (v3 : Int32) (s0 : Int32) : Option Int32 :=
  fL_isLongestSo_b48 i0 v1 v2 x FU v3 s0 0
def fL_isLongestSo_b42 (i0 : Nat) (v1 : Int32) (v2 : Int32) (x : xS) (v3 : Int32) : Option Int32 :=
  fL_isLongestSo_b43 i0 v1 v2 x v3 0
def fL_isLongestSo_b38 (i0 : Nat) (v1 : Int32) (v2 : Int32) (x : xS) (v3 : Int32) : Option Int32 :=
  fL_isLongestSo_b43 i0 v1 v2 x v3 1
def fL_isLongestSo_b0 (i0 : Nat) (v1 : Int32) (v2 : Int32) (x : xS)  : Option Int32 :=
  Option.bind (fpX6_longest i0 v1 v2 x) (fun r3 =>
  (if r3 < 0 then
  fL_isLongestSo_b42 i0 v1 v2 x r3
  else
  (if (9 : Int32) < r3 then
  fL_isLongestSo_b42 i0 v1 v2 x r3
  else
  (if (12 : Int32) < (v2 + r3) then
  fL_isLongestSo_b42 i0 v1 v2 x r3
  else
  (if r3 = 0 then
  fL_isLongestSo_b38 i0 v1 v2 x r3
  else
  Option.bind (fpX6_count i0 0 x) (fun r32 =>
  (if v2 < r32 then
  fL_isLongestSo_b42 i0 v1 v2 x r3
  else
  fL_isLongestSo_b38 i0 v1 v2 x r3)))))))
def fL_isLongestSo (i0 : Nat) (v1 : Int32) (v2 : Int32) (x : xS) : Option Int32 := fL_isLongestSo_b0 i0 v1 v2 x
section
variable {p : Program} {l : Launch} {e : Env} {R : Room} {s : State} {m : MethodId} {args : Array Value} {below : List Frame} {meth : Method} {c : Code} {G : gT}
set_option maxHeartbeats 4000000 in
set_option maxRecDepth 100000 in
theorem wL_isLongestSo_b173 (C : CT p s m args meth c cL_isLongestSo 9 RL (some (.boolean)) G (pA G s.heap.size)) {k48 : Int32 → Int32 → Int32 → Option Int32} {i0 : Nat} {v1 : Int32} {v2 : Int32} {x : xS} {v3 : Int32} {v5 : Int32} {s0 : Int32} {r : Int32} (h48 : ∀ (v3 : Int32) (v4 : Int32) (v5 : Int32), k48 v3 v4 v5 = some r → WB p l e rL_isLongestSo s m args below meth c 9 G (pA G s.heap.size) (qI below G (r, x) args s 0 0) 0 0 48 [(0, .ref (G.2.2 i0)), (1, .int v1), (2, .int v2), (3, .int v3), (4, .int v4), (5, .int v5)] [] x) (hk0 : KD G i0 6) (hf : fL_isLongestSo_b173 k48 i0 v1 v2 x v3 v5 s0 = some r) : WB p l e rL_isLongestSo s m args below meth c 9 G (pA G s.heap.size) (qI below G (r, x) args s 0 0) 0 0 173 [(0, .ref (G.2.2 i0)), (1, .int v1), (2, .int v2), (3, .int v3), (5, .int v5)] [.int s0] x := by
  unfold fL_isLongestSo_b173 at hf
  refine b_istore (lv' := [(4, .int s0), (0, .ref (G.2.2 i0)), (1, .int v1), (2, .int v2), (3, .int v3), (5, .int v5)]) C dL_isLongestSo_173 (by decide) rfl ?_
  refine b_iinc (q := 5) (v' := (v5 + 1)) (lv' := [(5, .int (v5 + 1)), (4, .int s0), (0, .ref (G.2.2 i0)), (1, .int v1), (2, .int v2), (3, .int v3)]) C dL_isLongestSo_175 rfl rfl (by decide) rfl ?_
  refine b_goto (tgt := 48) C dL_isLongestSo_178 (by decide) ?_
  refine b_pm [2, 3, 4, 5, 1, 0] (lv' := [(0, .ref (G.2.2 i0)), (1, .int v1), (2, .int v2), (3, .int v3), (4, .int s0), (5, .int (v5 + 1))]) rfl ?_
  exact h48 _ _ _ hf
set_option maxHeartbeats 4000000 in
set_option maxRecDepth 100000 in
theorem wL_isLongestSo_b172 (C : CT p s m args meth c cL_isLongestSo 9 RL (some (.boolean)) G (pA G s.heap.size)) {k48 : Int32 → Int32 → Int32 → Option Int32} {i0 : Nat} {v1 : Int32} {v2 : Int32} {x : xS} {v3 : Int32} {v5 : Int32} {r : Int32} (h48 : ∀ (v3 : Int32) (v4 : Int32) (v5 : Int32), k48 v3 v4 v5 = some r → WB p l e rL_isLongestSo s m args below meth c 9 G (pA G s.heap.size) (qI below G (r, x) args s 0 0) 0 0 48 [(0, .ref (G.2.2 i0)), (1, .int v1), (2, .int v2), (3, .int v3), (4, .int v4), (5, .int v5)] [] x) (hk0 : KD G i0 6) (hf : fL_isLongestSo_b172 k48 i0 v1 v2 x v3 v5 = some r) : WB p l e rL_isLongestSo s m args below meth c 9 G (pA G s.heap.size) (qI below G (r, x) args s 0 0) 0 0 172 [(0, .ref (G.2.2 i0)), (1, .int v1), (2, .int v2), (3, .int v3), (5, .int v5)] [] x := by
  unfold fL_isLongestSo_b172 at hf
  refine b_iconst (v := 0) C dL_isLongestSo_172 (by decide) ?_
  exact wL_isLongestSo_b173 C h48 hk0 hf
set_option maxHeartbeats 4000000 in
set_option maxRecDepth 100000 in
theorem wL_isLongestSo_b168 (C : CT p s m args meth c cL_isLongestSo 9 RL (some (.boolean)) G (pA G s.heap.size)) {k48 : Int32 → Int32 → Int32 → Option Int32} {i0 : Nat} {v1 : Int32} {v2 : Int32} {x : xS} {v3 : Int32} {v5 : Int32} {r : Int32} (h48 : ∀ (v3 : Int32) (v4 : Int32) (v5 : Int32), k48 v3 v4 v5 = some r → WB p l e rL_isLongestSo s m args below meth c 9 G (pA G s.heap.size) (qI below G (r, x) args s 0 0) 0 0 48 [(0, .ref (G.2.2 i0)), (1, .int v1), (2, .int v2), (3, .int v3), (4, .int v4), (5, .int v5)] [] x) (hk0 : KD G i0 6) (hf : fL_isLongestSo_b168 k48 i0 v1 v2 x v3 v5 = some r) : WB p l e rL_isLongestSo s m args below meth c 9 G (pA G s.heap.size) (qI below G (r, x) args s 0 0) 0 0 168 [(0, .ref (G.2.2 i0)), (1, .int v1), (2, .int v2), (3, .int v3), (5, .int v5)] [] x := by
  unfold fL_isLongestSo_b168 at hf
  refine b_iconst (v := 1) C dL_isLongestSo_168 (by decide) ?_
  refine b_goto (tgt := 173) C dL_isLongestSo_169 (by decide) ?_
  exact wL_isLongestSo_b173 C h48 hk0 hf
set_option maxHeartbeats 4000000 in
set_option maxRecDepth 100000 in
theorem wL_isLongestSo_b165 (C : CT p s m args meth c cL_isLongestSo 9 RL (some (.boolean)) G (pA G s.heap.size)) {k48 : Int32 → Int32 → Int32 → Option Int32} {i0 : Nat} {v1 : Int32} {v2 : Int32} {x : xS} {v3 : Int32} {v5 : Int32} {s0 : Int32} {s1 : Int32} {r : Int32} (h48 : ∀ (v3 : Int32) (v4 : Int32) (v5 : Int32), k48 v3 v4 v5 = some r → WB p l e rL_isLongestSo s m args below meth c 9 G (pA G s.heap.size) (qI below G (r, x) args s 0 0) 0 0 48 [(0, .ref (G.2.2 i0)), (1, .int v1), (2, .int v2), (3, .int v3), (4, .int v4), (5, .int v5)] [] x) (hk0 : KD G i0 6) (hf : fL_isLongestSo_b165 k48 i0 v1 v2 x v3 v5 s0 s1 = some r) : WB p l e rL_isLongestSo s m args below meth c 9 G (pA G s.heap.size) (qI below G (r, x) args s 0 0) 0 0 165 [(0, .ref (G.2.2 i0)), (1, .int v1), (2, .int v2), (3, .int v3), (5, .int v5)] [.int s1, .int s0] x := by
  unfold fL_isLongestSo_b165 at hf
  refine b_icmp_ne (tgt := 172) C dL_isLongestSo_165 (by decide) (fun c165 => ?_) (fun c165 => ?_)
  · have hf := iF c165 hf
    exact wL_isLongestSo_b172 C h48 hk0 hf
  · have hf := iT c165 hf
    exact wL_isLongestSo_b168 C h48 hk0 hf
set_option maxHeartbeats 4000000 in
set_option maxRecDepth 100000 in
theorem wL_isLongestSo_b143 (C : CT p s m args meth c cL_isLongestSo 9 RL (some (.boolean)) G (pA G s.heap.size)) {k48 : Int32 → Int32 → Int32 → Option Int32} {i0 : Nat} {v1 : Int32} {v2 : Int32} {x : xS} {v3 : Int32} {v4 : Int32} {v5 : Int32} {v6 : Int32} {v7 : Int32} {r : Int32} (h48 : ∀ (v3 : Int32) (v4 : Int32) (v5 : Int32), k48 v3 v4 v5 = some r → WB p l e rL_isLongestSo s m args below meth c 9 G (pA G s.heap.size) (qI below G (r, x) args s 0 0) 0 0 48 [(0, .ref (G.2.2 i0)), (1, .int v1), (2, .int v2), (3, .int v3), (4, .int v4), (5, .int v5)] [] x) (hk0 : KD G i0 6) (hf : fL_isLongestSo_b143 k48 i0 v1 v2 x v3 v4 v5 v6 v7 = some r) : WB p l e rL_isLongestSo s m args below meth c 9 G (pA G s.heap.size) (qI below G (r, x) args s 0 0) 0 0 143 [(0, .ref (G.2.2 i0)), (1, .int v1), (2, .int v2), (3, .int v3), (4, .int v4), (5, .int v5), (6, .int v6), (7, .int v7)] [] x := by
  unfold fL_isLongestSo_b143 at hf
  refine b_iload C dL_isLongestSo_143 4 rfl ?_
  refine b_if_eq (tgt := 172) C dL_isLongestSo_145 (by decide) (fun c145 => ?_) (fun c145 => ?_)
  · have hf := iT c145 hf
    refine b_pm [0, 1, 2, 3, 5] (lv' := [(0, .ref (G.2.2 i0)), (1, .int v1), (2, .int v2), (3, .int v3), (5, .int v5)]) rfl ?_
    exact wL_isLongestSo_b172 C h48 hk0 hf
  · have hf := iF c145 hf
    refine b_iload C dL_isLongestSo_148 6 rfl ?_
    refine b_if_eq (tgt := 168) C dL_isLongestSo_150 (by decide) (fun c150 => ?_) (fun c150 => ?_)
    · have hf := iT c150 hf
      refine b_pm [0, 1, 2, 3, 5] (lv' := [(0, .ref (G.2.2 i0)), (1, .int v1), (2, .int v2), (3, .int v3), (5, .int v5)]) rfl ?_
      exact wL_isLongestSo_b168 C h48 hk0 hf
    · have hf := iF c150 hf
      refine b_iload C dL_isLongestSo_153 7 rfl ?_
      refine b_iload C dL_isLongestSo_155 5 rfl ?_
      refine b_if_ne (tgt := 164) C dL_isLongestSo_157 (by decide) (fun c157 => ?_) (fun c157 => ?_)
      · have hf := iF c157 hf
        refine b_iconst (v := 0) C dL_isLongestSo_164 (by decide) ?_
        refine b_pm [0, 1, 2, 3, 5] (lv' := [(0, .ref (G.2.2 i0)), (1, .int v1), (2, .int v2), (3, .int v3), (5, .int v5)]) rfl ?_
        exact wL_isLongestSo_b165 C h48 hk0 hf
      · have hf := iT c157 hf
        refine b_iconst (v := 1) C dL_isLongestSo_160 (by decide) ?_
        refine b_goto (tgt := 165) C dL_isLongestSo_161 (by decide) ?_
        refine b_pm [0, 1, 2, 3, 5] (lv' := [(0, .ref (G.2.2 i0)), (1, .int v1), (2, .int v2), (3, .int v3), (5, .int v5)]) rfl ?_
        exact wL_isLongestSo_b165 C h48 hk0 hf
set_option maxHeartbeats 4000000 in
set_option maxRecDepth 100000 in
theorem wL_isLongestSo_b135 (C : CT p s m args meth c cL_isLongestSo 9 RL (some (.boolean)) G (pA G s.heap.size)) {k48 : Int32 → Int32 → Int32 → Option Int32} {k66 : Int32 → Int32 → Int32 → Int32 → Int32 → Int32 → Option Int32} {i0 : Nat} {v1 : Int32} {v2 : Int32} {x : xS} {v3 : Int32} {v4 : Int32} {v5 : Int32} {v6 : Int32} {v8 : Int32} {s0 : Int32} {r : Int32} (h48 : ∀ (v3 : Int32) (v4 : Int32) (v5 : Int32), k48 v3 v4 v5 = some r → WB p l e rL_isLongestSo s m args below meth c 9 G (pA G s.heap.size) (qI below G (r, x) args s 0 0) 0 0 48 [(0, .ref (G.2.2 i0)), (1, .int v1), (2, .int v2), (3, .int v3), (4, .int v4), (5, .int v5)] [] x) (h66 : ∀ (v3 : Int32) (v4 : Int32) (v5 : Int32) (v6 : Int32) (v7 : Int32) (v8 : Int32), k66 v3 v4 v5 v6 v7 v8 = some r → WB p l e rL_isLongestSo s m args below meth c 9 G (pA G s.heap.size) (qI below G (r, x) args s 0 0) 0 0 66 [(0, .ref (G.2.2 i0)), (1, .int v1), (2, .int v2), (3, .int v3), (4, .int v4), (5, .int v5), (6, .int v6), (7, .int v7), (8, .int v8)] [] x) (hk0 : KD G i0 6) (hf : fL_isLongestSo_b135 k48 k66 i0 v1 v2 x v3 v4 v5 v6 v8 s0 = some r) : WB p l e rL_isLongestSo s m args below meth c 9 G (pA G s.heap.size) (qI below G (r, x) args s 0 0) 0 0 135 [(0, .ref (G.2.2 i0)), (1, .int v1), (2, .int v2), (3, .int v3), (4, .int v4), (5, .int v5), (6, .int v6), (8, .int v8)] [.int s0] x := by
  unfold fL_isLongestSo_b135 at hf
  refine b_istore (lv' := [(7, .int s0), (0, .ref (G.2.2 i0)), (1, .int v1), (2, .int v2), (3, .int v3), (4, .int v4), (5, .int v5), (6, .int v6), (8, .int v8)]) C dL_isLongestSo_135 (by decide) rfl ?_
  refine b_iinc (q := 8) (v' := (v8 + 1)) (lv' := [(8, .int (v8 + 1)), (7, .int s0), (0, .ref (G.2.2 i0)), (1, .int v1), (2, .int v2), (3, .int v3), (4, .int v4), (5, .int v5), (6, .int v6)]) C dL_isLongestSo_137 rfl rfl (by decide) rfl ?_
  refine b_goto (tgt := 66) C dL_isLongestSo_140 (by decide) ?_
  refine b_pm [2, 3, 4, 5, 6, 7, 8, 1, 0] (lv' := [(0, .ref (G.2.2 i0)), (1, .int v1), (2, .int v2), (3, .int v3), (4, .int v4), (5, .int v5), (6, .int v6), (7, .int s0), (8, .int (v8 + 1))]) rfl ?_
  exact h66 _ _ _ _ _ _ hf
set_option maxHeartbeats 4000000 in
set_option maxRecDepth 100000 in
theorem wL_isLongestSo_b130 (C : CT p s m args meth c cL_isLongestSo 9 RL (some (.boolean)) G (pA G s.heap.size)) {k48 : Int32 → Int32 → Int32 → Option Int32} {k66 : Int32 → Int32 → Int32 → Int32 → Int32 → Int32 → Option Int32} {i0 : Nat} {v1 : Int32} {v2 : Int32} {x : xS} {v3 : Int32} {v4 : Int32} {v5 : Int32} {v6 : Int32} {v8 : Int32} {r : Int32} (h48 : ∀ (v3 : Int32) (v4 : Int32) (v5 : Int32), k48 v3 v4 v5 = some r → WB p l e rL_isLongestSo s m args below meth c 9 G (pA G s.heap.size) (qI below G (r, x) args s 0 0) 0 0 48 [(0, .ref (G.2.2 i0)), (1, .int v1), (2, .int v2), (3, .int v3), (4, .int v4), (5, .int v5)] [] x) (h66 : ∀ (v3 : Int32) (v4 : Int32) (v5 : Int32) (v6 : Int32) (v7 : Int32) (v8 : Int32), k66 v3 v4 v5 v6 v7 v8 = some r → WB p l e rL_isLongestSo s m args below meth c 9 G (pA G s.heap.size) (qI below G (r, x) args s 0 0) 0 0 66 [(0, .ref (G.2.2 i0)), (1, .int v1), (2, .int v2), (3, .int v3), (4, .int v4), (5, .int v5), (6, .int v6), (7, .int v7), (8, .int v8)] [] x) (hk0 : KD G i0 6) (hf : fL_isLongestSo_b130 k48 k66 i0 v1 v2 x v3 v4 v5 v6 v8 = some r) : WB p l e rL_isLongestSo s m args below meth c 9 G (pA G s.heap.size) (qI below G (r, x) args s 0 0) 0 0 130 [(0, .ref (G.2.2 i0)), (1, .int v1), (2, .int v2), (3, .int v3), (4, .int v4), (5, .int v5), (6, .int v6), (8, .int v8)] [] x := by
  unfold fL_isLongestSo_b130 at hf
  refine b_iconst (v := 1) C dL_isLongestSo_130 (by decide) ?_
  refine b_goto (tgt := 135) C dL_isLongestSo_131 (by decide) ?_
  exact wL_isLongestSo_b135 C h48 h66 hk0 hf
set_option maxHeartbeats 4000000 in
set_option maxRecDepth 100000 in
theorem wL_isLongestSo_b134 (C : CT p s m args meth c cL_isLongestSo 9 RL (some (.boolean)) G (pA G s.heap.size)) {k48 : Int32 → Int32 → Int32 → Option Int32} {k66 : Int32 → Int32 → Int32 → Int32 → Int32 → Int32 → Option Int32} {i0 : Nat} {v1 : Int32} {v2 : Int32} {x : xS} {v3 : Int32} {v4 : Int32} {v5 : Int32} {v6 : Int32} {v8 : Int32} {r : Int32} (h48 : ∀ (v3 : Int32) (v4 : Int32) (v5 : Int32), k48 v3 v4 v5 = some r → WB p l e rL_isLongestSo s m args below meth c 9 G (pA G s.heap.size) (qI below G (r, x) args s 0 0) 0 0 48 [(0, .ref (G.2.2 i0)), (1, .int v1), (2, .int v2), (3, .int v3), (4, .int v4), (5, .int v5)] [] x) (h66 : ∀ (v3 : Int32) (v4 : Int32) (v5 : Int32) (v6 : Int32) (v7 : Int32) (v8 : Int32), k66 v3 v4 v5 v6 v7 v8 = some r → WB p l e rL_isLongestSo s m args below meth c 9 G (pA G s.heap.size) (qI below G (r, x) args s 0 0) 0 0 66 [(0, .ref (G.2.2 i0)), (1, .int v1), (2, .int v2), (3, .int v3), (4, .int v4), (5, .int v5), (6, .int v6), (7, .int v7), (8, .int v8)] [] x) (hk0 : KD G i0 6) (hf : fL_isLongestSo_b134 k48 k66 i0 v1 v2 x v3 v4 v5 v6 v8 = some r) : WB p l e rL_isLongestSo s m args below meth c 9 G (pA G s.heap.size) (qI below G (r, x) args s 0 0) 0 0 134 [(0, .ref (G.2.2 i0)), (1, .int v1), (2, .int v2), (3, .int v3), (4, .int v4), (5, .int v5), (6, .int v6), (8, .int v8)] [] x := by
  unfold fL_isLongestSo_b134 at hf
  refine b_iconst (v := 0) C dL_isLongestSo_134 (by decide) ?_
  exact wL_isLongestSo_b135 C h48 h66 hk0 hf
set_option maxHeartbeats 4000000 in
set_option maxRecDepth 100000 in
theorem wL_isLongestSo_b66 (C : CT p s m args meth c cL_isLongestSo 9 RL (some (.boolean)) G (pA G s.heap.size)) {k48 : Int32 → Int32 → Int32 → Option Int32} {i0 : Nat} {v1 : Int32} {v2 : Int32} {x : xS} {r : Int32} (h48 : ∀ (v3 : Int32) (v4 : Int32) (v5 : Int32), k48 v3 v4 v5 = some r → WB p l e rL_isLongestSo s m args below meth c 9 G (pA G s.heap.size) (qI below G (r, x) args s 0 0) 0 0 48 [(0, .ref (G.2.2 i0)), (1, .int v1), (2, .int v2), (3, .int v3), (4, .int v4), (5, .int v5)] [] x) (hk0 : KD G i0 6) : ∀ (n : Nat) (v3 : Int32) (v4 : Int32) (v5 : Int32) (v6 : Int32) (v7 : Int32) (v8 : Int32), fL_isLongestSo_b66 k48 i0 v1 v2 x n v3 v4 v5 v6 v7 v8 = some r → WB p l e rL_isLongestSo s m args below meth c 9 G (pA G s.heap.size) (qI below G (r, x) args s 0 0) 0 0 66 [(0, .ref (G.2.2 i0)), (1, .int v1), (2, .int v2), (3, .int v3), (4, .int v4), (5, .int v5), (6, .int v6), (7, .int v7), (8, .int v8)] [] x := by
  intro n
  induction n with
  | zero =>
    intro v3 v4 v5 v6 v7 v8 hf
    cases hf
  | succ n ih =>
    intro v3 v4 v5 v6 v7 v8 hf
    rw [fL_isLongestSo_b66] at hf
    refine b_iload C dL_isLongestSo_66 8 rfl ?_
    refine b_iconst (v := 4) C dL_isLongestSo_68 (by decide) ?_
    refine b_icmp_ge (tgt := 143) C dL_isLongestSo_69 (by decide) (fun c69 => ?_) (fun c69 => ?_)
    · have hf := iT c69 hf
      refine b_pm [0, 1, 2, 3, 4, 5, 6, 7] (lv' := [(0, .ref (G.2.2 i0)), (1, .int v1), (2, .int v2), (3, .int v3), (4, .int v4), (5, .int v5), (6, .int v6), (7, .int v7)]) rfl ?_
      exact wL_isLongestSo_b143 C h48 hk0 hf
    · have hf := iF c69 hf
      refine b_iload C dL_isLongestSo_72 6 rfl ?_
      refine b_if_le (tgt := 143) C dL_isLongestSo_74 (by decide) (fun c74 => ?_) (fun c74 => ?_)
      · have hf := iT c74 hf
        refine b_pm [0, 1, 2, 3, 4, 5, 6, 7] (lv' := [(0, .ref (G.2.2 i0)), (1, .int v1), (2, .int v2), (3, .int v3), (4, .int v4), (5, .int v5), (6, .int v6), (7, .int v7)]) rfl ?_
        exact wL_isLongestSo_b143 C h48 hk0 hf
      · have hf := iF c74 hf
        refine b_iload C dL_isLongestSo_77 6 rfl ?_
        refine b_bipush (v := 10) C dL_isLongestSo_79 (by decide) ?_
        refine b_icmp_ge (tgt := 143) C dL_isLongestSo_81 (by decide) (fun c81 => ?_) (fun c81 => ?_)
        · have hf := iT c81 hf
          refine b_pm [0, 1, 2, 3, 4, 5, 6, 7] (lv' := [(0, .ref (G.2.2 i0)), (1, .int v1), (2, .int v2), (3, .int v3), (4, .int v4), (5, .int v5), (6, .int v6), (7, .int v7)]) rfl ?_
          exact wL_isLongestSo_b143 C h48 hk0 hf
        · have hf := iF c81 hf
          refine b_iload_n C dL_isLongestSo_84 rfl 2 rfl ?_
          refine b_iload C dL_isLongestSo_85 6 rfl ?_
          refine b_iadd C dL_isLongestSo_87 ?_
          refine b_bipush (v := 13) C dL_isLongestSo_88 (by decide) ?_
          refine b_icmp_ge (tgt := 143) C dL_isLongestSo_90 (by decide) (fun c90 => ?_) (fun c90 => ?_)
          · have hf := iT c90 hf
            refine b_pm [0, 1, 2, 3, 4, 5, 6, 7] (lv' := [(0, .ref (G.2.2 i0)), (1, .int v1), (2, .int v2), (3, .int v3), (4, .int v4), (5, .int v5), (6, .int v6), (7, .int v7)]) rfl ?_
            exact wL_isLongestSo_b143 C h48 hk0 hf
          · have hf := iF c90 hf
            refine b_iload C dL_isLongestSo_93 7 rfl ?_
            refine b_if_ne (tgt := 130) C dL_isLongestSo_95 (by decide) (fun c95 => ?_) (fun c95 => ?_)
            · have hf := iF c95 hf
              refine b_pm [0, 1, 2, 3, 4, 5, 6, 8] (lv' := [(0, .ref (G.2.2 i0)), (1, .int v1), (2, .int v2), (3, .int v3), (4, .int v4), (5, .int v5), (6, .int v6), (8, .int v8)]) rfl ?_
              exact wL_isLongestSo_b130 C h48 ih hk0 hf
            · have hf := iT c95 hf
              refine b_aload_n C dL_isLongestSo_98 rfl 0 rfl ?_
              refine b_iload C dL_isLongestSo_99 8 rfl ?_
              refine b_iload_n C dL_isLongestSo_101 rfl 2 rfl ?_
              refine b_iload C dL_isLongestSo_102 6 rfl ?_
              obtain ⟨r104, c104, hf⟩ := oB hf
              refine b_callSi (As := [.ref (G.2.2 i0), .int v8, .int v2, .int v6]) (res := (r104, x)) C (metL_isFree l G _ _ _ _ _ _ hk0 c104) gkL_74 ekL_74 rfl ⟨rfl, rfl⟩ ⟨Nat.le_of_ble_eq_true rfl, Nat.le_of_ble_eq_true rfl⟩ (by simp [Value.category]) ⟨Nat.zero_le _, Nat.zero_le _⟩ rfl dL_isLongestSo_104 ?_
              refine b_if_eq (tgt := 134) C dL_isLongestSo_107 (by decide) (fun c107 => ?_) (fun c107 => ?_)
              · have hf := iT c107 hf
                refine b_pm [0, 1, 2, 3, 4, 5, 6, 8] (lv' := [(0, .ref (G.2.2 i0)), (1, .int v1), (2, .int v2), (3, .int v3), (4, .int v4), (5, .int v5), (6, .int v6), (8, .int v8)]) rfl ?_
                exact wL_isLongestSo_b134 C h48 ih hk0 hf
              · have hf := iF c107 hf
                refine b_aload_n C dL_isLongestSo_110 rfl 0 rfl ?_
                refine b_iload_n C dL_isLongestSo_111 rfl 1 rfl ?_
                refine b_iload_n C dL_isLongestSo_112 rfl 2 rfl ?_
                refine b_iload C dL_isLongestSo_113 6 rfl ?_
                obtain ⟨r115, c115, hf⟩ := oB hf
                refine b_callSi (As := [.ref (G.2.2 i0), .int v1, .int v2, .int v6]) (res := (r115, x)) C (metL_has l G _ _ _ _ _ _ hk0 c115) gkL_78 ekL_78 rfl ⟨rfl, rfl⟩ ⟨Nat.le_of_ble_eq_true rfl, Nat.le_of_ble_eq_true rfl⟩ (by simp [Value.category]) ⟨Nat.zero_le _, Nat.zero_le _⟩ rfl dL_isLongestSo_115 ?_
                refine b_if_ne (tgt := 134) C dL_isLongestSo_118 (by decide) (fun c118 => ?_) (fun c118 => ?_)
                · have hf := iF c118 hf
                  refine b_pm [0, 1, 2, 3, 4, 5, 6, 8] (lv' := [(0, .ref (G.2.2 i0)), (1, .int v1), (2, .int v2), (3, .int v3), (4, .int v4), (5, .int v5), (6, .int v6), (8, .int v8)]) rfl ?_
                  exact wL_isLongestSo_b134 C h48 ih hk0 hf
                · have hf := iT c118 hf
                  refine b_iload_n C dL_isLongestSo_121 rfl 2 rfl ?_
                  refine b_aload_n C dL_isLongestSo_122 rfl 0 rfl ?_
                  refine b_iconst (v := 0) C dL_isLongestSo_123 (by decide) ?_
                  obtain ⟨r124, c124, hf⟩ := oB hf
                  refine b_callVi (K := 6) (As := [.int 0]) (res := (r124, x)) C (metpX6_count l G _ _ _ _ hk0 c124) hk0 (by decide) rfl gkL_53 ekL_53 rfl ⟨rfl, rfl⟩ ⟨Nat.le_of_ble_eq_true rfl, Nat.le_of_ble_eq_true rfl⟩ (by simp [Value.category]) ⟨Nat.zero_le _, Nat.zero_le _⟩ rfl dL_isLongestSo_124 ?_
                  refine b_icmp_lt (tgt := 134) C dL_isLongestSo_127 (by decide) (fun c127 => ?_) (fun c127 => ?_)
                  · have hf := iT c127 hf
                    refine b_pm [0, 1, 2, 3, 4, 5, 6, 8] (lv' := [(0, .ref (G.2.2 i0)), (1, .int v1), (2, .int v2), (3, .int v3), (4, .int v4), (5, .int v5), (6, .int v6), (8, .int v8)]) rfl ?_
                    exact wL_isLongestSo_b134 C h48 ih hk0 hf
                  · have hf := iF c127 hf
                    refine b_pm [0, 1, 2, 3, 4, 5, 6, 8] (lv' := [(0, .ref (G.2.2 i0)), (1, .int v1), (2, .int v2), (3, .int v3), (4, .int v4), (5, .int v5), (6, .int v6), (8, .int v8)]) rfl ?_
                    exact wL_isLongestSo_b130 C h48 ih hk0 hf
set_option maxHeartbeats 4000000 in
set_option maxRecDepth 100000 in
theorem wL_isLongestSo_b48 (C : CT p s m args meth c cL_isLongestSo 9 RL (some (.boolean)) G (pA G s.heap.size)) {i0 : Nat} {v1 : Int32} {v2 : Int32} {x : xS} {r : Int32} (hk0 : KD G i0 6) : ∀ (n : Nat) (v3 : Int32) (v4 : Int32) (v5 : Int32), fL_isLongestSo_b48 i0 v1 v2 x n v3 v4 v5 = some r → WB p l e rL_isLongestSo s m args below meth c 9 G (pA G s.heap.size) (qI below G (r, x) args s 0 0) 0 0 48 [(0, .ref (G.2.2 i0)), (1, .int v1), (2, .int v2), (3, .int v3), (4, .int v4), (5, .int v5)] [] x := by
  intro n
  induction n with
  | zero =>
    intro v3 v4 v5 hf
    cases hf
  | succ n ih =>
    intro v3 v4 v5 hf
    rw [fL_isLongestSo_b48] at hf
    refine b_iload C dL_isLongestSo_48 5 rfl ?_
    refine b_iconst (v := 2) C dL_isLongestSo_50 (by decide) ?_
    refine b_icmp_ge (tgt := 181) C dL_isLongestSo_51 (by decide) (fun c51 => ?_) (fun c51 => ?_)
    · have hf := iT c51 hf
      refine b_iload C dL_isLongestSo_181 4 rfl ?_
      obtain ⟨g183, hf⟩ := iP hf
      exact b_iretz C g183 dL_isLongestSo_183 (congrArg (Option.map (fun q => (q, x))) hf)
    · have hf := iF c51 hf
      refine b_iload_n C dL_isLongestSo_54 rfl 3 rfl ?_
      refine b_iload C dL_isLongestSo_55 5 rfl ?_
      refine b_iadd C dL_isLongestSo_57 ?_
      obtain ⟨y58, e58, hf⟩ := lN1 hf
      rw [e58]
      refine b_istore (lv' := [(6, .int y58), (0, .ref (G.2.2 i0)), (1, .int v1), (2, .int v2), (3, .int v3), (4, .int v4), (5, .int v5)]) C dL_isLongestSo_58 (by decide) rfl ?_
      refine b_iconst (v := 0) C dL_isLongestSo_60 (by decide) ?_
      refine b_istore (lv' := [(7, .int 0), (6, .int y58), (0, .ref (G.2.2 i0)), (1, .int v1), (2, .int v2), (3, .int v3), (4, .int v4), (5, .int v5)]) C dL_isLongestSo_61 (by decide) rfl ?_
      refine b_iconst (v := 0) C dL_isLongestSo_63 (by decide) ?_
      refine b_istore (lv' := [(8, .int 0), (7, .int 0), (6, .int y58), (0, .ref (G.2.2 i0)), (1, .int v1), (2, .int v2), (3, .int v3), (4, .int v4), (5, .int v5)]) C dL_isLongestSo_64 (by decide) rfl ?_
      refine b_pm [3, 4, 5, 6, 7, 8, 2, 1, 0] (lv' := [(0, .ref (G.2.2 i0)), (1, .int v1), (2, .int v2), (3, .int v3), (4, .int v4), (5, .int v5), (6, .int y58), (7, .int 0), (8, .int 0)]) rfl ?_
      exact wL_isLongestSo_b66 C ih hk0 FU _ _ _ _ _ _ hf
set_option maxHeartbeats 4000000 in
set_option maxRecDepth 100000 in
theorem wL_isLongestSo_b43 (C : CT p s m args meth c cL_isLongestSo 9 RL (some (.boolean)) G (pA G s.heap.size)) {i0 : Nat} {v1 : Int32} {v2 : Int32} {x : xS} {v3 : Int32} {s0 : Int32} {r : Int32} (hk0 : KD G i0 6) (hf : fL_isLongestSo_b43 i0 v1 v2 x v3 s0 = some r) : WB p l e rL_isLongestSo s m args below meth c 9 G (pA G s.heap.size) (qI below G (r, x) args s 0 0) 0 0 43 [(0, .ref (G.2.2 i0)), (1, .int v1), (2, .int v2), (3, .int v3)] [.int s0] x := by
  unfold fL_isLongestSo_b43 at hf
  refine b_istore (lv' := [(4, .int s0), (0, .ref (G.2.2 i0)), (1, .int v1), (2, .int v2), (3, .int v3)]) C dL_isLongestSo_43 (by decide) rfl ?_
  refine b_iconst (v := 0) C dL_isLongestSo_45 (by decide) ?_
  refine b_istore (lv' := [(5, .int 0), (4, .int s0), (0, .ref (G.2.2 i0)), (1, .int v1), (2, .int v2), (3, .int v3)]) C dL_isLongestSo_46 (by decide) rfl ?_
  refine b_pm [2, 3, 4, 5, 1, 0] (lv' := [(0, .ref (G.2.2 i0)), (1, .int v1), (2, .int v2), (3, .int v3), (4, .int s0), (5, .int 0)]) rfl ?_
  exact wL_isLongestSo_b48 C  hk0 FU _ _ _ hf
set_option maxHeartbeats 4000000 in
set_option maxRecDepth 100000 in
theorem wL_isLongestSo_b42 (C : CT p s m args meth c cL_isLongestSo 9 RL (some (.boolean)) G (pA G s.heap.size)) {i0 : Nat} {v1 : Int32} {v2 : Int32} {x : xS} {v3 : Int32} {r : Int32} (hk0 : KD G i0 6) (hf : fL_isLongestSo_b42 i0 v1 v2 x v3 = some r) : WB p l e rL_isLongestSo s m args below meth c 9 G (pA G s.heap.size) (qI below G (r, x) args s 0 0) 0 0 42 [(0, .ref (G.2.2 i0)), (1, .int v1), (2, .int v2), (3, .int v3)] [] x := by
  unfold fL_isLongestSo_b42 at hf
  refine b_iconst (v := 0) C dL_isLongestSo_42 (by decide) ?_
  exact wL_isLongestSo_b43 C  hk0 hf
set_option maxHeartbeats 4000000 in
set_option maxRecDepth 100000 in
theorem wL_isLongestSo_b38 (C : CT p s m args meth c cL_isLongestSo 9 RL (some (.boolean)) G (pA G s.heap.size)) {i0 : Nat} {v1 : Int32} {v2 : Int32} {x : xS} {v3 : Int32} {r : Int32} (hk0 : KD G i0 6) (hf : fL_isLongestSo_b38 i0 v1 v2 x v3 = some r) : WB p l e rL_isLongestSo s m args below meth c 9 G (pA G s.heap.size) (qI below G (r, x) args s 0 0) 0 0 38 [(0, .ref (G.2.2 i0)), (1, .int v1), (2, .int v2), (3, .int v3)] [] x := by
  unfold fL_isLongestSo_b38 at hf
  refine b_iconst (v := 1) C dL_isLongestSo_38 (by decide) ?_
  refine b_goto (tgt := 43) C dL_isLongestSo_39 (by decide) ?_
  exact wL_isLongestSo_b43 C  hk0 hf
set_option maxHeartbeats 4000000 in
set_option maxRecDepth 100000 in
theorem wL_isLongestSo_b0 (C : CT p s m args meth c cL_isLongestSo 9 RL (some (.boolean)) G (pA G s.heap.size)) {i0 : Nat} {v1 : Int32} {v2 : Int32} {x : xS}  {r : Int32} (hk0 : KD G i0 6) (hf : fL_isLongestSo_b0 i0 v1 v2 x  = some r) : WB p l e rL_isLongestSo s m args below meth c 9 G (pA G s.heap.size) (qI below G (r, x) args s 0 0) 0 0 0 [(0, .ref (G.2.2 i0)), (1, .int v1), (2, .int v2)] [] x := by
  unfold fL_isLongestSo_b0 at hf
  refine b_aload_n C dL_isLongestSo_0 rfl 0 rfl ?_
  refine b_iload_n C dL_isLongestSo_1 rfl 1 rfl ?_
  refine b_iload_n C dL_isLongestSo_2 rfl 2 rfl ?_
  obtain ⟨r3, c3, hf⟩ := oB hf
  refine b_callVi (K := 6) (As := [.int v1, .int v2]) (res := (r3, x)) C (metpX6_longest l G _ _ _ _ _ hk0 c3) hk0 (by decide) rfl gkL_90 ekL_90 rfl ⟨rfl, rfl⟩ ⟨Nat.le_of_ble_eq_true rfl, Nat.le_of_ble_eq_true rfl⟩ (by simp [Value.category]) ⟨Nat.zero_le _, Nat.zero_le _⟩ rfl dL_isLongestSo_3 ?_
  refine b_istore_n (lv' := [(3, .int r3), (0, .ref (G.2.2 i0)), (1, .int v1), (2, .int v2)]) C dL_isLongestSo_6 rfl (by decide) rfl ?_
  refine b_iload_n C dL_isLongestSo_7 rfl 0 rfl ?_
  refine b_if_lt (tgt := 42) C dL_isLongestSo_8 (by decide) (fun c8 => ?_) (fun c8 => ?_)
  · have hf := iT c8 hf
    refine b_pm [1, 2, 3, 0] (lv' := [(0, .ref (G.2.2 i0)), (1, .int v1), (2, .int v2), (3, .int r3)]) rfl ?_
    exact wL_isLongestSo_b42 C  hk0 hf
  · have hf := iF c8 hf
    refine b_iload_n C dL_isLongestSo_11 rfl 0 rfl ?_
    refine b_bipush (v := 9) C dL_isLongestSo_12 (by decide) ?_
    refine b_icmp_gt (tgt := 42) C dL_isLongestSo_14 (by decide) (fun c14 => ?_) (fun c14 => ?_)
    · have hf := iT c14 hf
      refine b_pm [1, 2, 3, 0] (lv' := [(0, .ref (G.2.2 i0)), (1, .int v1), (2, .int v2), (3, .int r3)]) rfl ?_
      exact wL_isLongestSo_b42 C  hk0 hf
    · have hf := iF c14 hf
      refine b_iload_n C dL_isLongestSo_17 rfl 3 rfl ?_
      refine b_iload_n C dL_isLongestSo_18 rfl 0 rfl ?_
      refine b_iadd C dL_isLongestSo_19 ?_
      refine b_bipush (v := 12) C dL_isLongestSo_20 (by decide) ?_
      refine b_icmp_gt (tgt := 42) C dL_isLongestSo_22 (by decide) (fun c22 => ?_) (fun c22 => ?_)
      · have hf := iT c22 hf
        refine b_pm [1, 2, 3, 0] (lv' := [(0, .ref (G.2.2 i0)), (1, .int v1), (2, .int v2), (3, .int r3)]) rfl ?_
        exact wL_isLongestSo_b42 C  hk0 hf
      · have hf := iF c22 hf
        refine b_iload_n C dL_isLongestSo_25 rfl 0 rfl ?_
        refine b_if_eq (tgt := 38) C dL_isLongestSo_26 (by decide) (fun c26 => ?_) (fun c26 => ?_)
        · have hf := iT c26 hf
          refine b_pm [1, 2, 3, 0] (lv' := [(0, .ref (G.2.2 i0)), (1, .int v1), (2, .int v2), (3, .int r3)]) rfl ?_
          exact wL_isLongestSo_b38 C  hk0 hf
        · have hf := iF c26 hf
          refine b_iload_n C dL_isLongestSo_29 rfl 3 rfl ?_
          refine b_aload_n C dL_isLongestSo_30 rfl 1 rfl ?_
          refine b_iconst (v := 0) C dL_isLongestSo_31 (by decide) ?_
          obtain ⟨r32, c32, hf⟩ := oB hf
          refine b_callVi (K := 6) (As := [.int 0]) (res := (r32, x)) C (metpX6_count l G _ _ _ _ hk0 c32) hk0 (by decide) rfl gkL_53 ekL_53 rfl ⟨rfl, rfl⟩ ⟨Nat.le_of_ble_eq_true rfl, Nat.le_of_ble_eq_true rfl⟩ (by simp [Value.category]) ⟨Nat.zero_le _, Nat.zero_le _⟩ rfl dL_isLongestSo_32 ?_
          refine b_icmp_lt (tgt := 42) C dL_isLongestSo_35 (by decide) (fun c35 => ?_) (fun c35 => ?_)
          · have hf := iT c35 hf
            refine b_pm [1, 2, 3, 0] (lv' := [(0, .ref (G.2.2 i0)), (1, .int v1), (2, .int v2), (3, .int r3)]) rfl ?_
            exact wL_isLongestSo_b42 C  hk0 hf
          · have hf := iF c35 hf
            refine b_pm [1, 2, 3, 0] (lv' := [(0, .ref (G.2.2 i0)), (1, .int v1), (2, .int v2), (3, .int r3)]) rfl ?_
            exact wL_isLongestSo_b38 C  hk0 hf
end
theorem metL_isLongestSo (l : Launch) (G : gT) (i0 : Nat) (v1 : Int32) (v2 : Int32) (x : xS) (r : Int32) (hk0 : KD G i0 6) (hf : fL_isLongestSo i0 v1 v2 x = some r) : cI l yL_isLongestSo cL_isLongestSo 9 (.boolean) rL_isLongestSo [.ref (G.2.2 i0), .int v1, .int v2] G x (r, x) :=
  b_body (by decide) (Nat.le_of_ble_eq_true rfl) rfl (fun p e s m args below meth c C => wL_isLongestSo_b0 C hk0 hf)
-- PX6_refused
abbrev rpX6_refused : Room := { frames := 2, cells := 0, slots := 0, locals := 43 }
def fpX6_refused_b0 (i0 : Nat) (v1 : Int32) (x : xS)  : Option Int32 :=
  Option.bind (fpX6_checkRange v1 1 4 x) (fun r3 =>
  Option.bind (fX3_refusedFor (i0 + 1) v1 x) (fun r11 =>
  some r11))
def fpX6_refused (i0 : Nat) (v1 : Int32) (x : xS) : Option Int32 := fpX6_refused_b0 i0 v1 x
section
variable {p : Program} {l : Launch} {e : Env} {R : Room} {s : State} {m : MethodId} {args : Array Value} {below : List Frame} {meth : Method} {c : Code} {G : gT}
set_option maxHeartbeats 4000000 in
set_option maxRecDepth 100000 in
theorem wpX6_refused_b0 (C : CT p s m args meth c cX6_refused 2 RX6 (some (.int)) G (pA G s.heap.size)) {i0 : Nat} {v1 : Int32} {x : xS}  {r : Int32} (hk0 : KD G i0 6) (hf : fpX6_refused_b0 i0 v1 x  = some r) : WB p l e rpX6_refused s m args below meth c 2 G (pA G s.heap.size) (qI below G (r, x) args s 0 0) 0 0 0 [(0, .ref (G.2.2 i0)), (1, .int v1)] [] x := by
  unfold fpX6_refused_b0 at hf
  refine b_iload_n C dX6_refused_0 rfl 1 rfl ?_
  refine b_iconst (v := 1) C dX6_refused_1 (by decide) ?_
  refine b_iconst (v := 4) C dX6_refused_2 (by decide) ?_
  obtain ⟨r3, c3, hf⟩ := oB hf
  refine b_callSv (As := [.int v1, .int 1, .int 4]) (res := x) C (metpX6_checkRange l G _ _ _ _ _ c3) gkX6_160 ekX6_160 rfl ⟨rfl, rfl⟩ ⟨Nat.le_of_ble_eq_true rfl, Nat.le_of_ble_eq_true rfl⟩ (by simp [Value.category]) ⟨Nat.zero_le _, Nat.zero_le _⟩ rfl dX6_refused_3 ?_
  refine b_aload_n C dX6_refused_6 rfl 0 rfl ?_
  refine gfX6_10 C hk0 dX6_refused_7 ?_
  refine b_iload_n C dX6_refused_10 rfl 1 rfl ?_
  obtain ⟨r11, c11, hf⟩ := oB hf
  refine b_callVi (K := 3) (As := [.int v1]) (res := (r11, x)) C (metX3_refusedFor l G _ _ _ _ ((kd6 C.cl hk0).1) c11) ((kd6 C.cl hk0).1) (by decide) rfl gkX6_169 ekX6_169 rfl ⟨rfl, rfl⟩ ⟨Nat.le_of_ble_eq_true rfl, Nat.le_of_ble_eq_true rfl⟩ (by simp [Value.category]) ⟨Nat.zero_le _, Nat.zero_le _⟩ rfl dX6_refused_11 ?_
  exact b_ireti C dX6_refused_14 (congrArg (Option.map (fun q => (q, x))) hf)
end
theorem metpX6_refused (l : Launch) (G : gT) (i0 : Nat) (v1 : Int32) (x : xS) (r : Int32) (hk0 : KD G i0 6) (hf : fpX6_refused i0 v1 x = some r) : cI l yX6_refused cX6_refused 2 (.int) rpX6_refused [.ref (G.2.2 i0), .int v1] G x (r, x) :=
  b_body (by decide) (Nat.le_of_ble_eq_true rfl) rfl (fun p e s m args below meth c C => wpX6_refused_b0 C hk0 hf)
-- PX6_lodgerOf
abbrev rpX6_lodgerOf : Room := { frames := 4, cells := 0, slots := 0, locals := 92 }
def fpX6_lodgerOf_b0 (i0 : Nat) (v1 : Int32) (v2 : Int32) (x : xS)  : Option Int32 :=
  Option.bind (fpX6_checkLodger v1 x) (fun r1 =>
  Option.bind (fpX6_checkRange v2 0 6 x) (fun r8 =>
  Option.bind (fX3_lodgerNumber (i0 + 1) v1 v2 x) (fun r17 =>
  some r17)))
def fpX6_lodgerOf (i0 : Nat) (v1 : Int32) (v2 : Int32) (x : xS) : Option Int32 := fpX6_lodgerOf_b0 i0 v1 v2 x
section
variable {p : Program} {l : Launch} {e : Env} {R : Room} {s : State} {m : MethodId} {args : Array Value} {below : List Frame} {meth : Method} {c : Code} {G : gT}
set_option maxHeartbeats 4000000 in
set_option maxRecDepth 100000 in
theorem wpX6_lodgerOf_b0 (C : CT p s m args meth c cX6_lodgerOf 3 RX6 (some (.int)) G (pA G s.heap.size)) {i0 : Nat} {v1 : Int32} {v2 : Int32} {x : xS}  {r : Int32} (hk0 : KD G i0 6) (hf : fpX6_lodgerOf_b0 i0 v1 v2 x  = some r) : WB p l e rpX6_lodgerOf s m args below meth c 3 G (pA G s.heap.size) (qI below G (r, x) args s 0 0) 0 0 0 [(0, .ref (G.2.2 i0)), (1, .int v1), (2, .int v2)] [] x := by
  unfold fpX6_lodgerOf_b0 at hf
  refine b_iload_n C dX6_lodgerOf_0 rfl 1 rfl ?_
  obtain ⟨r1, c1, hf⟩ := oB hf
  refine b_callSv (As := [.int v1]) (res := x) C (metpX6_checkLodger l G _ _ _ c1) gkX6_53 ekX6_53 rfl ⟨rfl, rfl⟩ ⟨Nat.le_of_ble_eq_true rfl, Nat.le_of_ble_eq_true rfl⟩ (by simp [Value.category]) ⟨Nat.zero_le _, Nat.zero_le _⟩ rfl dX6_lodgerOf_1 ?_
  refine b_iload_n C dX6_lodgerOf_4 rfl 2 rfl ?_
  refine b_iconst (v := 0) C dX6_lodgerOf_5 (by decide) ?_
  refine b_bipush (v := 6) C dX6_lodgerOf_6 (by decide) ?_
  obtain ⟨r8, c8, hf⟩ := oB hf
  refine b_callSv (As := [.int v2, .int 0, .int 6]) (res := x) C (metpX6_checkRange l G _ _ _ _ _ c8) gkX6_160 ekX6_160 rfl ⟨rfl, rfl⟩ ⟨Nat.le_of_ble_eq_true rfl, Nat.le_of_ble_eq_true rfl⟩ (by simp [Value.category]) ⟨Nat.zero_le _, Nat.zero_le _⟩ rfl dX6_lodgerOf_8 ?_
  refine b_aload_n C dX6_lodgerOf_11 rfl 0 rfl ?_
  refine gfX6_10 C hk0 dX6_lodgerOf_12 ?_
  refine b_iload_n C dX6_lodgerOf_15 rfl 1 rfl ?_
  refine b_iload_n C dX6_lodgerOf_16 rfl 2 rfl ?_
  obtain ⟨r17, c17, hf⟩ := oB hf
  refine b_callVi (K := 3) (As := [.int v1, .int v2]) (res := (r17, x)) C (metX3_lodgerNumber l G _ _ _ _ _ ((kd6 C.cl hk0).1) c17) ((kd6 C.cl hk0).1) (by decide) rfl gkX6_163 ekX6_163 rfl ⟨rfl, rfl⟩ ⟨Nat.le_of_ble_eq_true rfl, Nat.le_of_ble_eq_true rfl⟩ (by simp [Value.category]) ⟨Nat.zero_le _, Nat.zero_le _⟩ rfl dX6_lodgerOf_17 ?_
  exact b_ireti C dX6_lodgerOf_20 (congrArg (Option.map (fun q => (q, x))) hf)
end
theorem metpX6_lodgerOf (l : Launch) (G : gT) (i0 : Nat) (v1 : Int32) (v2 : Int32) (x : xS) (r : Int32) (hk0 : KD G i0 6) (hf : fpX6_lodgerOf i0 v1 v2 x = some r) : cI l yX6_lodgerOf cX6_lodgerOf 3 (.int) rpX6_lodgerOf [.ref (G.2.2 i0), .int v1, .int v2] G x (r, x) :=
  b_body (by decide) (Nat.le_of_ble_eq_true rfl) rfl (fun p e s m args below meth c C => wpX6_lodgerOf_b0 C hk0 hf)
-- L_areAlike
abbrev rL_areAlike : Room := { frames := 6, cells := 0, slots := 0, locals := 130 }
def fL_areAlike_b170 (k107 : Int32 → Int32 → Option Int32) (i0 : Nat) (x : xS) (v3 : Int32) (s0 : Int32) : Option Int32 :=
  k107 s0 (v3 + 1)
def fL_areAlike_b169 (k107 : Int32 → Int32 → Option Int32) (i0 : Nat) (x : xS) (v3 : Int32) : Option Int32 :=
  fL_areAlike_b170 k107 i0 x v3 0
def fL_areAlike_b107 (i0 : Nat) (x : xS) : Nat → Int32 → Int32 → Option Int32
  | 0, _, _ => none
  | n + 1, v2, v3 => (if (48 : Int32) ≤ v3 then
  (if v2 &&& 1 = v2 then some v2 else none)
  else
  (if v2 = 0 then
  fL_areAlike_b169 (fL_areAlike_b107 i0 x n) i0 x v3
  else
  Option.bind (fpX6_at i0 (v3 / (12 : Int32)) (v3 - v3 / (12 : Int32) * (12 : Int32)) x) (fun r126 =>
  Option.bind (fpX6_at 0 (v3 / (12 : Int32)) (v3 - v3 / (12 : Int32) * (12 : Int32)) (sw x)) (fun r138 =>
  (if r126 = r138 then
  Option.bind (fpX6_refused i0 (1 + (v3 - v3 / (4 : Int32) * (4 : Int32))) x) (fun r150 =>
  Option.bind (fpX6_refused 0 (1 + (v3 - v3 / (4 : Int32) * (4 : Int32))) (sw x)) (fun r159 =>
  (if r150 = r159 then
  fL_areAlike_b170 (fL_areAlike_b107 i0 x n) i0 x v3 1
  else
  fL_areAlike_b169 (fL_areAlike_b107 i0 x n) i0 x v3)))
  else
  fL_areAlike_b169 (fL_areAlike_b107 i0 x n) i0 x v3)))))
def fL_areAlike_b98 (k56 : Int32 → Int32 → Option Int32) (i0 : Nat) (x : xS) (v3 : Int32) (s0 : Int32) : Option Int32 :=
  k56 s0 (v3 + 1)
def fL_areAlike_b97 (k56 : Int32 → Int32 → Option Int32) (i0 : Nat) (x : xS) (v3 : Int32) : Option Int32 :=
  fL_areAlike_b98 k56 i0 x v3 0
def fL_areAlike_b56 (i0 : Nat) (x : xS) : Nat → Int32 → Int32 → Option Int32
  | 0, _, _ => none
  | n + 1, v2, v3 => (if (70 : Int32) ≤ v3 then
  fL_areAlike_b107 i0 x FU v2 0
  else
  (if v2 = 0 then
  fL_areAlike_b97 (fL_areAlike_b56 i0 x n) i0 x v3
  else
  Option.bind (fpX6_lodgerOf i0 (v3 / (7 : Int32)) (v3 - v3 / (7 : Int32) * (7 : Int32)) x) (fun r75 =>
  Option.bind (fpX6_lodgerOf 0 (v3 / (7 : Int32)) (v3 - v3 / (7 : Int32) * (7 : Int32)) (sw x)) (fun r87 =>
  (if r75 = r87 then
  fL_areAlike_b98 (fL_areAlike_b56 i0 x n) i0 x v3 1
  else
  fL_areAlike_b97 (fL_areAlike_b56 i0 x n) i0 x v3)))))
def fL_areAlike_b47 (k19 : Int32 → Int32 → Option Int32) (i0 : Nat) (x : xS) (v3 : Int32) (s0 : Int32) : Option Int32 :=
  k19 s0 (v3 + 1)
def fL_areAlike_b46 (k19 : Int32 → Int32 → Option Int32) (i0 : Nat) (x : xS) (v3 : Int32) : Option Int32 :=
  fL_areAlike_b47 k19 i0 x v3 0
def fL_areAlike_b19 (i0 : Nat) (x : xS) : Nat → Int32 → Int32 → Option Int32
  | 0, _, _ => none
  | n + 1, v2, v3 => (if (11 : Int32) ≤ v3 then
  fL_areAlike_b56 i0 x FU v2 0
  else
  (if v2 = 0 then
  fL_areAlike_b46 (fL_areAlike_b19 i0 x n) i0 x v3
  else
  Option.bind (fpX6_count i0 v3 x) (fun r31 =>
  Option.bind (fpX6_count 0 v3 (sw x)) (fun r36 =>
  (if r31 = r36 then
  fL_areAlike_b47 (fL_areAlike_b19 i0 x n) i0 x v3 1
  else
  fL_areAlike_b46 (fL_areAlike_b19 i0 x n) i0 x v3)))))
def fL_areAlike_b16 (i0 : Nat) (x : xS) (s0 : Int32) : Option Int32 :=
  fL_areAlike_b19 i0 x FU s0 0
def fL_areAlike_b0 (i0 : Nat) (x : xS)  : Option Int32 :=
  Option.bind (fX6_poorest i0 x) (fun r1 =>
  Option.bind (fX6_poorest 0 (sw x)) (fun r5 =>
  (if r1 = r5 then
  fL_areAlike_b16 i0 x 1
  else
  fL_areAlike_b16 i0 x 0)))
def fL_areAlike (i0 : Nat) (x : xS) : Option Int32 := fL_areAlike_b0 i0 x
section
variable {p : Program} {l : Launch} {e : Env} {R : Room} {s : State} {m : MethodId} {args : Array Value} {below : List Frame} {meth : Method} {c : Code} {G : gT}
set_option maxHeartbeats 4000000 in
set_option maxRecDepth 100000 in
theorem wL_areAlike_b170 (C : CT p s m args meth c cL_areAlike 4 RL (some (.boolean)) G (pA G s.heap.size)) (hsw : SW G) {k107 : Int32 → Int32 → Option Int32} {i0 : Nat} {x : xS} {v3 : Int32} {s0 : Int32} {r : Int32} (h107 : ∀ (v2 : Int32) (v3 : Int32), k107 v2 v3 = some r → WB p l e rL_areAlike s m args below meth c 4 G (pA G s.heap.size) (qI below G (r, x) args s 0 0) 0 0 107 [(0, .ref (G.2.2 i0)), (1, .ref (G.2.2 101)), (2, .int v2), (3, .int v3)] [] x) (hk0 : KD G i0 6) (hf : fL_areAlike_b170 k107 i0 x v3 s0 = some r) : WB p l e rL_areAlike s m args below meth c 4 G (pA G s.heap.size) (qI below G (r, x) args s 0 0) 0 0 170 [(0, .ref (G.2.2 i0)), (1, .ref (G.2.2 101)), (3, .int v3)] [.int s0] x := by
  unfold fL_areAlike_b170 at hf
  refine b_istore_n (lv' := [(2, .int s0), (0, .ref (G.2.2 i0)), (1, .ref (G.2.2 101)), (3, .int v3)]) C dL_areAlike_170 rfl (by decide) rfl ?_
  refine b_iinc (q := 3) (v' := (v3 + 1)) (lv' := [(3, .int (v3 + 1)), (2, .int s0), (0, .ref (G.2.2 i0)), (1, .ref (G.2.2 101))]) C dL_areAlike_171 rfl rfl (by decide) rfl ?_
  refine b_goto (tgt := 107) C dL_areAlike_174 (by decide) ?_
  refine b_pm [2, 3, 1, 0] (lv' := [(0, .ref (G.2.2 i0)), (1, .ref (G.2.2 101)), (2, .int s0), (3, .int (v3 + 1))]) rfl ?_
  exact h107 _ _ hf
set_option maxHeartbeats 4000000 in
set_option maxRecDepth 100000 in
theorem wL_areAlike_b169 (C : CT p s m args meth c cL_areAlike 4 RL (some (.boolean)) G (pA G s.heap.size)) (hsw : SW G) {k107 : Int32 → Int32 → Option Int32} {i0 : Nat} {x : xS} {v3 : Int32} {r : Int32} (h107 : ∀ (v2 : Int32) (v3 : Int32), k107 v2 v3 = some r → WB p l e rL_areAlike s m args below meth c 4 G (pA G s.heap.size) (qI below G (r, x) args s 0 0) 0 0 107 [(0, .ref (G.2.2 i0)), (1, .ref (G.2.2 101)), (2, .int v2), (3, .int v3)] [] x) (hk0 : KD G i0 6) (hf : fL_areAlike_b169 k107 i0 x v3 = some r) : WB p l e rL_areAlike s m args below meth c 4 G (pA G s.heap.size) (qI below G (r, x) args s 0 0) 0 0 169 [(0, .ref (G.2.2 i0)), (1, .ref (G.2.2 101)), (3, .int v3)] [] x := by
  unfold fL_areAlike_b169 at hf
  refine b_iconst (v := 0) C dL_areAlike_169 (by decide) ?_
  exact wL_areAlike_b170 C hsw h107 hk0 hf
set_option maxHeartbeats 4000000 in
set_option maxRecDepth 100000 in
theorem wL_areAlike_b107 (C : CT p s m args meth c cL_areAlike 4 RL (some (.boolean)) G (pA G s.heap.size)) (hsw : SW G) {i0 : Nat} {x : xS} {r : Int32} (hk0 : KD G i0 6) : ∀ (n : Nat) (v2 : Int32) (v3 : Int32), fL_areAlike_b107 i0 x n v2 v3 = some r → WB p l e rL_areAlike s m args below meth c 4 G (pA G s.heap.size) (qI below G (r, x) args s 0 0) 0 0 107 [(0, .ref (G.2.2 i0)), (1, .ref (G.2.2 101)), (2, .int v2), (3, .int v3)] [] x := by
  intro n
  induction n with
  | zero =>
    intro v2 v3 hf
    cases hf
  | succ n ih =>
    intro v2 v3 hf
    rw [fL_areAlike_b107] at hf
    refine b_iload_n C dL_areAlike_107 rfl 3 rfl ?_
    refine b_bipush (v := 48) C dL_areAlike_108 (by decide) ?_
    refine b_icmp_ge (tgt := 177) C dL_areAlike_110 (by decide) (fun c110 => ?_) (fun c110 => ?_)
    · have hf := iT c110 hf
      refine b_iload_n C dL_areAlike_177 rfl 2 rfl ?_
      obtain ⟨g178, hf⟩ := iP hf
      exact b_iretz C g178 dL_areAlike_178 (congrArg (Option.map (fun q => (q, x))) hf)
    · have hf := iF c110 hf
      refine b_iload_n C dL_areAlike_113 rfl 2 rfl ?_
      refine b_if_eq (tgt := 169) C dL_areAlike_114 (by decide) (fun c114 => ?_) (fun c114 => ?_)
      · have hf := iT c114 hf
        refine b_pm [0, 1, 3] (lv' := [(0, .ref (G.2.2 i0)), (1, .ref (G.2.2 101)), (3, .int v3)]) rfl ?_
        exact wL_areAlike_b169 C hsw ih hk0 hf
      · have hf := iF c114 hf
        refine b_aload_n C dL_areAlike_117 rfl 0 rfl ?_
        refine b_iload_n C dL_areAlike_118 rfl 3 rfl ?_
        refine b_bipush (v := 12) C dL_areAlike_119 (by decide) ?_
        refine b_idiv C dL_areAlike_121 (by decide) ?_
        refine b_iload_n C dL_areAlike_122 rfl 3 rfl ?_
        refine b_bipush (v := 12) C dL_areAlike_123 (by decide) ?_
        refine b_irem C dL_areAlike_125 (by decide) ?_
        obtain ⟨r126, c126, hf⟩ := oB hf
        refine b_callVi (K := 6) (As := [.int (v3 / (12 : Int32)), .int (v3 - v3 / (12 : Int32) * (12 : Int32))]) (res := (r126, x)) C (metpX6_at l G _ _ _ _ _ hk0 c126) hk0 (by decide) rfl gkL_59 ekL_59 rfl ⟨rfl, rfl⟩ ⟨Nat.le_of_ble_eq_true rfl, Nat.le_of_ble_eq_true rfl⟩ (by simp [Value.category]) ⟨Nat.zero_le _, Nat.zero_le _⟩ rfl dL_areAlike_126 ?_
        refine b_aload_n C dL_areAlike_129 rfl 1 rfl ?_
        refine b_iload_n C dL_areAlike_130 rfl 3 rfl ?_
        refine b_bipush (v := 12) C dL_areAlike_131 (by decide) ?_
        refine b_idiv C dL_areAlike_133 (by decide) ?_
        refine b_iload_n C dL_areAlike_134 rfl 3 rfl ?_
        refine b_bipush (v := 12) C dL_areAlike_135 (by decide) ?_
        refine b_irem C dL_areAlike_137 (by decide) ?_
        obtain ⟨r138, c138, hf⟩ := oB hf
        refine b_callVi_sw (As := [.int (v3 / (12 : Int32)), .int (v3 - v3 / (12 : Int32) * (12 : Int32))]) (v := r138) C hsw (metpX6_at l (swG G) _ _ _ _ _ (sw_k0 hsw) c138) gkL_59 ekL_59 rfl ⟨rfl, rfl⟩ ⟨Nat.le_of_ble_eq_true rfl, Nat.le_of_ble_eq_true rfl⟩ (by simp [Value.category]) ⟨Nat.zero_le _, Nat.zero_le _⟩ rfl dL_areAlike_138 ?_
        refine b_icmp_ne (tgt := 169) C dL_areAlike_141 (by decide) (fun c141 => ?_) (fun c141 => ?_)
        · have hf := iF c141 hf
          refine b_pm [0, 1, 3] (lv' := [(0, .ref (G.2.2 i0)), (1, .ref (G.2.2 101)), (3, .int v3)]) rfl ?_
          exact wL_areAlike_b169 C hsw ih hk0 hf
        · have hf := iT c141 hf
          refine b_aload_n C dL_areAlike_144 rfl 0 rfl ?_
          refine b_iconst (v := 1) C dL_areAlike_145 (by decide) ?_
          refine b_iload_n C dL_areAlike_146 rfl 3 rfl ?_
          refine b_iconst (v := 4) C dL_areAlike_147 (by decide) ?_
          refine b_irem C dL_areAlike_148 (by decide) ?_
          refine b_iadd C dL_areAlike_149 ?_
          obtain ⟨r150, c150, hf⟩ := oB hf
          refine b_callVi (K := 6) (As := [.int (1 + (v3 - v3 / (4 : Int32) * (4 : Int32)))]) (res := (r150, x)) C (metpX6_refused l G _ _ _ _ hk0 c150) hk0 (by decide) rfl gkL_62 ekL_62 rfl ⟨rfl, rfl⟩ ⟨Nat.le_of_ble_eq_true rfl, Nat.le_of_ble_eq_true rfl⟩ (by simp [Value.category]) ⟨Nat.zero_le _, Nat.zero_le _⟩ rfl dL_areAlike_150 ?_
          refine b_aload_n C dL_areAlike_153 rfl 1 rfl ?_
          refine b_iconst (v := 1) C dL_areAlike_154 (by decide) ?_
          refine b_iload_n C dL_areAlike_155 rfl 3 rfl ?_
          refine b_iconst (v := 4) C dL_areAlike_156 (by decide) ?_
          refine b_irem C dL_areAlike_157 (by decide) ?_
          refine b_iadd C dL_areAlike_158 ?_
          obtain ⟨r159, c159, hf⟩ := oB hf
          refine b_callVi_sw (As := [.int (1 + (v3 - v3 / (4 : Int32) * (4 : Int32)))]) (v := r159) C hsw (metpX6_refused l (swG G) _ _ _ _ (sw_k0 hsw) c159) gkL_62 ekL_62 rfl ⟨rfl, rfl⟩ ⟨Nat.le_of_ble_eq_true rfl, Nat.le_of_ble_eq_true rfl⟩ (by simp [Value.category]) ⟨Nat.zero_le _, Nat.zero_le _⟩ rfl dL_areAlike_159 ?_
          refine b_icmp_ne (tgt := 169) C dL_areAlike_162 (by decide) (fun c162 => ?_) (fun c162 => ?_)
          · have hf := iF c162 hf
            refine b_pm [0, 1, 3] (lv' := [(0, .ref (G.2.2 i0)), (1, .ref (G.2.2 101)), (3, .int v3)]) rfl ?_
            exact wL_areAlike_b169 C hsw ih hk0 hf
          · have hf := iT c162 hf
            refine b_iconst (v := 1) C dL_areAlike_165 (by decide) ?_
            refine b_goto (tgt := 170) C dL_areAlike_166 (by decide) ?_
            refine b_pm [0, 1, 3] (lv' := [(0, .ref (G.2.2 i0)), (1, .ref (G.2.2 101)), (3, .int v3)]) rfl ?_
            exact wL_areAlike_b170 C hsw ih hk0 hf
set_option maxHeartbeats 4000000 in
set_option maxRecDepth 100000 in
theorem wL_areAlike_b98 (C : CT p s m args meth c cL_areAlike 4 RL (some (.boolean)) G (pA G s.heap.size)) (hsw : SW G) {k56 : Int32 → Int32 → Option Int32} {i0 : Nat} {x : xS} {v3 : Int32} {s0 : Int32} {r : Int32} (h56 : ∀ (v2 : Int32) (v3 : Int32), k56 v2 v3 = some r → WB p l e rL_areAlike s m args below meth c 4 G (pA G s.heap.size) (qI below G (r, x) args s 0 0) 0 0 56 [(0, .ref (G.2.2 i0)), (1, .ref (G.2.2 101)), (2, .int v2), (3, .int v3)] [] x) (hk0 : KD G i0 6) (hf : fL_areAlike_b98 k56 i0 x v3 s0 = some r) : WB p l e rL_areAlike s m args below meth c 4 G (pA G s.heap.size) (qI below G (r, x) args s 0 0) 0 0 98 [(0, .ref (G.2.2 i0)), (1, .ref (G.2.2 101)), (3, .int v3)] [.int s0] x := by
  unfold fL_areAlike_b98 at hf
  refine b_istore_n (lv' := [(2, .int s0), (0, .ref (G.2.2 i0)), (1, .ref (G.2.2 101)), (3, .int v3)]) C dL_areAlike_98 rfl (by decide) rfl ?_
  refine b_iinc (q := 3) (v' := (v3 + 1)) (lv' := [(3, .int (v3 + 1)), (2, .int s0), (0, .ref (G.2.2 i0)), (1, .ref (G.2.2 101))]) C dL_areAlike_99 rfl rfl (by decide) rfl ?_
  refine b_goto (tgt := 56) C dL_areAlike_102 (by decide) ?_
  refine b_pm [2, 3, 1, 0] (lv' := [(0, .ref (G.2.2 i0)), (1, .ref (G.2.2 101)), (2, .int s0), (3, .int (v3 + 1))]) rfl ?_
  exact h56 _ _ hf
set_option maxHeartbeats 4000000 in
set_option maxRecDepth 100000 in
theorem wL_areAlike_b97 (C : CT p s m args meth c cL_areAlike 4 RL (some (.boolean)) G (pA G s.heap.size)) (hsw : SW G) {k56 : Int32 → Int32 → Option Int32} {i0 : Nat} {x : xS} {v3 : Int32} {r : Int32} (h56 : ∀ (v2 : Int32) (v3 : Int32), k56 v2 v3 = some r → WB p l e rL_areAlike s m args below meth c 4 G (pA G s.heap.size) (qI below G (r, x) args s 0 0) 0 0 56 [(0, .ref (G.2.2 i0)), (1, .ref (G.2.2 101)), (2, .int v2), (3, .int v3)] [] x) (hk0 : KD G i0 6) (hf : fL_areAlike_b97 k56 i0 x v3 = some r) : WB p l e rL_areAlike s m args below meth c 4 G (pA G s.heap.size) (qI below G (r, x) args s 0 0) 0 0 97 [(0, .ref (G.2.2 i0)), (1, .ref (G.2.2 101)), (3, .int v3)] [] x := by
  unfold fL_areAlike_b97 at hf
  refine b_iconst (v := 0) C dL_areAlike_97 (by decide) ?_
  exact wL_areAlike_b98 C hsw h56 hk0 hf
set_option maxHeartbeats 4000000 in
set_option maxRecDepth 100000 in
theorem wL_areAlike_b56 (C : CT p s m args meth c cL_areAlike 4 RL (some (.boolean)) G (pA G s.heap.size)) (hsw : SW G) {i0 : Nat} {x : xS} {r : Int32} (hk0 : KD G i0 6) : ∀ (n : Nat) (v2 : Int32) (v3 : Int32), fL_areAlike_b56 i0 x n v2 v3 = some r → WB p l e rL_areAlike s m args below meth c 4 G (pA G s.heap.size) (qI below G (r, x) args s 0 0) 0 0 56 [(0, .ref (G.2.2 i0)), (1, .ref (G.2.2 101)), (2, .int v2), (3, .int v3)] [] x := by
  intro n
  induction n with
  | zero =>
    intro v2 v3 hf
    cases hf
  | succ n ih =>
    intro v2 v3 hf
    rw [fL_areAlike_b56] at hf
    refine b_iload_n C dL_areAlike_56 rfl 3 rfl ?_
    refine b_bipush (v := 70) C dL_areAlike_57 (by decide) ?_
    refine b_icmp_ge (tgt := 105) C dL_areAlike_59 (by decide) (fun c59 => ?_) (fun c59 => ?_)
    · have hf := iT c59 hf
      refine b_iconst (v := 0) C dL_areAlike_105 (by decide) ?_
      refine b_istore_n (lv' := [(3, .int 0), (0, .ref (G.2.2 i0)), (1, .ref (G.2.2 101)), (2, .int v2)]) C dL_areAlike_106 rfl (by decide) rfl ?_
      refine b_pm [1, 2, 3, 0] (lv' := [(0, .ref (G.2.2 i0)), (1, .ref (G.2.2 101)), (2, .int v2), (3, .int 0)]) rfl ?_
      exact wL_areAlike_b107 C hsw  hk0 FU _ _ hf
    · have hf := iF c59 hf
      refine b_iload_n C dL_areAlike_62 rfl 2 rfl ?_
      refine b_if_eq (tgt := 97) C dL_areAlike_63 (by decide) (fun c63 => ?_) (fun c63 => ?_)
      · have hf := iT c63 hf
        refine b_pm [0, 1, 3] (lv' := [(0, .ref (G.2.2 i0)), (1, .ref (G.2.2 101)), (3, .int v3)]) rfl ?_
        exact wL_areAlike_b97 C hsw ih hk0 hf
      · have hf := iF c63 hf
        refine b_aload_n C dL_areAlike_66 rfl 0 rfl ?_
        refine b_iload_n C dL_areAlike_67 rfl 3 rfl ?_
        refine b_bipush (v := 7) C dL_areAlike_68 (by decide) ?_
        refine b_idiv C dL_areAlike_70 (by decide) ?_
        refine b_iload_n C dL_areAlike_71 rfl 3 rfl ?_
        refine b_bipush (v := 7) C dL_areAlike_72 (by decide) ?_
        refine b_irem C dL_areAlike_74 (by decide) ?_
        obtain ⟨r75, c75, hf⟩ := oB hf
        refine b_callVi (K := 6) (As := [.int (v3 / (7 : Int32)), .int (v3 - v3 / (7 : Int32) * (7 : Int32))]) (res := (r75, x)) C (metpX6_lodgerOf l G _ _ _ _ _ hk0 c75) hk0 (by decide) rfl gkL_56 ekL_56 rfl ⟨rfl, rfl⟩ ⟨Nat.le_of_ble_eq_true rfl, Nat.le_of_ble_eq_true rfl⟩ (by simp [Value.category]) ⟨Nat.zero_le _, Nat.zero_le _⟩ rfl dL_areAlike_75 ?_
        refine b_aload_n C dL_areAlike_78 rfl 1 rfl ?_
        refine b_iload_n C dL_areAlike_79 rfl 3 rfl ?_
        refine b_bipush (v := 7) C dL_areAlike_80 (by decide) ?_
        refine b_idiv C dL_areAlike_82 (by decide) ?_
        refine b_iload_n C dL_areAlike_83 rfl 3 rfl ?_
        refine b_bipush (v := 7) C dL_areAlike_84 (by decide) ?_
        refine b_irem C dL_areAlike_86 (by decide) ?_
        obtain ⟨r87, c87, hf⟩ := oB hf
        refine b_callVi_sw (As := [.int (v3 / (7 : Int32)), .int (v3 - v3 / (7 : Int32) * (7 : Int32))]) (v := r87) C hsw (metpX6_lodgerOf l (swG G) _ _ _ _ _ (sw_k0 hsw) c87) gkL_56 ekL_56 rfl ⟨rfl, rfl⟩ ⟨Nat.le_of_ble_eq_true rfl, Nat.le_of_ble_eq_true rfl⟩ (by simp [Value.category]) ⟨Nat.zero_le _, Nat.zero_le _⟩ rfl dL_areAlike_87 ?_
        refine b_icmp_ne (tgt := 97) C dL_areAlike_90 (by decide) (fun c90 => ?_) (fun c90 => ?_)
        · have hf := iF c90 hf
          refine b_pm [0, 1, 3] (lv' := [(0, .ref (G.2.2 i0)), (1, .ref (G.2.2 101)), (3, .int v3)]) rfl ?_
          exact wL_areAlike_b97 C hsw ih hk0 hf
        · have hf := iT c90 hf
          refine b_iconst (v := 1) C dL_areAlike_93 (by decide) ?_
          refine b_goto (tgt := 98) C dL_areAlike_94 (by decide) ?_
          refine b_pm [0, 1, 3] (lv' := [(0, .ref (G.2.2 i0)), (1, .ref (G.2.2 101)), (3, .int v3)]) rfl ?_
          exact wL_areAlike_b98 C hsw ih hk0 hf
set_option maxHeartbeats 4000000 in
set_option maxRecDepth 100000 in
theorem wL_areAlike_b47 (C : CT p s m args meth c cL_areAlike 4 RL (some (.boolean)) G (pA G s.heap.size)) (hsw : SW G) {k19 : Int32 → Int32 → Option Int32} {i0 : Nat} {x : xS} {v3 : Int32} {s0 : Int32} {r : Int32} (h19 : ∀ (v2 : Int32) (v3 : Int32), k19 v2 v3 = some r → WB p l e rL_areAlike s m args below meth c 4 G (pA G s.heap.size) (qI below G (r, x) args s 0 0) 0 0 19 [(0, .ref (G.2.2 i0)), (1, .ref (G.2.2 101)), (2, .int v2), (3, .int v3)] [] x) (hk0 : KD G i0 6) (hf : fL_areAlike_b47 k19 i0 x v3 s0 = some r) : WB p l e rL_areAlike s m args below meth c 4 G (pA G s.heap.size) (qI below G (r, x) args s 0 0) 0 0 47 [(0, .ref (G.2.2 i0)), (1, .ref (G.2.2 101)), (3, .int v3)] [.int s0] x := by
  unfold fL_areAlike_b47 at hf
  refine b_istore_n (lv' := [(2, .int s0), (0, .ref (G.2.2 i0)), (1, .ref (G.2.2 101)), (3, .int v3)]) C dL_areAlike_47 rfl (by decide) rfl ?_
  refine b_iinc (q := 3) (v' := (v3 + 1)) (lv' := [(3, .int (v3 + 1)), (2, .int s0), (0, .ref (G.2.2 i0)), (1, .ref (G.2.2 101))]) C dL_areAlike_48 rfl rfl (by decide) rfl ?_
  refine b_goto (tgt := 19) C dL_areAlike_51 (by decide) ?_
  refine b_pm [2, 3, 1, 0] (lv' := [(0, .ref (G.2.2 i0)), (1, .ref (G.2.2 101)), (2, .int s0), (3, .int (v3 + 1))]) rfl ?_
  exact h19 _ _ hf
set_option maxHeartbeats 4000000 in
set_option maxRecDepth 100000 in
theorem wL_areAlike_b46 (C : CT p s m args meth c cL_areAlike 4 RL (some (.boolean)) G (pA G s.heap.size)) (hsw : SW G) {k19 : Int32 → Int32 → Option Int32} {i0 : Nat} {x : xS} {v3 : Int32} {r : Int32} (h19 : ∀ (v2 : Int32) (v3 : Int32), k19 v2 v3 = some r → WB p l e rL_areAlike s m args below meth c 4 G (pA G s.heap.size) (qI below G (r, x) args s 0 0) 0 0 19 [(0, .ref (G.2.2 i0)), (1, .ref (G.2.2 101)), (2, .int v2), (3, .int v3)] [] x) (hk0 : KD G i0 6) (hf : fL_areAlike_b46 k19 i0 x v3 = some r) : WB p l e rL_areAlike s m args below meth c 4 G (pA G s.heap.size) (qI below G (r, x) args s 0 0) 0 0 46 [(0, .ref (G.2.2 i0)), (1, .ref (G.2.2 101)), (3, .int v3)] [] x := by
  unfold fL_areAlike_b46 at hf
  refine b_iconst (v := 0) C dL_areAlike_46 (by decide) ?_
  exact wL_areAlike_b47 C hsw h19 hk0 hf
set_option maxHeartbeats 4000000 in
set_option maxRecDepth 100000 in
theorem wL_areAlike_b19 (C : CT p s m args meth c cL_areAlike 4 RL (some (.boolean)) G (pA G s.heap.size)) (hsw : SW G) {i0 : Nat} {x : xS} {r : Int32} (hk0 : KD G i0 6) : ∀ (n : Nat) (v2 : Int32) (v3 : Int32), fL_areAlike_b19 i0 x n v2 v3 = some r → WB p l e rL_areAlike s m args below meth c 4 G (pA G s.heap.size) (qI below G (r, x) args s 0 0) 0 0 19 [(0, .ref (G.2.2 i0)), (1, .ref (G.2.2 101)), (2, .int v2), (3, .int v3)] [] x := by
  intro n
  induction n with
  | zero =>
    intro v2 v3 hf
    cases hf
  | succ n ih =>
    intro v2 v3 hf
    rw [fL_areAlike_b19] at hf
    refine b_iload_n C dL_areAlike_19 rfl 3 rfl ?_
    refine b_bipush (v := 11) C dL_areAlike_20 (by decide) ?_
    refine b_icmp_ge (tgt := 54) C dL_areAlike_22 (by decide) (fun c22 => ?_) (fun c22 => ?_)
    · have hf := iT c22 hf
      refine b_iconst (v := 0) C dL_areAlike_54 (by decide) ?_
      refine b_istore_n (lv' := [(3, .int 0), (0, .ref (G.2.2 i0)), (1, .ref (G.2.2 101)), (2, .int v2)]) C dL_areAlike_55 rfl (by decide) rfl ?_
      refine b_pm [1, 2, 3, 0] (lv' := [(0, .ref (G.2.2 i0)), (1, .ref (G.2.2 101)), (2, .int v2), (3, .int 0)]) rfl ?_
      exact wL_areAlike_b56 C hsw  hk0 FU _ _ hf
    · have hf := iF c22 hf
      refine b_iload_n C dL_areAlike_25 rfl 2 rfl ?_
      refine b_if_eq (tgt := 46) C dL_areAlike_26 (by decide) (fun c26 => ?_) (fun c26 => ?_)
      · have hf := iT c26 hf
        refine b_pm [0, 1, 3] (lv' := [(0, .ref (G.2.2 i0)), (1, .ref (G.2.2 101)), (3, .int v3)]) rfl ?_
        exact wL_areAlike_b46 C hsw ih hk0 hf
      · have hf := iF c26 hf
        refine b_aload_n C dL_areAlike_29 rfl 0 rfl ?_
        refine b_iload_n C dL_areAlike_30 rfl 3 rfl ?_
        obtain ⟨r31, c31, hf⟩ := oB hf
        refine b_callVi (K := 6) (As := [.int v3]) (res := (r31, x)) C (metpX6_count l G _ _ _ _ hk0 c31) hk0 (by decide) rfl gkL_53 ekL_53 rfl ⟨rfl, rfl⟩ ⟨Nat.le_of_ble_eq_true rfl, Nat.le_of_ble_eq_true rfl⟩ (by simp [Value.category]) ⟨Nat.zero_le _, Nat.zero_le _⟩ rfl dL_areAlike_31 ?_
        refine b_aload_n C dL_areAlike_34 rfl 1 rfl ?_
        refine b_iload_n C dL_areAlike_35 rfl 3 rfl ?_
        obtain ⟨r36, c36, hf⟩ := oB hf
        refine b_callVi_sw (As := [.int v3]) (v := r36) C hsw (metpX6_count l (swG G) _ _ _ _ (sw_k0 hsw) c36) gkL_53 ekL_53 rfl ⟨rfl, rfl⟩ ⟨Nat.le_of_ble_eq_true rfl, Nat.le_of_ble_eq_true rfl⟩ (by simp [Value.category]) ⟨Nat.zero_le _, Nat.zero_le _⟩ rfl dL_areAlike_36 ?_
        refine b_icmp_ne (tgt := 46) C dL_areAlike_39 (by decide) (fun c39 => ?_) (fun c39 => ?_)
        · have hf := iF c39 hf
          refine b_pm [0, 1, 3] (lv' := [(0, .ref (G.2.2 i0)), (1, .ref (G.2.2 101)), (3, .int v3)]) rfl ?_
          exact wL_areAlike_b46 C hsw ih hk0 hf
        · have hf := iT c39 hf
          refine b_iconst (v := 1) C dL_areAlike_42 (by decide) ?_
          refine b_goto (tgt := 47) C dL_areAlike_43 (by decide) ?_
          refine b_pm [0, 1, 3] (lv' := [(0, .ref (G.2.2 i0)), (1, .ref (G.2.2 101)), (3, .int v3)]) rfl ?_
          exact wL_areAlike_b47 C hsw ih hk0 hf
set_option maxHeartbeats 4000000 in
set_option maxRecDepth 100000 in
theorem wL_areAlike_b16 (C : CT p s m args meth c cL_areAlike 4 RL (some (.boolean)) G (pA G s.heap.size)) (hsw : SW G) {i0 : Nat} {x : xS} {s0 : Int32} {r : Int32} (hk0 : KD G i0 6) (hf : fL_areAlike_b16 i0 x s0 = some r) : WB p l e rL_areAlike s m args below meth c 4 G (pA G s.heap.size) (qI below G (r, x) args s 0 0) 0 0 16 [(0, .ref (G.2.2 i0)), (1, .ref (G.2.2 101))] [.int s0] x := by
  unfold fL_areAlike_b16 at hf
  refine b_istore_n (lv' := [(2, .int s0), (0, .ref (G.2.2 i0)), (1, .ref (G.2.2 101))]) C dL_areAlike_16 rfl (by decide) rfl ?_
  refine b_iconst (v := 0) C dL_areAlike_17 (by decide) ?_
  refine b_istore_n (lv' := [(3, .int 0), (2, .int s0), (0, .ref (G.2.2 i0)), (1, .ref (G.2.2 101))]) C dL_areAlike_18 rfl (by decide) rfl ?_
  refine b_pm [2, 3, 1, 0] (lv' := [(0, .ref (G.2.2 i0)), (1, .ref (G.2.2 101)), (2, .int s0), (3, .int 0)]) rfl ?_
  exact wL_areAlike_b19 C hsw  hk0 FU _ _ hf
set_option maxHeartbeats 4000000 in
set_option maxRecDepth 100000 in
theorem wL_areAlike_b0 (C : CT p s m args meth c cL_areAlike 4 RL (some (.boolean)) G (pA G s.heap.size)) (hsw : SW G) {i0 : Nat} {x : xS}  {r : Int32} (hk0 : KD G i0 6) (hf : fL_areAlike_b0 i0 x  = some r) : WB p l e rL_areAlike s m args below meth c 4 G (pA G s.heap.size) (qI below G (r, x) args s 0 0) 0 0 0 [(0, .ref (G.2.2 i0)), (1, .ref (G.2.2 101))] [] x := by
  unfold fL_areAlike_b0 at hf
  refine b_aload_n C dL_areAlike_0 rfl 0 rfl ?_
  obtain ⟨r1, c1, hf⟩ := oB hf
  refine b_callVi (K := 6) (As := []) (res := (r1, x)) C (metX6_poorest l G _ _ _ hk0 c1) hk0 (by decide) rfl gkL_50 ekL_50 rfl ⟨rfl, rfl⟩ ⟨Nat.le_of_ble_eq_true rfl, Nat.le_of_ble_eq_true rfl⟩ (by simp [Value.category]) ⟨Nat.zero_le _, Nat.zero_le _⟩ rfl dL_areAlike_1 ?_
  refine b_aload_n C dL_areAlike_4 rfl 1 rfl ?_
  obtain ⟨r5, c5, hf⟩ := oB hf
  refine b_callVi_sw (As := []) (v := r5) C hsw (metX6_poorest l (swG G) _ _ _ (sw_k0 hsw) c5) gkL_50 ekL_50 rfl ⟨rfl, rfl⟩ ⟨Nat.le_of_ble_eq_true rfl, Nat.le_of_ble_eq_true rfl⟩ (by simp [Value.category]) ⟨Nat.zero_le _, Nat.zero_le _⟩ rfl dL_areAlike_5 ?_
  refine b_icmp_ne (tgt := 15) C dL_areAlike_8 (by decide) (fun c8 => ?_) (fun c8 => ?_)
  · have hf := iF c8 hf
    refine b_iconst (v := 0) C dL_areAlike_15 (by decide) ?_
    exact wL_areAlike_b16 C hsw  hk0 hf
  · have hf := iT c8 hf
    refine b_iconst (v := 1) C dL_areAlike_11 (by decide) ?_
    refine b_goto (tgt := 16) C dL_areAlike_12 (by decide) ?_
    exact wL_areAlike_b16 C hsw  hk0 hf
end
theorem metL_areAlike (l : Launch) (G : gT) (i0 : Nat) (x : xS) (r : Int32) (hk0 : KD G i0 6) (hsw : SW G) (hf : fL_areAlike i0 x = some r) : cI l yL_areAlike cL_areAlike 4 (.boolean) rL_areAlike [.ref (G.2.2 i0), .ref (G.2.2 101)] G x (r, x) :=
  b_body (by decide) (Nat.le_of_ble_eq_true rfl) rfl (fun p e s m args below meth c C => wL_areAlike_b0 C hsw hk0 hf)
-- PX6_fewestBeds
abbrev rpX6_fewestBeds : Room := { frames := 3, cells := 0, slots := 0, locals := 69 }
def fpX6_fewestBeds_b0 (i0 : Nat) (v1 : Int32) (x : xS) : Option (Int32 × xS) :=
  Option.bind (fpX6_checkRange v1 0 1 x) (fun r3 =>
  (if v1 = 0 then
  Option.bind (fX1_bedsFor (i0 + 97) ((i0 + 1) + 1) x) (fun r21 =>
  some (r21.1, r21.2))
  else
  Option.bind (fX4_mostLentBeds ((i0 + 1) + 1) x) (fun r34 =>
  some (r34, x))))
def fpX6_fewestBeds (i0 : Nat) (v1 : Int32) (x : xS) : Option (Int32 × xS) := fpX6_fewestBeds_b0 i0 v1 x
section
variable {p : Program} {l : Launch} {e : Env} {R : Room} {s : State} {m : MethodId} {args : Array Value} {below : List Frame} {meth : Method} {c : Code} {G : gT}
set_option maxHeartbeats 4000000 in
set_option maxRecDepth 100000 in
theorem wpX6_fewestBeds_b0 (C : CT p s m args meth c cX6_fewestBeds 2 RX6 (some (.int)) G (pA G s.heap.size)) {i0 : Nat} {v1 : Int32} {x : xS} {r : (Int32 × xS)} (hk0 : KD G i0 6) (hf : fpX6_fewestBeds_b0 i0 v1 x = some r) : WB p l e rpX6_fewestBeds s m args below meth c 2 G (pA G s.heap.size) (qI below G r args s 0 0) 0 0 0 [(0, .ref (G.2.2 i0)), (1, .int v1)] [] x := by
  unfold fpX6_fewestBeds_b0 at hf
  refine b_iload_n C dX6_fewestBeds_0 rfl 1 rfl ?_
  refine b_iconst (v := 0) C dX6_fewestBeds_1 (by decide) ?_
  refine b_iconst (v := 1) C dX6_fewestBeds_2 (by decide) ?_
  obtain ⟨r3, c3, hf⟩ := oB hf
  refine b_callSv (As := [.int v1, .int 0, .int 1]) (res := x) C (metpX6_checkRange l G _ _ _ _ _ c3) gkX6_160 ekX6_160 rfl ⟨rfl, rfl⟩ ⟨Nat.le_of_ble_eq_true rfl, Nat.le_of_ble_eq_true rfl⟩ (by simp [Value.category]) ⟨Nat.zero_le _, Nat.zero_le _⟩ rfl dX6_fewestBeds_3 ?_
  refine b_iload_n C dX6_fewestBeds_6 rfl 1 rfl ?_
  refine b_if_ne (tgt := 27) C dX6_fewestBeds_7 (by decide) (fun c7 => ?_) (fun c7 => ?_)
  · have hf := iF c7 hf
    refine b_aload_n C dX6_fewestBeds_27 rfl 0 rfl ?_
    refine gfX6_10 C hk0 dX6_fewestBeds_28 ?_
    refine gfX6_151 C ((kd6 C.cl hk0).1) dX6_fewestBeds_31 ?_
    obtain ⟨r34, c34, hf⟩ := oB hf
    refine b_callVi (K := 4) (As := []) (res := (r34, x)) C (metX4_mostLentBeds l G _ _ _ ((kd3 C.cl ((kd6 C.cl hk0).1)).1) c34) ((kd3 C.cl ((kd6 C.cl hk0).1)).1) (by decide) rfl gkX6_182 ekX6_182 rfl ⟨rfl, rfl⟩ ⟨Nat.le_of_ble_eq_true rfl, Nat.le_of_ble_eq_true rfl⟩ (by simp [Value.category]) ⟨Nat.zero_le _, Nat.zero_le _⟩ rfl dX6_fewestBeds_34 ?_
    exact b_ireti C dX6_fewestBeds_37 hf
  · have hf := iT c7 hf
    refine b_aload_n C dX6_fewestBeds_10 rfl 0 rfl ?_
    refine gfX6_31 C hk0 dX6_fewestBeds_11 ?_
    refine b_aload_n C dX6_fewestBeds_14 rfl 0 rfl ?_
    refine gfX6_10 C hk0 dX6_fewestBeds_15 ?_
    refine gfX6_151 C ((kd6 C.cl hk0).1) dX6_fewestBeds_18 ?_
    obtain ⟨r21, c21, hf⟩ := oB hf
    refine b_callVi (K := 1) (As := [.ref (G.2.2 ((i0 + 1) + 1))]) (res := r21) C (metX1_bedsFor l G _ _ _ _ ((kd6 C.cl hk0).2.2.2.1) ((kd3 C.cl ((kd6 C.cl hk0).1)).1) c21) ((kd6 C.cl hk0).2.2.2.1) (by decide) rfl gkX6_178 ekX6_178 rfl ⟨rfl, rfl⟩ ⟨Nat.le_of_ble_eq_true rfl, Nat.le_of_ble_eq_true rfl⟩ (by simp [Value.category]) ⟨Nat.zero_le _, Nat.zero_le _⟩ rfl dX6_fewestBeds_21 ?_
    refine b_goto (tgt := 37) C dX6_fewestBeds_24 (by decide) ?_
    exact b_ireti C dX6_fewestBeds_37 hf
end
theorem metpX6_fewestBeds (l : Launch) (G : gT) (i0 : Nat) (v1 : Int32) (x : xS) (r : (Int32 × xS)) (hk0 : KD G i0 6) (hf : fpX6_fewestBeds i0 v1 x = some r) : cI l yX6_fewestBeds cX6_fewestBeds 2 (.int) rpX6_fewestBeds [.ref (G.2.2 i0), .int v1] G x r :=
  b_body (by decide) (Nat.le_of_ble_eq_true rfl) rfl (fun p e s m args below meth c C => wpX6_fewestBeds_b0 C hk0 hf)
-- PX6_checkAsking
abbrev rpX6_checkAsking : Room := { frames := 1, cells := 0, slots := 0, locals := 21 }
def fpX6_checkAsking_b0 (v0 : Int32) (v1 : Int32) (v2 : Int32) (x : xS)  : Option Unit :=
  Option.bind (fpX6_checkLodger v0 x) (fun r1 =>
  Option.bind (fX6_isWithinNight v1 v2 x) (fun r6 =>
  (if r6 = 0 then
  none
  else
  some ())))
def fpX6_checkAsking (v0 : Int32) (v1 : Int32) (v2 : Int32) (x : xS) : Option Unit := fpX6_checkAsking_b0 v0 v1 v2 x
section
variable {p : Program} {l : Launch} {e : Env} {R : Room} {s : State} {m : MethodId} {args : Array Value} {below : List Frame} {meth : Method} {c : Code} {G : gT}
set_option maxHeartbeats 4000000 in
set_option maxRecDepth 100000 in
theorem wpX6_checkAsking_b0 (C : CT p s m args meth c cX6_checkAsking 3 RX6 none G (pA G s.heap.size)) {v0 : Int32} {v1 : Int32} {v2 : Int32} {x : xS}  {r : Unit}  (hf : fpX6_checkAsking_b0 v0 v1 v2 x  = some r) : WB p l e rpX6_checkAsking s m args below meth c 3 G (pA G s.heap.size) (qV below G x args s 0 0) 0 0 0 [(0, .int v0), (1, .int v1), (2, .int v2)] [] x := by
  unfold fpX6_checkAsking_b0 at hf
  refine b_iload_n C dX6_checkAsking_0 rfl 0 rfl ?_
  obtain ⟨r1, c1, hf⟩ := oB hf
  refine b_callSv (As := [.int v0]) (res := x) C (metpX6_checkLodger l G _ _ _ c1) gkX6_53 ekX6_53 rfl ⟨rfl, rfl⟩ ⟨Nat.le_of_ble_eq_true rfl, Nat.le_of_ble_eq_true rfl⟩ (by simp [Value.category]) ⟨Nat.zero_le _, Nat.zero_le _⟩ rfl dX6_checkAsking_1 ?_
  refine b_iload_n C dX6_checkAsking_4 rfl 1 rfl ?_
  refine b_iload_n C dX6_checkAsking_5 rfl 2 rfl ?_
  obtain ⟨r6, c6, hf⟩ := oB hf
  refine b_callSi (As := [.int v1, .int v2]) (res := (r6, x)) C (metX6_isWithinNight l G _ _ _ _  c6) gkX6_236 ekX6_236 rfl ⟨rfl, rfl⟩ ⟨Nat.le_of_ble_eq_true rfl, Nat.le_of_ble_eq_true rfl⟩ (by simp [Value.category]) ⟨Nat.zero_le _, Nat.zero_le _⟩ rfl dX6_checkAsking_6 ?_
  refine b_if_ne (tgt := 22) C dX6_checkAsking_9 (by decide) (fun c9 => ?_) (fun c9 => ?_)
  · have hf := iF c9 hf
    exact b_vret C dX6_checkAsking_22 rfl
  · have hf := iT c9 hf
    cases hf
end
theorem metpX6_checkAsking (l : Launch) (G : gT) (v0 : Int32) (v1 : Int32) (v2 : Int32) (x : xS) (r : Unit)  (hf : fpX6_checkAsking v0 v1 v2 x = some r) : cV l yX6_checkAsking cX6_checkAsking 3 rpX6_checkAsking [.int v0, .int v1, .int v2] G x x :=
  b_body (by decide) (Nat.le_of_ble_eq_true rfl) rfl (fun p e s m args below meth c C => wpX6_checkAsking_b0 C  hf)
-- PX6_ifAsked
abbrev rpX6_ifAsked : Room := { frames := 4, cells := 0, slots := 0, locals := 96 }
def fpX6_ifAsked_b0 (i0 : Nat) (v1 : Int32) (v2 : Int32) (v3 : Int32) (x : xS)  : Option Int32 :=
  Option.bind (fpX6_checkAsking v1 v2 v3 x) (fun r3 =>
  Option.bind (fX3_answerTo (i0 + 1) v1 v2 v3 x) (fun r13 =>
  some r13))
def fpX6_ifAsked (i0 : Nat) (v1 : Int32) (v2 : Int32) (v3 : Int32) (x : xS) : Option Int32 := fpX6_ifAsked_b0 i0 v1 v2 v3 x
section
variable {p : Program} {l : Launch} {e : Env} {R : Room} {s : State} {m : MethodId} {args : Array Value} {below : List Frame} {meth : Method} {c : Code} {G : gT}
set_option maxHeartbeats 4000000 in
set_option maxRecDepth 100000 in
theorem wpX6_ifAsked_b0 (C : CT p s m args meth c cX6_ifAsked 4 RX6 (some (.int)) G (pA G s.heap.size)) {i0 : Nat} {v1 : Int32} {v2 : Int32} {v3 : Int32} {x : xS}  {r : Int32} (hk0 : KD G i0 6) (hf : fpX6_ifAsked_b0 i0 v1 v2 v3 x  = some r) : WB p l e rpX6_ifAsked s m args below meth c 4 G (pA G s.heap.size) (qI below G (r, x) args s 0 0) 0 0 0 [(0, .ref (G.2.2 i0)), (1, .int v1), (2, .int v2), (3, .int v3)] [] x := by
  unfold fpX6_ifAsked_b0 at hf
  refine b_iload_n C dX6_ifAsked_0 rfl 1 rfl ?_
  refine b_iload_n C dX6_ifAsked_1 rfl 2 rfl ?_
  refine b_iload_n C dX6_ifAsked_2 rfl 3 rfl ?_
  obtain ⟨r3, c3, hf⟩ := oB hf
  refine b_callSv (As := [.int v1, .int v2, .int v3]) (res := x) C (metpX6_checkAsking l G _ _ _ _ _ c3) gkX6_42 ekX6_42 rfl ⟨rfl, rfl⟩ ⟨Nat.le_of_ble_eq_true rfl, Nat.le_of_ble_eq_true rfl⟩ (by simp [Value.category]) ⟨Nat.zero_le _, Nat.zero_le _⟩ rfl dX6_ifAsked_3 ?_
  refine b_aload_n C dX6_ifAsked_6 rfl 0 rfl ?_
  refine gfX6_10 C hk0 dX6_ifAsked_7 ?_
  refine b_iload_n C dX6_ifAsked_10 rfl 1 rfl ?_
  refine b_iload_n C dX6_ifAsked_11 rfl 2 rfl ?_
  refine b_iload_n C dX6_ifAsked_12 rfl 3 rfl ?_
  obtain ⟨r13, c13, hf⟩ := oB hf
  refine b_callVi (K := 3) (As := [.int v1, .int v2, .int v3]) (res := (r13, x)) C (metX3_answerTo l G _ _ _ _ _ _ ((kd6 C.cl hk0).1) c13) ((kd6 C.cl hk0).1) (by decide) rfl gkX6_172 ekX6_172 rfl ⟨rfl, rfl⟩ ⟨Nat.le_of_ble_eq_true rfl, Nat.le_of_ble_eq_true rfl⟩ (by simp [Value.category]) ⟨Nat.zero_le _, Nat.zero_le _⟩ rfl dX6_ifAsked_13 ?_
  exact b_ireti C dX6_ifAsked_16 (congrArg (Option.map (fun q => (q, x))) hf)
end
theorem metpX6_ifAsked (l : Launch) (G : gT) (i0 : Nat) (v1 : Int32) (v2 : Int32) (v3 : Int32) (x : xS) (r : Int32) (hk0 : KD G i0 6) (hf : fpX6_ifAsked i0 v1 v2 v3 x = some r) : cI l yX6_ifAsked cX6_ifAsked 4 (.int) rpX6_ifAsked [.ref (G.2.2 i0), .int v1, .int v2, .int v3] G x (r, x) :=
  b_body (by decide) (Nat.le_of_ble_eq_true rfl) rfl (fun p e s m args below meth c C => wpX6_ifAsked_b0 C hk0 hf)
-- PX6_ifPutOut
abbrev rpX6_ifPutOut : Room := { frames := 5, cells := 0, slots := 0, locals := 120 }
def fpX6_ifPutOut_b0 (i0 : Nat) (v1 : Int32) (v2 : Int32) (v3 : Int32) (x : xS)  : Option Int32 :=
  Option.bind (fpX6_checkAsking v1 v2 v3 x) (fun r3 =>
  Option.bind (fX3_wouldBePutOut (i0 + 1) v1 v2 v3 x) (fun r13 =>
  some r13))
def fpX6_ifPutOut (i0 : Nat) (v1 : Int32) (v2 : Int32) (v3 : Int32) (x : xS) : Option Int32 := fpX6_ifPutOut_b0 i0 v1 v2 v3 x
section
variable {p : Program} {l : Launch} {e : Env} {R : Room} {s : State} {m : MethodId} {args : Array Value} {below : List Frame} {meth : Method} {c : Code} {G : gT}
set_option maxHeartbeats 4000000 in
set_option maxRecDepth 100000 in
theorem wpX6_ifPutOut_b0 (C : CT p s m args meth c cX6_ifPutOut 4 RX6 (some (.int)) G (pA G s.heap.size)) {i0 : Nat} {v1 : Int32} {v2 : Int32} {v3 : Int32} {x : xS}  {r : Int32} (hk0 : KD G i0 6) (hf : fpX6_ifPutOut_b0 i0 v1 v2 v3 x  = some r) : WB p l e rpX6_ifPutOut s m args below meth c 4 G (pA G s.heap.size) (qI below G (r, x) args s 0 0) 0 0 0 [(0, .ref (G.2.2 i0)), (1, .int v1), (2, .int v2), (3, .int v3)] [] x := by
  unfold fpX6_ifPutOut_b0 at hf
  refine b_iload_n C dX6_ifPutOut_0 rfl 1 rfl ?_
  refine b_iload_n C dX6_ifPutOut_1 rfl 2 rfl ?_
  refine b_iload_n C dX6_ifPutOut_2 rfl 3 rfl ?_
  obtain ⟨r3, c3, hf⟩ := oB hf
  refine b_callSv (As := [.int v1, .int v2, .int v3]) (res := x) C (metpX6_checkAsking l G _ _ _ _ _ c3) gkX6_42 ekX6_42 rfl ⟨rfl, rfl⟩ ⟨Nat.le_of_ble_eq_true rfl, Nat.le_of_ble_eq_true rfl⟩ (by simp [Value.category]) ⟨Nat.zero_le _, Nat.zero_le _⟩ rfl dX6_ifPutOut_3 ?_
  refine b_aload_n C dX6_ifPutOut_6 rfl 0 rfl ?_
  refine gfX6_10 C hk0 dX6_ifPutOut_7 ?_
  refine b_iload_n C dX6_ifPutOut_10 rfl 1 rfl ?_
  refine b_iload_n C dX6_ifPutOut_11 rfl 2 rfl ?_
  refine b_iload_n C dX6_ifPutOut_12 rfl 3 rfl ?_
  obtain ⟨r13, c13, hf⟩ := oB hf
  refine b_callVi (K := 3) (As := [.int v1, .int v2, .int v3]) (res := (r13, x)) C (metX3_wouldBePutOut l G _ _ _ _ _ _ ((kd6 C.cl hk0).1) c13) ((kd6 C.cl hk0).1) (by decide) rfl gkX6_175 ekX6_175 rfl ⟨rfl, rfl⟩ ⟨Nat.le_of_ble_eq_true rfl, Nat.le_of_ble_eq_true rfl⟩ (by simp [Value.category]) ⟨Nat.zero_le _, Nat.zero_le _⟩ rfl dX6_ifPutOut_13 ?_
  exact b_ireti C dX6_ifPutOut_16 (congrArg (Option.map (fun q => (q, x))) hf)
end
theorem metpX6_ifPutOut (l : Launch) (G : gT) (i0 : Nat) (v1 : Int32) (v2 : Int32) (v3 : Int32) (x : xS) (r : Int32) (hk0 : KD G i0 6) (hf : fpX6_ifPutOut i0 v1 v2 v3 x = some r) : cI l yX6_ifPutOut cX6_ifPutOut 4 (.int) rpX6_ifPutOut [.ref (G.2.2 i0), .int v1, .int v2, .int v3] G x (r, x) :=
  b_body (by decide) (Nat.le_of_ble_eq_true rfl) rfl (fun p e s m args below meth c C => wpX6_ifPutOut_b0 C hk0 hf)
-- PX6_undo
abbrev rpX6_undo : Room := { frames := 5, cells := 0, slots := 0, locals := 126 }
def fpX6_undo_b35 (i0 : Nat) (s1 : Int32) (x : xS) : Option (Int32 × xS) :=
  lt1 (up1 x i0 6 s1) (fun x35 =>
  lt1 (up1 x35 i0 5 ((x35.1 i0 5) - 1)) (fun x45 =>
  Option.bind (fX5_restore (i0 + 34) (x45.1 i0 6) (i0 + 1) x45) (fun r60 =>
  some ((r60.1 i0 5), r60))))
def fpX6_undo_b0 (i0 : Nat) (x : xS) : Option (Int32 × xS) :=
  (if (x.1 i0 5) = 0 then
  none
  else
  (if (x.1 i0 6) = 0 then
  fpX6_undo_b35 i0 5 x
  else
  fpX6_undo_b35 i0 ((x.1 i0 6) - 1) x))
def fpX6_undo (i0 : Nat) (x : xS) : Option (Int32 × xS) := fpX6_undo_b0 i0 x
section
variable {p : Program} {l : Launch} {e : Env} {R : Room} {s : State} {m : MethodId} {args : Array Value} {below : List Frame} {meth : Method} {c : Code} {G : gT}
set_option maxHeartbeats 4000000 in
set_option maxRecDepth 100000 in
theorem wpX6_undo_b35 (C : CT p s m args meth c cX6_undo 1 RX6 (some (.int)) G (pA G s.heap.size)) {i0 : Nat} {s1 : Int32} {x : xS} {r : (Int32 × xS)} (hk0 : KD G i0 6) (hf : fpX6_undo_b35 i0 s1 x = some r) : WB p l e rpX6_undo s m args below meth c 1 G (pA G s.heap.size) (qI below G r args s 0 0) 0 0 35 [(0, .ref (G.2.2 i0))] [.int s1, .ref (G.2.2 i0)] x := by
  unfold fpX6_undo_b35 at hf
  obtain ⟨x35, e35, hf⟩ := lN1 hf
  refine pfX6_143 C hk0 dX6_undo_35 e35 ?_
  refine b_aload_n C dX6_undo_38 rfl 0 rfl ?_
  refine b_dup C dX6_undo_39 rfl ?_
  refine gfX6_137 C hk0 dX6_undo_40 ?_
  refine b_iconst (v := 1) C dX6_undo_43 (by decide) ?_
  refine b_isub C dX6_undo_44 ?_
  obtain ⟨x45, e45, hf⟩ := lN1 hf
  refine pfX6_137 C hk0 dX6_undo_45 e45 ?_
  refine b_aload_n C dX6_undo_48 rfl 0 rfl ?_
  refine gfX6_25 C hk0 dX6_undo_49 ?_
  refine b_aload_n C dX6_undo_52 rfl 0 rfl ?_
  refine gfX6_143 C hk0 dX6_undo_53 ?_
  refine b_aload_n C dX6_undo_56 rfl 0 rfl ?_
  refine gfX6_10 C hk0 dX6_undo_57 ?_
  obtain ⟨r60, c60, hf⟩ := oB hf
  refine b_callVv (K := 5) (As := [.int (x45.1 i0 6), .ref (G.2.2 (i0 + 1))]) (res := r60) C (metX5_restore l G _ _ _ _ _ ((kd6 C.cl hk0).2.2.1) ((kd6 C.cl hk0).1) c60) ((kd6 C.cl hk0).2.2.1) (by decide) rfl gkX6_134 ekX6_134 rfl ⟨rfl, rfl⟩ ⟨Nat.le_of_ble_eq_true rfl, Nat.le_of_ble_eq_true rfl⟩ (by simp [Value.category]) ⟨Nat.zero_le _, Nat.zero_le _⟩ rfl dX6_undo_60 ?_
  refine b_aload_n C dX6_undo_63 rfl 0 rfl ?_
  refine gfX6_137 C hk0 dX6_undo_64 ?_
  exact b_ireti C dX6_undo_67 hf
set_option maxHeartbeats 4000000 in
set_option maxRecDepth 100000 in
theorem wpX6_undo_b0 (C : CT p s m args meth c cX6_undo 1 RX6 (some (.int)) G (pA G s.heap.size)) {i0 : Nat} {x : xS} {r : (Int32 × xS)} (hk0 : KD G i0 6) (hf : fpX6_undo_b0 i0 x = some r) : WB p l e rpX6_undo s m args below meth c 1 G (pA G s.heap.size) (qI below G r args s 0 0) 0 0 0 [(0, .ref (G.2.2 i0))] [] x := by
  unfold fpX6_undo_b0 at hf
  refine b_aload_n C dX6_undo_0 rfl 0 rfl ?_
  refine gfX6_137 C hk0 dX6_undo_1 ?_
  refine b_if_ne (tgt := 17) C dX6_undo_4 (by decide) (fun c4 => ?_) (fun c4 => ?_)
  · have hf := iF c4 hf
    refine b_aload_n C dX6_undo_17 rfl 0 rfl ?_
    refine b_aload_n C dX6_undo_18 rfl 0 rfl ?_
    refine gfX6_143 C hk0 dX6_undo_19 ?_
    refine b_if_ne (tgt := 29) C dX6_undo_22 (by decide) (fun c22 => ?_) (fun c22 => ?_)
    · have hf := iF c22 hf
      refine b_aload_n C dX6_undo_29 rfl 0 rfl ?_
      refine gfX6_143 C hk0 dX6_undo_30 ?_
      refine b_iconst (v := 1) C dX6_undo_33 (by decide) ?_
      refine b_isub C dX6_undo_34 ?_
      exact wpX6_undo_b35 C  hk0 hf
    · have hf := iT c22 hf
      refine b_iconst (v := 5) C dX6_undo_25 (by decide) ?_
      refine b_goto (tgt := 35) C dX6_undo_26 (by decide) ?_
      exact wpX6_undo_b35 C  hk0 hf
  · have hf := iT c4 hf
    cases hf
end
theorem metpX6_undo (l : Launch) (G : gT) (i0 : Nat) (x : xS) (r : (Int32 × xS)) (hk0 : KD G i0 6) (hf : fpX6_undo i0 x = some r) : cI l yX6_undo cX6_undo 1 (.int) rpX6_undo [.ref (G.2.2 i0)] G x r :=
  b_body (by decide) (Nat.le_of_ble_eq_true rfl) rfl (fun p e s m args below meth c C => wpX6_undo_b0 C hk0 hf)
-- PX6_ask
abbrev rpX6_ask : Room := { frames := 6, cells := 0, slots := 0, locals := 146 }
def fpX6_ask_b0 (i0 : Nat) (v1 : Int32) (v2 : Int32) (v3 : Int32) (x : xS) : Option (Int32 × xS) :=
  Option.bind (fpX6_checkAsking v1 v2 v3 x) (fun r3 =>
  Option.bind (fX6_saveState i0 x) (fun r7 =>
  Option.bind (fX3_takeAsking (i0 + 1) v1 v2 v3 r7) (fun r17 =>
  some (r17.1, r17.2))))
def fpX6_ask (i0 : Nat) (v1 : Int32) (v2 : Int32) (v3 : Int32) (x : xS) : Option (Int32 × xS) := fpX6_ask_b0 i0 v1 v2 v3 x
section
variable {p : Program} {l : Launch} {e : Env} {R : Room} {s : State} {m : MethodId} {args : Array Value} {below : List Frame} {meth : Method} {c : Code} {G : gT}
set_option maxHeartbeats 4000000 in
set_option maxRecDepth 100000 in
theorem wpX6_ask_b0 (C : CT p s m args meth c cX6_ask 4 RX6 (some (.int)) G (pA G s.heap.size)) {i0 : Nat} {v1 : Int32} {v2 : Int32} {v3 : Int32} {x : xS} {r : (Int32 × xS)} (hk0 : KD G i0 6) (hf : fpX6_ask_b0 i0 v1 v2 v3 x = some r) : WB p l e rpX6_ask s m args below meth c 4 G (pA G s.heap.size) (qI below G r args s 0 0) 0 0 0 [(0, .ref (G.2.2 i0)), (1, .int v1), (2, .int v2), (3, .int v3)] [] x := by
  unfold fpX6_ask_b0 at hf
  refine b_iload_n C dX6_ask_0 rfl 1 rfl ?_
  refine b_iload_n C dX6_ask_1 rfl 2 rfl ?_
  refine b_iload_n C dX6_ask_2 rfl 3 rfl ?_
  obtain ⟨r3, c3, hf⟩ := oB hf
  refine b_callSv (As := [.int v1, .int v2, .int v3]) (res := x) C (metpX6_checkAsking l G _ _ _ _ _ c3) gkX6_42 ekX6_42 rfl ⟨rfl, rfl⟩ ⟨Nat.le_of_ble_eq_true rfl, Nat.le_of_ble_eq_true rfl⟩ (by simp [Value.category]) ⟨Nat.zero_le _, Nat.zero_le _⟩ rfl dX6_ask_3 ?_
  refine b_aload_n C dX6_ask_6 rfl 0 rfl ?_
  obtain ⟨r7, c7, hf⟩ := oB hf
  refine b_callVv (K := 6) (As := []) (res := r7) C (metX6_saveState l G _ _ _ hk0 c7) hk0 (by decide) rfl gkX6_46 ekX6_46 rfl ⟨rfl, rfl⟩ ⟨Nat.le_of_ble_eq_true rfl, Nat.le_of_ble_eq_true rfl⟩ (by simp [Value.category]) ⟨Nat.zero_le _, Nat.zero_le _⟩ rfl dX6_ask_7 ?_
  refine b_aload_n C dX6_ask_10 rfl 0 rfl ?_
  refine gfX6_10 C hk0 dX6_ask_11 ?_
  refine b_iload_n C dX6_ask_14 rfl 1 rfl ?_
  refine b_iload_n C dX6_ask_15 rfl 2 rfl ?_
  refine b_iload_n C dX6_ask_16 rfl 3 rfl ?_
  obtain ⟨r17, c17, hf⟩ := oB hf
  refine b_callVi (K := 3) (As := [.int v1, .int v2, .int v3]) (res := r17) C (metX3_takeAsking l G _ _ _ _ _ _ ((kd6 C.cl hk0).1) c17) ((kd6 C.cl hk0).1) (by decide) rfl gkX6_49 ekX6_49 rfl ⟨rfl, rfl⟩ ⟨Nat.le_of_ble_eq_true rfl, Nat.le_of_ble_eq_true rfl⟩ (by simp [Value.category]) ⟨Nat.zero_le _, Nat.zero_le _⟩ rfl dX6_ask_17 ?_
  exact b_ireti C dX6_ask_20 hf
end
theorem metpX6_ask (l : Launch) (G : gT) (i0 : Nat) (v1 : Int32) (v2 : Int32) (v3 : Int32) (x : xS) (r : (Int32 × xS)) (hk0 : KD G i0 6) (hf : fpX6_ask i0 v1 v2 v3 x = some r) : cI l yX6_ask cX6_ask 4 (.int) rpX6_ask [.ref (G.2.2 i0), .int v1, .int v2, .int v3] G x r :=
  b_body (by decide) (Nat.le_of_ble_eq_true rfl) rfl (fun p e s m args below meth c C => wpX6_ask_b0 C hk0 hf)
