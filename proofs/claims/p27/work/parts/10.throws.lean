def exN (k : Nat) : String := match k with
  | 1 => "java/lang/IndexOutOfBoundsException"
  | 2 => "java/lang/IllegalArgumentException"
  | _ => "java/lang/IllegalStateException"
/-- what the tables say of the exceptions, apart from the words of AW -/
def SR (U : State) : Prop := va_Nw (.declares ⟨"java/lang/RuntimeException", "<init>", "(Ljava/lang/String;)V"⟩) U ∧ va_Nw (.declares ⟨"java/lang/Exception", "<init>", "(Ljava/lang/String;)V"⟩) U ∧ va_Nw (.declares ⟨"java/lang/Throwable", "<init>", "(Ljava/lang/String;)V"⟩) U ∧ va_Nw (.castable "java/lang/IndexOutOfBoundsException" "java/lang/IndexOutOfBoundsException") U ∧ va_Nw (.castable "java/lang/IllegalArgumentException" "java/lang/IllegalArgumentException") U ∧ va_Nw (.castable "java/lang/IllegalStateException" "java/lang/IllegalStateException") U ∧ va_Nc "java/lang/IllegalArgumentException" "java/lang/IndexOutOfBoundsException" U ∧ va_Nc "java/lang/IllegalStateException" "java/lang/IllegalArgumentException" U ∧ va_Nc "java/lang/IllegalStateException" "java/lang/IndexOutOfBoundsException" U ∧ (∃ a, vk_R RX6 141 "no state is saved" a U) ∧ (∃ a, vk_R RX6 234 "a number is out of range" a U) ∧ (∃ a, vk_R RX6 232 "there is no such lodger" a U) ∧ (∃ a, vk_R RX6 240 "the hours are out of range" a U) ∧ (∃ a, vk_R RX6 79 "999 nights ended" a U) ∧ (∃ a, vk_R RX6 148 "there is no such bed" a U)
theorem SR.warm {s U : State} (hW : s.WarmedH U.vm) (h : SR s) : SR U := ⟨va_Nw.warmD hW h.1, va_Nw.warmD hW h.2.1, va_Nw.warmD hW h.2.2.1, va_Nw.warmC hW h.2.2.2.1, va_Nw.warmC hW h.2.2.2.2.1, va_Nw.warmC hW h.2.2.2.2.2.1, va_Nc.moved hW.alike h.2.2.2.2.2.2.1, va_Nc.moved hW.alike h.2.2.2.2.2.2.2.1, va_Nc.moved hW.alike h.2.2.2.2.2.2.2.2.1, h.2.2.2.2.2.2.2.2.2.1.imp fun _ q => vk_R.warm hW q, h.2.2.2.2.2.2.2.2.2.2.1.imp fun _ q => vk_R.warm hW q, h.2.2.2.2.2.2.2.2.2.2.2.1.imp fun _ q => vk_R.warm hW q, h.2.2.2.2.2.2.2.2.2.2.2.2.1.imp fun _ q => vk_R.warm hW q, h.2.2.2.2.2.2.2.2.2.2.2.2.2.1.imp fun _ q => vk_R.warm hW q, h.2.2.2.2.2.2.2.2.2.2.2.2.2.2.imp fun _ q => vk_R.warm hW q⟩
theorem SR.same {u U : State} (h : u.vm = U.vm) (hZ : SR u) : SR U := ⟨va_Nw.same rfl h hZ.1, va_Nw.same rfl h hZ.2.1, va_Nw.same rfl h hZ.2.2.1, va_Nw.same rfl h hZ.2.2.2.1, va_Nw.same rfl h hZ.2.2.2.2.1, va_Nw.same rfl h hZ.2.2.2.2.2.1, va_Nc.moved (by rw [h]; exact Vm.Alike.refl _) hZ.2.2.2.2.2.2.1, va_Nc.moved (by rw [h]; exact Vm.Alike.refl _) hZ.2.2.2.2.2.2.2.1, va_Nc.moved (by rw [h]; exact Vm.Alike.refl _) hZ.2.2.2.2.2.2.2.2.1, hZ.2.2.2.2.2.2.2.2.2.1.imp fun _ q => vk_R.same h.symm q, hZ.2.2.2.2.2.2.2.2.2.2.1.imp fun _ q => vk_R.same h.symm q, hZ.2.2.2.2.2.2.2.2.2.2.2.1.imp fun _ q => vk_R.same h.symm q, hZ.2.2.2.2.2.2.2.2.2.2.2.2.1.imp fun _ q => vk_R.same h.symm q, hZ.2.2.2.2.2.2.2.2.2.2.2.2.2.1.imp fun _ q => vk_R.same h.symm q, hZ.2.2.2.2.2.2.2.2.2.2.2.2.2.2.imp fun _ q => vk_R.same h.symm q⟩
theorem SR.s141 {s : State} (h : SR s) : ∃ a, vk_R RX6 141 "no state is saved" a s := h.2.2.2.2.2.2.2.2.2.1
theorem SR.s234 {s : State} (h : SR s) : ∃ a, vk_R RX6 234 "a number is out of range" a s := h.2.2.2.2.2.2.2.2.2.2.1
theorem SR.s232 {s : State} (h : SR s) : ∃ a, vk_R RX6 232 "there is no such lodger" a s := h.2.2.2.2.2.2.2.2.2.2.2.1
theorem SR.s240 {s : State} (h : SR s) : ∃ a, vk_R RX6 240 "the hours are out of range" a s := h.2.2.2.2.2.2.2.2.2.2.2.2.1
theorem SR.s79 {s : State} (h : SR s) : ∃ a, vk_R RX6 79 "999 nights ended" a s := h.2.2.2.2.2.2.2.2.2.2.2.2.2.1
theorem SR.s148 {s : State} (h : SR s) : ∃ a, vk_R RX6 148 "there is no such bed" a s := h.2.2.2.2.2.2.2.2.2.2.2.2.2.2
theorem SR.c {s : State} (h : SR s) : ∀ j, 1 ≤ j → j ≤ 3 → va_Nw (.castable (exN j) (exN j)) s := by
  intro j h1 h2
  rcases (show j = 1 ∨ j = 2 ∨ j = 3 by omega) with rfl | rfl | rfl
  · exact h.2.2.2.1
  · exact h.2.2.2.2.1
  · exact h.2.2.2.2.2.1
theorem SR.n21 {s : State} (h : SR s) : va_Nc (exN 2) (exN 1) s := h.2.2.2.2.2.2.1
theorem SR.n32 {s : State} (h : SR s) : va_Nc (exN 3) (exN 2) s := h.2.2.2.2.2.2.2.1
theorem SR.n31 {s : State} (h : SR s) : va_Nc (exN 3) (exN 1) s := h.2.2.2.2.2.2.2.2.1
def TW (A : Nat → Prop) (U : State) (H : Heap) : Prop := vx_Zq Bundle.tN "UNASSIGNED_STACK" Bundle.steD A U H ∧ vx_Zq Bundle.tN "SUPPRESSED_SENTINEL" Bundle.listD A U H ∧ SR U
theorem TW.go {A B : Nat → Prop} {s U : State} {H : Heap} {locs : List Loc} (h : TW A s s.heap) (hS : va_S A s.heap H locs) (hW : s.WarmedH U.vm) (hU : U.heap = H) (hB : ∀ q, B q → A q) : TW B U U.heap := by
  rw [hU]
  exact ⟨vx_Zq.moved hW.alike ((h.1.kept hS.2.1).narrow hB), vx_Zq.moved hW.alike ((h.2.1.kept hS.2.1).narrow hB), h.2.2.warm hW⟩
theorem TW.blind {A : Nat → Prop} {U : State} (g : JFrame) (mk : MethodId) (a : Array Value) (h : TW A U U.heap) : TW A (U.calling g mk a) (U.calling g mk a).heap :=
  ⟨vx_Zq.moved (u := U) (U := U.calling g mk a) (Vm.Alike.refl U.vm) h.1, vx_Zq.moved (u := U) (U := U.calling g mk a) (Vm.Alike.refl U.vm) h.2.1, SR.same rfl h.2.2⟩
def PX (G : gT) (x : xS) (U : State) : Prop := va_P G.1 vwCl (wl G x) U.heap ∧ va_K G.1 vwCl (tyG G) U ∧ inj G
/-- the end by an exception: its class is the one that 'bad' tells by number, nothing has changed -/
def xC (G : gT) (x : xS) (bad : Nat → Prop) (A : Nat → Prop) : String → State → State → Prop := vx_X bad (fun E k t => E = exN k ∧ PX G x t) A
def PcX (as : List Value) (G : gT) (x : xS) (sz : Nat) : Array Value → State → Prop := va_Pc as (fun U => U.heap.size = sz ∧ PW G x U ∧ TW (pA G sz) U U.heap)
def xI (l : Launch) (y : MethodName) (b : ByteArray) (nl : Nat) (r : FieldType) (rm : Room) (mc : Nat) (as : List Value) (G : gT) (x : xS) (res : Sum Nat (Int32 × xS)) : Prop := ∀ sz, vx_Met l y (ws_ y b nl (some r)) rm (PcX as G x sz) (va_Qi (fun v u => res = .inr (v, u)) (fun u t => PW G u t) (pA G sz)) (xC G x (fun k => res = .inl k) (pA G sz)) mc (6 * mc) (pA G sz)
def xV (l : Launch) (y : MethodName) (b : ByteArray) (nl : Nat) (rm : Room) (mc : Nat) (as : List Value) (G : gT) (x : xS) (res : Sum Nat xS) : Prop := ∀ sz, vx_Met l y (ws_ y b nl none) rm (PcX as G x sz) (va_Qv (fun u => res = .inr u) (fun u t => PW G u t) (pA G sz)) (xC G x (fun k => res = .inl k) (pA G sz)) mc (6 * mc) (pA G sz)
def qxI (below : List Frame) (G : gT) (x0 : xS) (res : Sum Nat (Int32 × xS)) (args : Array Value) (s : State) (mc : Nat) : State → Prop := vx_MQ below (va_Qi (fun v u => res = .inr (v, u)) (fun u t => PW G u t) (pA G s.heap.size)) (xC G x0 (fun k => res = .inl k) (pA G s.heap.size)) args s mc (6 * mc) (pA G s.heap.size)
def qxV (below : List Frame) (G : gT) (x0 : xS) (res : Sum Nat xS) (args : Array Value) (s : State) (mc : Nat) : State → Prop := vx_MQ below (va_Qv (fun u => res = .inr u) (fun u t => PW G u t) (pA G s.heap.size)) (xC G x0 (fun k => res = .inl k) (pA G s.heap.size)) args s mc (6 * mc) (pA G s.heap.size)
/-- what a body that may throw has besides -/
def XT (l : Launch) (c : Code) (A : Nat → Prop) (s : State) : Prop := l.stackTraces = false ∧ (∀ x ∈ c.exceptionTable.toList, False) ∧ TW A s s.heap
theorem xat1 : ∀ w ∈ (vx_atS RX6 150 "java/lang/IndexOutOfBoundsException" ["java/lang/RuntimeException", "java/lang/Exception"]).filter goodWord, w ∈ AW := by
  have h : ∀ w ∈ (vx_atS RX6 150 "java/lang/IndexOutOfBoundsException" ["java/lang/RuntimeException", "java/lang/Exception"]).filter goodWord, w ∈ lw_tbl := by decide +kernel
  exact fun w hw => AW_of (h w hw) (List.mem_filter.mp hw).2
theorem xno1 : (vx_atS RX6 150 "java/lang/IndexOutOfBoundsException" ["java/lang/RuntimeException", "java/lang/Exception"]).filter (fun w => !goodWord w) = [(.declares ⟨"java/lang/RuntimeException", "<init>", "(Ljava/lang/String;)V"⟩), (.declares ⟨"java/lang/Exception", "<init>", "(Ljava/lang/String;)V"⟩), (.declares ⟨"java/lang/Throwable", "<init>", "(Ljava/lang/String;)V"⟩), (.castable "java/lang/IndexOutOfBoundsException" "java/lang/IndexOutOfBoundsException")] := by decide +kernel
theorem xhat1 {s : State} {args : Array Value} (ht : ∀ w ∈ AW, w.before args s = true) (h : SR s) : ∀ w ∈ vx_atS RX6 150 "java/lang/IndexOutOfBoundsException" ["java/lang/RuntimeException", "java/lang/Exception"], w.before args s = true :=
  vx_hat (fun w hw => ht w (xat1 w hw)) (fun w hw => by rw [xno1] at hw; exact hw) (vx_c (va_Nw.use rfl h.1) (vx_c (va_Nw.use rfl h.2.1) (vx_c (va_Nw.use rfl h.2.2.1) (vx_c (va_Nw.use rfl h.2.2.2.1) vx_n))))
theorem xot1 : ∀ w ∈ Cond.classLink RX6 146 "java/lang/IndexOutOfBoundsException" :: Cond.initialized "java/lang/IndexOutOfBoundsException" :: vx_atS RX6 150 "java/lang/IndexOutOfBoundsException" ["java/lang/RuntimeException", "java/lang/Exception"], vx_ot w = true := by decide +kernel
theorem xat2 : ∀ w ∈ (vx_atS RX6 95 "java/lang/IllegalArgumentException" ["java/lang/RuntimeException", "java/lang/Exception"]).filter goodWord, w ∈ AW := by
  have h : ∀ w ∈ (vx_atS RX6 95 "java/lang/IllegalArgumentException" ["java/lang/RuntimeException", "java/lang/Exception"]).filter goodWord, w ∈ lw_tbl := by decide +kernel
  exact fun w hw => AW_of (h w hw) (List.mem_filter.mp hw).2
theorem xno2 : (vx_atS RX6 95 "java/lang/IllegalArgumentException" ["java/lang/RuntimeException", "java/lang/Exception"]).filter (fun w => !goodWord w) = [(.declares ⟨"java/lang/RuntimeException", "<init>", "(Ljava/lang/String;)V"⟩), (.declares ⟨"java/lang/Exception", "<init>", "(Ljava/lang/String;)V"⟩), (.declares ⟨"java/lang/Throwable", "<init>", "(Ljava/lang/String;)V"⟩), (.castable "java/lang/IllegalArgumentException" "java/lang/IllegalArgumentException")] := by decide +kernel
theorem xhat2 {s : State} {args : Array Value} (ht : ∀ w ∈ AW, w.before args s = true) (h : SR s) : ∀ w ∈ vx_atS RX6 95 "java/lang/IllegalArgumentException" ["java/lang/RuntimeException", "java/lang/Exception"], w.before args s = true :=
  vx_hat (fun w hw => ht w (xat2 w hw)) (fun w hw => by rw [xno2] at hw; exact hw) (vx_c (va_Nw.use rfl h.1) (vx_c (va_Nw.use rfl h.2.1) (vx_c (va_Nw.use rfl h.2.2.1) (vx_c (va_Nw.use rfl h.2.2.2.2.1) vx_n))))
theorem xot2 : ∀ w ∈ Cond.classLink RX6 91 "java/lang/IllegalArgumentException" :: Cond.initialized "java/lang/IllegalArgumentException" :: vx_atS RX6 95 "java/lang/IllegalArgumentException" ["java/lang/RuntimeException", "java/lang/Exception"], vx_ot w = true := by decide +kernel
theorem xat3 : ∀ w ∈ (vx_atS RX6 81 "java/lang/IllegalStateException" ["java/lang/RuntimeException", "java/lang/Exception"]).filter goodWord, w ∈ AW := by
  have h : ∀ w ∈ (vx_atS RX6 81 "java/lang/IllegalStateException" ["java/lang/RuntimeException", "java/lang/Exception"]).filter goodWord, w ∈ lw_tbl := by decide +kernel
  exact fun w hw => AW_of (h w hw) (List.mem_filter.mp hw).2
theorem xno3 : (vx_atS RX6 81 "java/lang/IllegalStateException" ["java/lang/RuntimeException", "java/lang/Exception"]).filter (fun w => !goodWord w) = [(.declares ⟨"java/lang/RuntimeException", "<init>", "(Ljava/lang/String;)V"⟩), (.declares ⟨"java/lang/Exception", "<init>", "(Ljava/lang/String;)V"⟩), (.declares ⟨"java/lang/Throwable", "<init>", "(Ljava/lang/String;)V"⟩), (.castable "java/lang/IllegalStateException" "java/lang/IllegalStateException")] := by decide +kernel
theorem xhat3 {s : State} {args : Array Value} (ht : ∀ w ∈ AW, w.before args s = true) (h : SR s) : ∀ w ∈ vx_atS RX6 81 "java/lang/IllegalStateException" ["java/lang/RuntimeException", "java/lang/Exception"], w.before args s = true :=
  vx_hat (fun w hw => ht w (xat3 w hw)) (fun w hw => by rw [xno3] at hw; exact hw) (vx_c (va_Nw.use rfl h.1) (vx_c (va_Nw.use rfl h.2.1) (vx_c (va_Nw.use rfl h.2.2.1) (vx_c (va_Nw.use rfl h.2.2.2.2.2.1) vx_n))))
theorem xot3 : ∀ w ∈ Cond.classLink RX6 77 "java/lang/IllegalStateException" :: Cond.initialized "java/lang/IllegalStateException" :: vx_atS RX6 81 "java/lang/IllegalStateException" ["java/lang/RuntimeException", "java/lang/Exception"], vx_ot w = true := by decide +kernel
section XX
variable {p : Program} {l : Launch} {e : Env} {R : Room} {s : State} {m : MethodId} {args : Array Value} {below : List Frame} {meth : Method} {c : Code} {nL : Nat} {G : gT} {A : Nat → Prop} {Q : State → Prop} {k n pc : Nat} {lv : List (Nat × Value)} {st : List Value} {x : xS} {cc : ByteArray} {own : String} {ret : Option FieldType}
variable {Qc : Array Value → State → Outcome → State → Prop} {bad : Nat → Prop} {mc : Nat}
theorem b_thr1 (C : CT p s m args meth c cc nL RX6 ret G (pA G s.heap.size)) (X : XT l c (pA G s.heap.size) s) {is : Nat} {text : String} (hq1 : Cond.classLink RX6 146 "java/lang/IndexOutOfBoundsException" ∈ AW) (hq2 : Cond.initialized "java/lang/IndexOutOfBoundsException" ∈ AW) (hstr : ∃ a, vk_R RX6 is text a s) (hbad : bad 1) (d0 : decode cc pc = .ok (.new 146, 3)) (d3 : decode cc (pc + 3) = .ok (.dup, 1)) (d4 : decode cc (pc + 4) = .ok (.ldc is, 2)) (d6 : decode cc (pc + 6) = .ok (.invokespecial 150, 3)) (d9 : decode cc (pc + 9) = .ok (.athrow, 1)) (hR : 6 ≤ R.frames ∧ 82 ≤ R.locals) (hkn : k + 1 ≤ R.cells ∧ n + 6 ≤ R.slots) (hmc : k + 1 ≤ mc ∧ n + 6 ≤ 6 * mc) : WB p l e R s m args below meth c nL G (pA G s.heap.size) (vx_MQ below Qc (xC G x bad (pA G s.heap.size)) args s mc (6 * mc) (pA G s.heap.size)) k n pc lv [] x := by
  intro H locs ls h1 h2 h3
  obtain ⟨sa, hsa⟩ := hstr
  refine vx_throwS (names := ["java/lang/RuntimeException", "java/lang/Exception"]) (sa := sa) C.hx C.b X.1 C.ow (by decide +kernel) (by decide +kernel) (C.ts _ hq1) (C.ts _ hq2) hsa (xhat1 C.ts X.2.2.2.2) xot1 X.2.2.1 X.2.2.2.1 h3 (h1.1.trans C.ml.symm) d0 d3 d4 d6 d9 (fun z hz => (X.2.1 z hz).elim) hR.1 hR.2 hkn.1 hkn.2 C.lk ?_ h3.2.2 hmc.1 hmc.2
  intro t ht hz hk
  refine ⟨1, hbad, ⟨rfl, h2.kept (fun q e hq => hk _ (h2 q e hq).lt), va_K.moved ht C.K, C.D.1⟩, Nat.le_trans h3.1 hz, fun q hq hA => ?_⟩
  rw [hk q (Nat.lt_of_lt_of_le hq h3.1)]
  exact h3.2.1 q hq hA
theorem b_thr2 (C : CT p s m args meth c cc nL RX6 ret G (pA G s.heap.size)) (X : XT l c (pA G s.heap.size) s) {is : Nat} {text : String} (hq1 : Cond.classLink RX6 91 "java/lang/IllegalArgumentException" ∈ AW) (hq2 : Cond.initialized "java/lang/IllegalArgumentException" ∈ AW) (hstr : ∃ a, vk_R RX6 is text a s) (hbad : bad 2) (d0 : decode cc pc = .ok (.new 91, 3)) (d3 : decode cc (pc + 3) = .ok (.dup, 1)) (d4 : decode cc (pc + 4) = .ok (.ldc is, 2)) (d6 : decode cc (pc + 6) = .ok (.invokespecial 95, 3)) (d9 : decode cc (pc + 9) = .ok (.athrow, 1)) (hR : 6 ≤ R.frames ∧ 82 ≤ R.locals) (hkn : k + 1 ≤ R.cells ∧ n + 6 ≤ R.slots) (hmc : k + 1 ≤ mc ∧ n + 6 ≤ 6 * mc) : WB p l e R s m args below meth c nL G (pA G s.heap.size) (vx_MQ below Qc (xC G x bad (pA G s.heap.size)) args s mc (6 * mc) (pA G s.heap.size)) k n pc lv [] x := by
  intro H locs ls h1 h2 h3
  obtain ⟨sa, hsa⟩ := hstr
  refine vx_throwS (names := ["java/lang/RuntimeException", "java/lang/Exception"]) (sa := sa) C.hx C.b X.1 C.ow (by decide +kernel) (by decide +kernel) (C.ts _ hq1) (C.ts _ hq2) hsa (xhat2 C.ts X.2.2.2.2) xot2 X.2.2.1 X.2.2.2.1 h3 (h1.1.trans C.ml.symm) d0 d3 d4 d6 d9 (fun z hz => (X.2.1 z hz).elim) hR.1 hR.2 hkn.1 hkn.2 C.lk ?_ h3.2.2 hmc.1 hmc.2
  intro t ht hz hk
  refine ⟨2, hbad, ⟨rfl, h2.kept (fun q e hq => hk _ (h2 q e hq).lt), va_K.moved ht C.K, C.D.1⟩, Nat.le_trans h3.1 hz, fun q hq hA => ?_⟩
  rw [hk q (Nat.lt_of_lt_of_le hq h3.1)]
  exact h3.2.1 q hq hA
theorem b_thr3 (C : CT p s m args meth c cc nL RX6 ret G (pA G s.heap.size)) (X : XT l c (pA G s.heap.size) s) {is : Nat} {text : String} (hq1 : Cond.classLink RX6 77 "java/lang/IllegalStateException" ∈ AW) (hq2 : Cond.initialized "java/lang/IllegalStateException" ∈ AW) (hstr : ∃ a, vk_R RX6 is text a s) (hbad : bad 3) (d0 : decode cc pc = .ok (.new 77, 3)) (d3 : decode cc (pc + 3) = .ok (.dup, 1)) (d4 : decode cc (pc + 4) = .ok (.ldc is, 2)) (d6 : decode cc (pc + 6) = .ok (.invokespecial 81, 3)) (d9 : decode cc (pc + 9) = .ok (.athrow, 1)) (hR : 6 ≤ R.frames ∧ 82 ≤ R.locals) (hkn : k + 1 ≤ R.cells ∧ n + 6 ≤ R.slots) (hmc : k + 1 ≤ mc ∧ n + 6 ≤ 6 * mc) : WB p l e R s m args below meth c nL G (pA G s.heap.size) (vx_MQ below Qc (xC G x bad (pA G s.heap.size)) args s mc (6 * mc) (pA G s.heap.size)) k n pc lv [] x := by
  intro H locs ls h1 h2 h3
  obtain ⟨sa, hsa⟩ := hstr
  refine vx_throwS (names := ["java/lang/RuntimeException", "java/lang/Exception"]) (sa := sa) C.hx C.b X.1 C.ow (by decide +kernel) (by decide +kernel) (C.ts _ hq1) (C.ts _ hq2) hsa (xhat3 C.ts X.2.2.2.2) xot3 X.2.2.1 X.2.2.2.1 h3 (h1.1.trans C.ml.symm) d0 d3 d4 d6 d9 (fun z hz => (X.2.1 z hz).elim) hR.1 hR.2 hkn.1 hkn.2 C.lk ?_ h3.2.2 hmc.1 hmc.2
  intro t ht hz hk
  refine ⟨3, hbad, ⟨rfl, h2.kept (fun q e hq => hk _ (h2 q e hq).lt), va_K.moved ht C.K, C.D.1⟩, Nat.le_trans h3.1 hz, fun q hq hA => ?_⟩
  rw [hk q (Nat.lt_of_lt_of_le hq h3.1)]
  exact h3.2.1 q hq hA
theorem b_xiret (C : CT p s m args meth c cc nL own (some .int) G (pA G s.heap.size)) {v : Int32} {x0 : xS} {res : Sum Nat (Int32 × xS)} (hd : decode cc pc = .ok (.ireturn, 1)) (hf : some (Sum.inr (v, x)) = some res) (hmc : k ≤ mc ∧ n ≤ 6 * mc) : WB p l e R s m args below meth c nL G (pA G s.heap.size) (qxI below G x0 res args s mc) k n pc lv [.int v] x := fun H locs ls h1 h2 h3 =>
  W.widen hmc.1 hmc.2 (vx_ret (W.iret C.hx C.b C.r (fun t ht hW => ⟨⟨v, x, rfl, (Option.some.inj hf).symm, PW_end C h2 ht hW⟩, h3.F ht⟩) h3.2.2 hd C.lk))
theorem b_xvret (C : CT p s m args meth c cc nL own none G (pA G s.heap.size)) {x0 : xS} {res : Sum Nat xS} (hd : decode cc pc = .ok (.return_, 1)) (hf : some (Sum.inr x) = some res) (hmc : k ≤ mc ∧ n ≤ 6 * mc) : WB p l e R s m args below meth c nL G (pA G s.heap.size) (qxV below G x0 res args s mc) k n pc lv [] x := fun H locs ls h1 h2 h3 =>
  W.widen hmc.1 hmc.2 (vx_ret (W.vret C.hx C.b C.r (fun t ht hW => ⟨⟨x, rfl, (Option.some.inj hf).symm, PW_end C h2 ht hW⟩, h3.F ht⟩) h3.2.2 hd C.lk))
theorem fb_pcX {as : List Value} {sz : Nat} : FrameBlind (PcX as G x sz) := fun a U g mk q => ⟨q.1, q.2.1, q.2.2.1.blind g mk a, q.2.2.2.blind g mk a⟩
theorem b_preSX {H : Heap} {locs : List Loc} (C : CT p s m args meth c cc nL own ret G A) (T : TW A s s.heap) (h2 : va_P G.1 vwCl (wl G x) H) (h3 : va_S A s.heap H locs) (as : List Value) : PreS s H (PcX as G x H.size) as := ⟨fb_pcX, fun U hU hW => ⟨rfl, by rw [hU], ⟨by rw [hU]; exact h2, va_K.moved hW.alike C.K, C.D.1, C.nw.warm hW⟩, T.go h3 hW hU (fun q hq => C.pA h3.1 q hq)⟩⟩
theorem b_preVX {H : Heap} {locs : List Loc} (C : CT p s m args meth c cc nL own ret G A) (T : TW A s s.heap) (h2 : va_P G.1 vwCl (wl G x) H) (h3 : va_S A s.heap H locs) {i K N : Nat} {Cn : String} {T9 : u_T} (hk : KD G i K) (hK : K < 8) (hc : vwCl[K]? = some (Cn, T9, N)) (as : List Value) : PreV s H Cn (G.2.2 i) (PcX (.ref (G.2.2 i) :: as) G x H.size) as :=
  ⟨fb_pcX, (by obtain ⟨k0, hk0, hk1⟩ := wl_get G x hk.1; exact va_recv C.K h2 hc (q0 := k0) (by rw [hk1, gE_obj hk.2 hK])), fun U hU hW => ⟨rfl, by rw [hU], ⟨by rw [hU]; exact h2, va_K.moved hW.alike C.K, C.D.1, C.nw.warm hW⟩, T.go h3 hW hU (fun q hq => C.pA h3.1 q hq)⟩⟩
/-- a call of a check: what it throws goes on to the caller -/
theorem b_xcSv (C : CT p s m args meth c cc nL own ret G (pA G s.heap.size)) (X : XT l c (pA G s.heap.size) s) {idx nl na mc1 : Nat} {y : MethodName} {b : ByteArray} {rm : Room} {As stk : List Value} {res : Sum Nat xS} (h : xV l y b nl rm mc1 As G x res) (hg : GoodIn AW (va_wsS own idx y (ws_ y b nl none))) (hd1 : y.cls ≠ "java/lang/invoke/MethodHandle" ∧ y.cls ≠ "java/lang/invoke/VarHandle" ∧ (parseMethodDescriptor y.desc).map (fun d => d.parameters.length) = some na) (hna : As.length = na) (hrm : rm.cells = mc1 ∧ rm.slots = 6 * mc1) (hR : rm.frames + 1 ≤ R.frames ∧ 8 + (nl + 11) + rm.locals ≤ R.locals) (hst : (st.map fun v => v.category).sum ≤ 8) (hkn : k + mc1 ≤ R.cells ∧ n + 6 * mc1 ≤ R.slots) (hmc : k + mc1 ≤ mc ∧ n + 6 * mc1 ≤ 6 * mc) (hstk : stk = As.reverse ++ st) (hd : decode cc pc = .ok (.invokestatic idx, 3)) (kx : ∀ j, res = .inl j → bad j)
    (kk : ∀ u, res = .inr u → WB p l e R s m args below meth c nL G (pA G s.heap.size) (vx_MQ below Qc (xC G x bad (pA G s.heap.size)) args s mc (6 * mc) (pA G s.heap.size)) (k + mc1) (n + 6 * mc1) (pc + 3) lv st u) : WB p l e R s m args below meth c nL G (pA G s.heap.size) (vx_MQ below Qc (xC G x bad (pA G s.heap.size)) args s mc (6 * mc) (pA G s.heap.size)) k n pc lv stk x := by
  intro H locs ls h1 h2 h3
  subst hstk
  refine vx_callv (vx_runS (As := As) (rest := st) C.fix (h H.size) (va_cwS na C.ts hg rfl hrm.1 hrm.2 hd1 hR) (b_preSX C X.2.2 h2 h3 As) rfl hna h1.1 rfl (by simpa using hst) hd hkn) h3 (fun q _ hq => C.pA h3.1 q hq) (fun q hq => C.pA h3.1 q hq) (fun q _ hq => C.pA h3.1 q hq) ?_ ?_
  · intro E ce q9 j t H1 locs1 ht hvm hp hB hz hk1 hS hce hcv hcl
    refine vx_out (fun z hz => (X.2.1 z hz).elim) C.lk hce hcv hcl (fun t2 ht2 hv2 => ?_) hS.2.2 hmc.1 hmc.2
    exact ⟨j, kx j hp, ⟨hB.1, by rw [ht2, ← ht]; exact hB.2.1, va_K.moved hv2 C.K, C.D.1⟩, by rw [ht2]; exact hS.1, fun q hq hA => by rw [ht2]; exact hS.2.1 q hq hA⟩
  · intro u t H1 locs1 ht hvm hp hB hz hk1 hS
    exact kk u hp H1 locs1 ls h1 (by rw [← ht]; exact hB.1) hS
theorem b_bodyX {y : MethodName} {b : ByteArray} {nl : Nat} {r : Option FieldType} {rm : Room} {as : List Value} {lv0 : List (Nat × Value)} {Qc : Nat → Array Value → State → Outcome → State → Prop} {XC : Nat → String → State → State → Prop} (hy : plainName y.cls = true) (hl : l.stackTraces = false) (hsl : (lg_sl as).length ≤ nl) (hlv : lv_args 0 as = lv0)
    (body : ∀ (p : Program) (e : Env) (s : State) (m : MethodId) (args : Array Value) (below : List Frame) (meth : Method) (c : Code), CT p s m args meth c b nl y.cls r G (pA G s.heap.size) → XT l c (pA G s.heap.size) s → WB p l e rm s m args below meth c nl G (pA G s.heap.size) (vx_MQ below (Qc s.heap.size) (XC s.heap.size) args s mc (6 * mc) (pA G s.heap.size)) 0 0 0 lv0 [] x) :
    ∀ sz, vx_Met l y (ws_ y b nl r) rm (PcX as G x sz) (Qc sz) (XC sz) mc (6 * mc) (pA G sz) := by
  intro sz
  refine vx_ofW (cc := b) (maxL := nl) (ret := r) hy rfl ?_
  intro p e s m args below meth c s₁ B hml htab hv
  obtain ⟨rfl, hsz, ⟨hP, hK, hJ, hN⟩, hT⟩ := hv
  subst hsz
  have hts := atoms_spec (ws := ws_ y b nl r) B.pre
  have C : CT p s m as.toArray meth c b nl y.cls r G (pA G s.heap.size) := ⟨B.exec, B.bytes, hml, findClass_of_methodNamed B.named, fun w hw => hts w (List.mem_cons_of_mem _ hw), hK, ⟨hJ, fun i hi => Or.inl ⟨i, hi, rfl⟩⟩, fun q hq => Or.inr hq, B.returns, B.notSynchronized, hN⟩
  have hl9 := lv_entry as (n := nl) hsl
  rw [lg_entry_eq]
  rw [hlv] at hl9
  exact body p e s m as.toArray below meth c C ⟨hl, htab, hT⟩ s.heap [] _ hl9 hP va_S.rf

/-! the law's wrappers: a static method with a table of handlers; it throws nothing -/
def wsW (y : MethodName) (b : ByteArray) (n : Nat) (r : Option FieldType) (hh : List (Nat × Nat × Nat × Nat)) : List Cond := Cond.codeWith y b n r hh :: AW
def cW (l : Launch) (y : MethodName) (b : ByteArray) (nl : Nat) (hh : List (Nat × Nat × Nat × Nat)) (rm : Room) (mc : Nat) (as : List Value) (G : gT) (x : xS) (res : Int32 × xS) : Prop := ∀ sz, Met l y (wsW y b nl (some .int) hh) rm (PcX as G x sz) (va_Qi (fun v u => res = (v, u)) (fun u t => PW G u t) (pA G sz)) mc (6 * mc) (pA G sz)
/-- .. and what its body has besides -/
def XW (l : Launch) (c : Code) (A : Nat → Prop) (s : State) (hh : List (Nat × Nat × Nat × Nat)) : Prop := l.stackTraces = false ∧ c.exceptionTable.toList = tableOf hh ∧ TW A s s.heap
theorem b_bodyW {y : MethodName} {b : ByteArray} {nl : Nat} {hh : List (Nat × Nat × Nat × Nat)} {rm : Room} {as : List Value} {lv0 : List (Nat × Value)} {Qc : Nat → Array Value → State → Outcome → State → Prop} (hy : plainName y.cls = true) (hl : l.stackTraces = false) (hsl : (lg_sl as).length ≤ nl) (hlv : lv_args 0 as = lv0)
    (body : ∀ (p : Program) (e : Env) (s : State) (m : MethodId) (args : Array Value) (below : List Frame) (meth : Method) (c : Code), CT p s m args meth c b nl y.cls (some .int) G (pA G s.heap.size) → XW l c (pA G s.heap.size) s hh → WB p l e rm s m args below meth c nl G (pA G s.heap.size) (MQ below (Qc s.heap.size) args s mc (6 * mc) (pA G s.heap.size)) 0 0 0 lv0 [] x) :
    ∀ sz, Met l y (wsW y b nl (some .int) hh) rm (PcX as G x sz) (Qc sz) mc (6 * mc) (pA G sz) := by
  intro sz
  refine va_MetW (cc := b) (maxL := nl) (ret := some .int) (hh := hh) hy rfl ?_
  intro p e s m args below meth c s₁ B hml hv
  obtain ⟨rfl, hsz, ⟨hP, hK, hJ, hN⟩, hT⟩ := hv
  subst hsz
  have hts := atoms_spec (ws := wsW y b nl (some .int) hh) B.pre
  have C : CT p s m as.toArray meth c b nl y.cls (some .int) G (pA G s.heap.size) := ⟨B.exec, B.bytes, hml, findClass_of_methodNamed B.named, fun w hw => hts w (List.mem_cons_of_mem _ hw), hK, ⟨hJ, fun i hi => Or.inl ⟨i, hi, rfl⟩⟩, fun q hq => Or.inr hq, B.returns, B.notSynchronized, hN⟩
  have hl9 := lv_entry as (n := nl) hsl
  rw [lg_entry_eq]
  rw [hlv] at hl9
  exact body p e s m as.toArray below meth c C ⟨hl, vx_table (x := y) B (hts _ List.mem_cons_self), hT⟩ s.heap [] _ hl9 hP va_S.rf
/-- thrown at pc: the class by its number -/
def WX (p : Program) (l : Launch) (e : Env) (R : Room) (s : State) (m : MethodId) (args : Array Value) (below : List Frame) (meth : Method) (c : Code) (nL : Nat) (G : gT) (A : Nat → Prop) (Q : State → Prop) (k n pc : Nat) (lv : List (Nat × Value)) (st : List Value) (x : xS) (j : Nat) : Prop :=
  ∀ (H : Heap) (locs : List Loc) (ls : Array Slot) (q : Nat) (ce : Cell), lv_has ls nL lv → va_P G.1 vwCl (wl G x) H → va_S A s.heap H locs → H[q]? = some ce → ce.vm = .none → s.vm.findClass (exN j) = some ce.cls → vx_W p l e R s m args below meth c H locs k n Q (F0 m pc ls st) q
theorem b_catch0 (C : CT p s m args meth c cc nL RL ret G A) {hh : List (Nat × Nat × Nat × Nat)} (X : XW l c A s hh) {j a b h t : Nat} {suf : List (Nat × Nat × Nat × Nat)} (hj : 1 ≤ j ∧ j ≤ 3) (hhh : hh = (a, b, h, t) :: suf) (hcov : covers ⟨a, b, h, t⟩ pc = true) (ht : t ≠ 0) (hlink : Cond.classLink RL t (exN j) ∈ AW) (kk : ∀ q : Nat, WB p l e R s m args below meth c nL G A Q k n h lv [.ref q] x) : WX p l e R s m args below meth c nL G A Q k n pc lv st x j := by
  intro H locs ls q ce h1 h2 h3 g1 g2 g3
  subst hhh
  exact vx_catch C.ow [] ⟨a, b, h, t⟩ (tableOf suf) X.2.1 (fun z hz => nomatch hz) hcov ht (C.ts _ hlink) (va_Nw.use rfl (X.2.2.2.2.c j hj.1 hj.2)) g1 g2 g3 (kk q H locs ls h1 h2 h3)
theorem b_catch1 (C : CT p s m args meth c cc nL RL ret G A) {hh : List (Nat × Nat × Nat × Nat)} (X : XW l c A s hh) {j j0 a b h t a0 b0 h0 t0 : Nat} {suf : List (Nat × Nat × Nat × Nat)} (hj : 1 ≤ j ∧ j ≤ 3) (hhh : hh = (a0, b0, h0, t0) :: (a, b, h, t) :: suf) (hcov : covers ⟨a, b, h, t⟩ pc = true) (ht : t ≠ 0) (ht0 : t0 ≠ 0) (hlink : Cond.classLink RL t (exN j) ∈ AW) (hlink0 : Cond.classLink RL t0 (exN j0) ∈ AW) (hn : va_Nc (exN j) (exN j0) s) (kk : ∀ q : Nat, WB p l e R s m args below meth c nL G A Q k n h lv [.ref q] x) : WX p l e R s m args below meth c nL G A Q k n pc lv st x j := by
  intro H locs ls q ce h1 h2 h3 g1 g2 g3
  subst hhh
  exact vx_catch C.ow [⟨a0, b0, h0, t0⟩] ⟨a, b, h, t⟩ (tableOf suf) X.2.1 (fun z hz => by
    rcases List.mem_singleton.mp hz with rfl
    exact Or.inr ⟨ht0, _, C.ts _ hlink0, hn⟩) hcov ht (C.ts _ hlink) (va_Nw.use rfl (X.2.2.2.2.c j hj.1 hj.2)) g1 g2 g3 (kk q H locs ls h1 h2 h3)
theorem b_catch2 (C : CT p s m args meth c cc nL RL ret G A) {hh : List (Nat × Nat × Nat × Nat)} (X : XW l c A s hh) {j j0 j1 a b h t a0 b0 h0 t0 a1 b1 h1 t1 : Nat} {suf : List (Nat × Nat × Nat × Nat)} (hj : 1 ≤ j ∧ j ≤ 3) (hhh : hh = (a0, b0, h0, t0) :: (a1, b1, h1, t1) :: (a, b, h, t) :: suf) (hcov : covers ⟨a, b, h, t⟩ pc = true) (ht : t ≠ 0) (ht0 : t0 ≠ 0) (ht1 : t1 ≠ 0) (hlink : Cond.classLink RL t (exN j) ∈ AW) (hlink0 : Cond.classLink RL t0 (exN j0) ∈ AW) (hlink1 : Cond.classLink RL t1 (exN j1) ∈ AW) (hn : va_Nc (exN j) (exN j0) s) (hn1 : va_Nc (exN j) (exN j1) s) (kk : ∀ q : Nat, WB p l e R s m args below meth c nL G A Q k n h lv [.ref q] x) : WX p l e R s m args below meth c nL G A Q k n pc lv st x j := by
  intro H locs ls q ce g1 g2 g3 g4 g5 g6
  subst hhh
  exact vx_catch C.ow [⟨a0, b0, h0, t0⟩, ⟨a1, b1, h1, t1⟩] ⟨a, b, h, t⟩ (tableOf suf) X.2.1 (fun z hz => by
    rcases List.mem_cons.mp hz with rfl | hz
    · exact Or.inr ⟨ht0, _, C.ts _ hlink0, hn⟩
    · rcases List.mem_singleton.mp hz with rfl
      exact Or.inr ⟨ht1, _, C.ts _ hlink1, hn1⟩) hcov ht (C.ts _ hlink) (va_Nw.use rfl (X.2.2.2.2.c j hj.1 hj.2)) g4 g5 g6 (kk q H locs ls g1 g2 g3)
theorem b_xcVi (C : CT p s m args meth c cc nL own ret G A) (T : TW A s s.heap) {i K N idx nl na mc1 : Nat} {Cn : String} {T9 : u_T} {y : MethodName} {b : ByteArray} {r : FieldType} {rm : Room} {As stk : List Value} {res : Sum Nat (Int32 × xS)} (h : xI l y b nl r rm mc1 (.ref (G.2.2 i) :: As) G x res) (hk : KD G i K) (hK : K < 8) (hc : vwCl[K]? = some (Cn, T9, N)) (hg : GoodIn AW (wsV own idx Cn y (ws_ y b nl (some r)))) (hd1 : y.cls = Cn ∧ y.cls ≠ "java/lang/invoke/MethodHandle" ∧ y.cls ≠ "java/lang/invoke/VarHandle" ∧ (parseMethodDescriptor y.desc).map (fun d => d.parameters.length) = some na) (hna : As.length = na) (hrm : rm.cells = mc1 ∧ rm.slots = 6 * mc1) (hR : rm.frames + 1 ≤ R.frames ∧ 8 + (nl + 11) + rm.locals ≤ R.locals) (hst : (st.map fun v => v.category).sum ≤ 8) (hkn : k + mc1 ≤ R.cells ∧ n + 6 * mc1 ≤ R.slots) (hstk : stk = As.reverse ++ .ref (G.2.2 i) :: st) (hd : decode cc pc = .ok (.invokevirtual idx, 3)) (kx : ∀ j, res = .inl j → WX p l e R s m args below meth c nL G A Q (k + mc1) (n + 6 * mc1) pc lv st x j)
    (kk : ∀ v u, res = .inr (v, u) → WB p l e R s m args below meth c nL G A Q (k + mc1) (n + 6 * mc1) (pc + 3) lv (.int v :: st) u) : WB p l e R s m args below meth c nL G A Q k n pc lv stk x := by
  intro H locs ls h1 h2 h3
  subst hstk
  refine vx_calli (vx_runV (As := As) (rest := st) C.fix (h H.size) (cwV na C.ts hg rfl hrm.1 hrm.2 hd1 hR) (b_preVX C T h2 h3 hk hK hc As) rfl hna h1.1 rfl (by simpa using hst) hd hkn) h3 (fun q _ hq => C.pA h3.1 q hq) (fun q hq => C.pA h3.1 q hq) (fun q _ hq => C.pA h3.1 q hq) ?_ ?_
  · intro E ce q9 j t H1 locs1 ht hvm hp hB hz hk1 hS hce hcv hcl
    obtain ⟨rfl, hB2⟩ := hB
    exact kx j hp H1 locs1 ls q9 ce h1 (by rw [← ht]; exact hB2.1) hS hce hcv hcl
  · intro v u t H1 locs1 ht hvm hp hB hz hk1 hS
    exact kk v u hp H1 locs1 ls h1 (by rw [← ht]; exact hB.1) hS
theorem b_wiret (C : CT p s m args meth c cc nL own (some .int) G (pA G s.heap.size)) {v : Int32} {res : Int32 × xS} (hd : decode cc pc = .ok (.ireturn, 1)) (hf : some (v, x) = some res) (hmc : k ≤ mc ∧ n ≤ 6 * mc) : WB p l e R s m args below meth c nL G (pA G s.heap.size) (MQ below (va_Qi (fun v u => res = (v, u)) (fun u t => PW G u t) (pA G s.heap.size)) args s mc (6 * mc) (pA G s.heap.size)) k n pc lv [.int v] x := fun H locs ls h1 h2 h3 =>
  W.widen hmc.1 hmc.2 (W.iret C.hx C.b C.r (fun t ht hW => ⟨⟨v, x, rfl, (Option.some.inj hf).symm, PW_end C h2 ht hW⟩, h3.F ht⟩) h3.2.2 hd C.lk)
end XX
