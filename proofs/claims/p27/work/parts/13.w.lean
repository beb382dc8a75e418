theorem gw_SW {own : String} {idx : Nat} {y : MethodName} {b : ByteArray} {n : Nat} {r : Option FieldType} {hh : List (Nat × Nat × Nat × Nat)} (h1 : Cond.methodLink own idx y ∈ AW) (h2 : Cond.static y ∈ AW) (h3 : Cond.initialized y.cls ∈ AW) (h4 : Cond.codeWith y b n r hh ∈ AW) : GoodIn AW (va_wsS own idx y (wsW y b n r hh)) := by
  intro w hw
  rcases List.mem_append.mp hw with hw | hw
  · simp only [List.mem_cons, List.not_mem_nil, or_false] at hw
    rcases hw with rfl | rfl | rfl
    · exact AW_good _ h1
    · exact AW_good _ h2
    · exact AW_good _ h3
  · rcases List.mem_cons.mp hw with rfl | hw
    · exact AW_good _ h4
    · exact AW_good _ hw
theorem gkL_47 : GoodIn AW (va_wsS RL 47 yL_changes (wsW yL_changes cL_changes 6 (some .int) [(0, 61, 64, 14), (0, 61, 68, 16), (0, 61, 72, 36)])) := gw_SW w_387 w_388 w_283 w_363
theorem ekL_47 : yL_changes.cls ≠ "java/lang/invoke/MethodHandle" ∧ yL_changes.cls ≠ "java/lang/invoke/VarHandle" ∧ (parseMethodDescriptor yL_changes.desc).map (fun d => d.parameters.length) = some 5 := by decide +kernel
theorem gkL_43 : GoodIn AW (va_wsS RL 43 yL_asks (wsW yL_asks cL_asks 6 (some .int) [(0, 11, 14, 14), (0, 11, 18, 16)])) := gw_SW w_389 w_390 w_283 w_361
theorem ekL_43 : yL_asks.cls ≠ "java/lang/invoke/MethodHandle" ∧ yL_asks.cls ≠ "java/lang/invoke/VarHandle" ∧ (parseMethodDescriptor yL_asks.desc).map (fun d => d.parameters.length) = some 5 := by decide +kernel
def cA (l : Launch) (y : MethodName) (b : ByteArray) (nl : Nat) (rm : Room) (mc : Nat) (as : List Value) (G : gT) (x : xS) (res : Int32 × xS) : Prop := ∀ sz, Met l y (ws_ y b nl (some .int)) rm (PcX as G x sz) (va_Qi (fun v u => res = (v, u)) (fun u t => PW G u t) (pA G sz)) mc (6 * mc) (pA G sz)
section
variable {p : Program} {l : Launch} {e : Env} {R : Room} {s : State} {m : MethodId} {args : Array Value} {below : List Frame} {meth : Method} {c : Code} {nL : Nat} {G : gT} {A : Nat → Prop} {Q : State → Prop} {k n pc : Nat} {lv : List (Nat × Value)} {st : List Value} {x : xS} {cc : ByteArray} {own : String} {ret : Option FieldType} {mc : Nat}
theorem b_callW (C : CT p s m args meth c cc nL own ret G A) (T : TW A s s.heap) {idx nl na mc1 : Nat} {y : MethodName} {b : ByteArray} {hh : List (Nat × Nat × Nat × Nat)} {rm : Room} {As stk : List Value} {res : Int32 × xS} (h : cW l y b nl hh rm mc1 As G x res) (hg : GoodIn AW (va_wsS own idx y (wsW y b nl (some .int) hh))) (hd1 : y.cls ≠ "java/lang/invoke/MethodHandle" ∧ y.cls ≠ "java/lang/invoke/VarHandle" ∧ (parseMethodDescriptor y.desc).map (fun d => d.parameters.length) = some na) (hna : As.length = na) (hrm : rm.cells = mc1 ∧ rm.slots = 6 * mc1) (hR : rm.frames + 1 ≤ R.frames ∧ 8 + (nl + 11) + rm.locals ≤ R.locals) (hst : (st.map fun v => v.category).sum ≤ 8) (hkn : k + mc1 ≤ R.cells ∧ n + 6 * mc1 ≤ R.slots) (hstk : stk = As.reverse ++ st) (hd : decode cc pc = .ok (.invokestatic idx, 3)) (kk : WB p l e R s m args below meth c nL G A Q (k + mc1) (n + 6 * mc1) (pc + 3) lv (.int res.1 :: st) res.2) : WB p l e R s m args below meth c nL G A Q k n pc lv stk x := by
  intro H locs ls h1 h2 h3
  subst hstk
  refine va_calli (vx_runSW (As := As) (rest := st) C.fix (h H.size) (vx_cwSW na C.ts hg rfl hrm.1 hrm.2 hd1 hR) (b_preSX C T h2 h3 As) rfl hna h1.1 rfl (by simpa using hst) hd hkn) h3 (fun q _ hq => C.pA h3.1 q hq) (fun q hq => C.pA h3.1 q hq) ?_
  intro v u t H1 locs1 ht hvm hp hB hz hk1 hS
  subst hp
  exact kk H1 locs1 ls h1 (by rw [← ht]; exact hB.1) hS
theorem b_callA (C : CT p s m args meth c cc nL own ret G A) (T : TW A s s.heap) {idx nl na mc1 : Nat} {y : MethodName} {b : ByteArray} {rm : Room} {As stk : List Value} {res : Int32 × xS} (h : cA l y b nl rm mc1 As G x res) (hg : GoodIn AW (va_wsS own idx y (ws_ y b nl (some .int)))) (hd1 : y.cls ≠ "java/lang/invoke/MethodHandle" ∧ y.cls ≠ "java/lang/invoke/VarHandle" ∧ (parseMethodDescriptor y.desc).map (fun d => d.parameters.length) = some na) (hna : As.length = na) (hrm : rm.cells = mc1 ∧ rm.slots = 6 * mc1) (hR : rm.frames + 1 ≤ R.frames ∧ 8 + (nl + 11) + rm.locals ≤ R.locals) (hst : (st.map fun v => v.category).sum ≤ 8) (hkn : k + mc1 ≤ R.cells ∧ n + 6 * mc1 ≤ R.slots) (hstk : stk = As.reverse ++ st) (hd : decode cc pc = .ok (.invokestatic idx, 3)) (kk : WB p l e R s m args below meth c nL G A Q (k + mc1) (n + 6 * mc1) (pc + 3) lv (.int res.1 :: st) res.2) : WB p l e R s m args below meth c nL G A Q k n pc lv stk x := by
  intro H locs ls h1 h2 h3
  subst hstk
  refine va_calli (va_runS (As := As) (rest := st) C.fix (h H.size) (va_cwS na C.ts hg rfl hrm.1 hrm.2 hd1 hR) (b_preSX C T h2 h3 As) rfl hna h1.1 rfl (by simpa using hst) hd hkn) h3 (fun q _ hq => C.pA h3.1 q hq) (fun q hq => C.pA h3.1 q hq) ?_
  intro v u t H1 locs1 ht hvm hp hB hz hk1 hS
  subst hp
  exact kk H1 locs1 ls h1 (by rw [← ht]; exact hB.1) hS
theorem b_callA_sw (C : CT p s m args meth c cc nL own ret G A) (T : TW A s s.heap) (hs : SW G) {idx nl na mc1 : Nat} {y : MethodName} {b : ByteArray} {rm : Room} {As stk : List Value} {res : Int32 × xS} (h : cA l y b nl rm mc1 As (swG G) (sw x) res) (hg : GoodIn AW (va_wsS own idx y (ws_ y b nl (some .int)))) (hd1 : y.cls ≠ "java/lang/invoke/MethodHandle" ∧ y.cls ≠ "java/lang/invoke/VarHandle" ∧ (parseMethodDescriptor y.desc).map (fun d => d.parameters.length) = some na) (hna : As.length = na) (hrm : rm.cells = mc1 ∧ rm.slots = 6 * mc1) (hR : rm.frames + 1 ≤ R.frames ∧ 8 + (nl + 11) + rm.locals ≤ R.locals) (hst : (st.map fun v => v.category).sum ≤ 8) (hkn : k + mc1 ≤ R.cells ∧ n + 6 * mc1 ≤ R.slots) (hstk : stk = As.reverse ++ st) (hd : decode cc pc = .ok (.invokestatic idx, 3)) (kk : WB p l e R s m args below meth c nL G A Q (k + mc1) (n + 6 * mc1) (pc + 3) lv (.int res.1 :: st) (sw res.2)) : WB p l e R s m args below meth c nL G A Q k n pc lv stk x := by
  refine b_sw hs ?_
  exact b_callA (C.sw hs) T h hg hd1 hna hrm hR hst hkn hstk hd (b_sw2 hs kk)
theorem b_bodyA {y : MethodName} {b : ByteArray} {nl : Nat} {r : Option FieldType} {rm : Room} {as : List Value} {lv0 : List (Nat × Value)} {Qc : Nat → Array Value → State → Outcome → State → Prop} (hy : plainName y.cls = true) (hsl : (lg_sl as).length ≤ nl) (hlv : lv_args 0 as = lv0)
    (body : ∀ (p : Program) (e : Env) (s : State) (m : MethodId) (args : Array Value) (below : List Frame) (meth : Method) (c : Code), CT p s m args meth c b nl y.cls r G (pA G s.heap.size) → TW (pA G s.heap.size) s s.heap → WB p l e rm s m args below meth c nl G (pA G s.heap.size) (MQ below (Qc s.heap.size) args s mc (6 * mc) (pA G s.heap.size)) 0 0 0 lv0 [] x) :
    ∀ sz, Met l y (ws_ y b nl r) rm (PcX as G x sz) (Qc sz) mc (6 * mc) (pA G sz) := by
  intro sz
  refine Met.ofW (cc := b) (maxL := nl) (ret := r) hy rfl ?_
  intro p e s m args below meth c s₁ B hml hv
  obtain ⟨rfl, hsz, ⟨hP, hK, hJ, hN⟩, hT⟩ := hv
  subst hsz
  have hts := atoms_spec (ws := ws_ y b nl r) B.pre
  have C : CT p s m as.toArray meth c b nl y.cls r G (pA G s.heap.size) := ⟨B.exec, B.bytes, hml, findClass_of_methodNamed B.named, fun w hw => hts w (List.mem_cons_of_mem _ hw), hK, ⟨hJ, fun i hi => Or.inl ⟨i, hi, rfl⟩⟩, fun q hq => Or.inr hq, B.returns, B.notSynchronized, hN⟩
  have hl9 := lv_entry as (n := nl) hsl
  rw [lg_entry_eq]
  rw [hlv] at hl9
  exact body p e s m as.toArray below meth c C hT s.heap [] _ hl9 hP va_S.rf
end
-- L_asks
abbrev rL_asks : Room := { frames := 9, cells := 2, slots := 12, locals := 169 }
def fL_asks (i0 : Nat) (v1 : Int32) (v2 : Int32) (v3 : Int32) (i4 : Nat) (x : xS) : Option (Int32 × xS) :=
  Option.bind (fX6_ask i0 v1 v2 v3 x) (fun r7 => match r7 with
  | Sum.inl j =>
    if j = 1 then some (1, x) else
    if j = 2 then some (2, x) else
    none
  | Sum.inr w =>
  (if (0 : Int32) < 0 ∨ ln i4 ≤ (0 : Int32).toNatClampNeg then none else
  lt1 (up1 w.2 i4 (0 : Int32).toNatClampNeg w.1) (fun x10 =>
  some (0, x10))))
section
variable {p : Program} {l : Launch} {e : Env} {R : Room} {s : State} {m : MethodId} {args : Array Value} {below : List Frame} {meth : Method} {c : Code} {G : gT}
end
set_option maxHeartbeats 4000000 in
set_option maxRecDepth 100000 in
theorem metL_asks (l : Launch) (G : gT) (i0 : Nat) (v1 : Int32) (v2 : Int32) (v3 : Int32) (i4 : Nat) (x : xS) (r : Int32 × xS) (hk0 : KD G i0 6) (hk4 : KD G i4 8) (hf : fL_asks i0 v1 v2 v3 i4 x = some r) (hl : l.stackTraces = false) : cW l yL_asks cL_asks 6 [(0, 11, 14, 14), (0, 11, 18, 16)] rL_asks 2 [.ref (G.2.2 i0), .int v1, .int v2, .int v3, .ref (G.2.2 i4)] G x r := by
  refine b_bodyW (by decide) hl (Nat.le_of_ble_eq_true rfl) rfl (fun p e s m args below meth c C X => ?_)
  unfold fL_asks at hf
  refine b_aload C dL_asks_0 4 rfl ?_
  refine b_iconst (v := 0) C dL_asks_2 (by decide) ?_
  refine b_aload_n C dL_asks_3 rfl 0 rfl ?_
  refine b_iload_n C dL_asks_4 rfl 1 rfl ?_
  refine b_iload_n C dL_asks_5 rfl 2 rfl ?_
  refine b_iload_n C dL_asks_6 rfl 3 rfl ?_
  obtain ⟨r7, c7, hf⟩ := oB hf
  refine b_xcVi (K := 6) (As := [.int v1, .int v2, .int v3]) (res := r7) (mc1 := 2) C X.2.2 (metX6_ask l G _ _ _ _ _ _ hk0 c7 hl) hk0 (by decide) rfl gkL_8 ekL_8 rfl ⟨rfl, rfl⟩ ⟨Nat.le_of_ble_eq_true rfl, Nat.le_of_ble_eq_true rfl⟩ (by simp [Value.category]) ⟨Nat.le_of_ble_eq_true rfl, Nat.le_of_ble_eq_true rfl⟩ rfl dL_asks_7 (fun j hj => ?_) (fun v u hu => ?_)
  · cases r7 with
    | inr w => cases hj
    | inl j1 =>
      have e1 : j1 = j := Sum.inl.inj hj
      subst e1
      by_cases q0 : j1 = 1
      · subst q0
        have hf := iT rfl hf
        refine b_catch0 C X (by decide) rfl (by decide) (by decide) w_359 (fun q => ?_)
        refine b_astore (lv' := [(5, .ref q), (0, .ref (G.2.2 i0)), (1, .int v1), (2, .int v2), (3, .int v3), (4, .ref (G.2.2 i4))]) C dL_asks_14 (by decide) rfl ?_
        refine b_iconst (v := 1) C dL_asks_16 (by decide) ?_
        exact b_wiret C dL_asks_17 hf ⟨Nat.le_of_ble_eq_true rfl, Nat.le_of_ble_eq_true rfl⟩
      have hf := iF q0 hf
      by_cases q1 : j1 = 2
      · subst q1
        have hf := iT rfl hf
        refine b_catch1 (j0 := 1) C X (by decide) rfl (by decide) (by decide) (by decide) w_360 w_359 X.2.2.2.2.n21 (fun q => ?_)
        refine b_astore (lv' := [(5, .ref q), (0, .ref (G.2.2 i0)), (1, .int v1), (2, .int v2), (3, .int v3), (4, .ref (G.2.2 i4))]) C dL_asks_18 (by decide) rfl ?_
        refine b_iconst (v := 2) C dL_asks_20 (by decide) ?_
        exact b_wiret C dL_asks_21 hf ⟨Nat.le_of_ble_eq_true rfl, Nat.le_of_ble_eq_true rfl⟩
      have hf := iF q1 hf
      cases hf
  · cases r7 with
    | inl j1 => cases hu
    | inr w =>
      cases hu
      obtain ⟨g10, hf⟩ := iN hf
      obtain ⟨x10, e10, hf⟩ := lN1 hf
      refine b_iast C hk4 g10 dL_asks_10 ?_
      rw [e10]
      refine b_goto (tgt := 22) C dL_asks_11 (by decide) ?_
      refine b_iconst (v := 0) C dL_asks_22 (by decide) ?_
      exact b_wiret C dL_asks_23 hf ⟨Nat.le_of_ble_eq_true rfl, Nat.le_of_ble_eq_true rfl⟩
-- L_changes
abbrev rL_changes : Room := { frames := 9, cells := 2, slots := 12, locals := 168 }
def fL_changes (i0 : Nat) (v1 : Int32) (v2 : Int32) (v3 : Int32) (i4 : Nat) (x : xS) : Option (Int32 × xS) :=
  (if v1 = 0 then
  Option.bind (fX6_giveBack i0 v2 v3 x) (fun r10 => match r10 with
  | Sum.inl j =>
    if j = 1 then some (1, x) else
    if j = 2 then some (2, x) else
    if j = 3 then some (3, x) else
    none
  | Sum.inr w =>
  (if (0 : Int32) < 0 ∨ ln i4 ≤ (0 : Int32).toNatClampNeg then none else
  lt1 (up1 w.2 i4 (0 : Int32).toNatClampNeg w.1) (fun x60 =>
  some (0, x60))))
  else
  (if v1 = 1 then
  Option.bind (fX6_favour i0 v2 x) (fun r23 => match r23 with
  | Sum.inl j =>
    if j = 1 then some (1, x) else
    if j = 2 then some (2, x) else
    if j = 3 then some (3, x) else
    none
  | Sum.inr w =>
  (if (0 : Int32) < 0 ∨ ln i4 ≤ (0 : Int32).toNatClampNeg then none else
  lt1 (up1 w.2 i4 (0 : Int32).toNatClampNeg w.1) (fun x60 =>
  some (0, x60))))
  else
  (if v1 = 2 then
  Option.bind (fX6_need i0 v2 v3 x) (fun r37 => match r37 with
  | Sum.inl j =>
    if j = 1 then some (1, x) else
    if j = 2 then some (2, x) else
    if j = 3 then some (3, x) else
    none
  | Sum.inr w =>
  (if (0 : Int32) < 0 ∨ ln i4 ≤ (0 : Int32).toNatClampNeg then none else
  lt1 (up1 w.2 i4 (0 : Int32).toNatClampNeg w.1) (fun x60 =>
  some (0, x60))))
  else
  (if v1 = 3 then
  Option.bind (fX6_set i0 v2 x) (fun r50 => match r50 with
  | Sum.inl j =>
    if j = 1 then some (1, x) else
    if j = 2 then some (2, x) else
    if j = 3 then some (3, x) else
    none
  | Sum.inr w =>
  (if (0 : Int32) < 0 ∨ ln i4 ≤ (0 : Int32).toNatClampNeg then none else
  lt1 (up1 w.2 i4 (0 : Int32).toNatClampNeg w.1) (fun x60 =>
  some (0, x60))))
  else
  Option.bind (fX6_pass i0 x) (fun r57 => match r57 with
  | Sum.inl j =>
    if j = 1 then some (1, x) else
    if j = 2 then some (2, x) else
    if j = 3 then some (3, x) else
    none
  | Sum.inr w =>
  (if (0 : Int32) < 0 ∨ ln i4 ≤ (0 : Int32).toNatClampNeg then none else
  lt1 (up1 w.2 i4 (0 : Int32).toNatClampNeg w.1) (fun x60 =>
  some (0, x60))))))))
section
variable {p : Program} {l : Launch} {e : Env} {R : Room} {s : State} {m : MethodId} {args : Array Value} {below : List Frame} {meth : Method} {c : Code} {G : gT}
end
set_option maxHeartbeats 4000000 in
set_option maxRecDepth 100000 in
theorem metL_changes (l : Launch) (G : gT) (i0 : Nat) (v1 : Int32) (v2 : Int32) (v3 : Int32) (i4 : Nat) (x : xS) (r : Int32 × xS) (hk0 : KD G i0 6) (hk4 : KD G i4 8) (hf : fL_changes i0 v1 v2 v3 i4 x = some r) (hl : l.stackTraces = false) : cW l yL_changes cL_changes 6 [(0, 61, 64, 14), (0, 61, 68, 16), (0, 61, 72, 36)] rL_changes 2 [.ref (G.2.2 i0), .int v1, .int v2, .int v3, .ref (G.2.2 i4)] G x r := by
  refine b_bodyW (by decide) hl (Nat.le_of_ble_eq_true rfl) rfl (fun p e s m args below meth c C X => ?_)
  unfold fL_changes at hf
  refine b_aload C dL_changes_0 4 rfl ?_
  refine b_iconst (v := 0) C dL_changes_2 (by decide) ?_
  refine b_iload_n C dL_changes_3 rfl 1 rfl ?_
  refine b_if_ne (tgt := 16) C dL_changes_4 (by decide) (fun c4 => ?_) (fun c4 => ?_)
  · have hf := iF c4 hf
    refine b_iload_n C dL_changes_16 rfl 1 rfl ?_
    refine b_iconst (v := 1) C dL_changes_17 (by decide) ?_
    refine b_icmp_ne (tgt := 29) C dL_changes_18 (by decide) (fun c18 => ?_) (fun c18 => ?_)
    · have hf := iF c18 hf
      refine b_iload_n C dL_changes_29 rfl 1 rfl ?_
      refine b_iconst (v := 2) C dL_changes_30 (by decide) ?_
      refine b_icmp_ne (tgt := 43) C dL_changes_31 (by decide) (fun c31 => ?_) (fun c31 => ?_)
      · have hf := iF c31 hf
        refine b_iload_n C dL_changes_43 rfl 1 rfl ?_
        refine b_iconst (v := 3) C dL_changes_44 (by decide) ?_
        refine b_icmp_ne (tgt := 56) C dL_changes_45 (by decide) (fun c45 => ?_) (fun c45 => ?_)
        · have hf := iF c45 hf
          refine b_aload_n C dL_changes_56 rfl 0 rfl ?_
          obtain ⟨r57, c57, hf⟩ := oB hf
          refine b_xcVi (K := 6) (As := []) (res := r57) (mc1 := 1) C X.2.2 (metX6_pass l G _ _ _ hk0 c57 hl) hk0 (by decide) rfl gkL_32 ekL_32 rfl ⟨rfl, rfl⟩ ⟨Nat.le_of_ble_eq_true rfl, Nat.le_of_ble_eq_true rfl⟩ (by simp [Value.category]) ⟨Nat.le_of_ble_eq_true rfl, Nat.le_of_ble_eq_true rfl⟩ rfl dL_changes_57 (fun j hj => ?_) (fun v u hu => ?_)
          · cases r57 with
            | inr w => cases hj
            | inl j1 =>
              have e1 : j1 = j := Sum.inl.inj hj
              subst e1
              by_cases q0 : j1 = 1
              · subst q0
                have hf := iT rfl hf
                refine b_catch0 C X (by decide) rfl (by decide) (by decide) w_359 (fun q => ?_)
                refine b_astore (lv' := [(5, .ref q), (0, .ref (G.2.2 i0)), (1, .int v1), (2, .int v2), (3, .int v3), (4, .ref (G.2.2 i4))]) C dL_changes_64 (by decide) rfl ?_
                refine b_iconst (v := 1) C dL_changes_66 (by decide) ?_
                exact b_wiret C dL_changes_67 hf ⟨Nat.le_of_ble_eq_true rfl, Nat.le_of_ble_eq_true rfl⟩
              have hf := iF q0 hf
              by_cases q1 : j1 = 2
              · subst q1
                have hf := iT rfl hf
                refine b_catch1 (j0 := 1) C X (by decide) rfl (by decide) (by decide) (by decide) w_360 w_359 X.2.2.2.2.n21 (fun q => ?_)
                refine b_astore (lv' := [(5, .ref q), (0, .ref (G.2.2 i0)), (1, .int v1), (2, .int v2), (3, .int v3), (4, .ref (G.2.2 i4))]) C dL_changes_68 (by decide) rfl ?_
                refine b_iconst (v := 2) C dL_changes_70 (by decide) ?_
                exact b_wiret C dL_changes_71 hf ⟨Nat.le_of_ble_eq_true rfl, Nat.le_of_ble_eq_true rfl⟩
              have hf := iF q1 hf
              by_cases q2 : j1 = 3
              · subst q2
                have hf := iT rfl hf
                refine b_catch2 (j0 := 1) (j1 := 2) C X (by decide) rfl (by decide) (by decide) (by decide) (by decide) w_362 w_359 w_360 X.2.2.2.2.n31 X.2.2.2.2.n32 (fun q => ?_)
                refine b_astore (lv' := [(5, .ref q), (0, .ref (G.2.2 i0)), (1, .int v1), (2, .int v2), (3, .int v3), (4, .ref (G.2.2 i4))]) C dL_changes_72 (by decide) rfl ?_
                refine b_iconst (v := 3) C dL_changes_74 (by decide) ?_
                exact b_wiret C dL_changes_75 hf ⟨Nat.le_of_ble_eq_true rfl, Nat.le_of_ble_eq_true rfl⟩
              have hf := iF q2 hf
              cases hf
          · cases r57 with
            | inl j1 => cases hu
            | inr w =>
              cases hu
              obtain ⟨g60, hf⟩ := iN hf
              obtain ⟨x60, e60, hf⟩ := lN1 hf
              refine b_iast C hk4 g60 dL_changes_60 ?_
              rw [e60]
              refine b_goto (tgt := 76) C dL_changes_61 (by decide) ?_
              refine b_iconst (v := 0) C dL_changes_76 (by decide) ?_
              exact b_wiret C dL_changes_77 hf ⟨Nat.le_of_ble_eq_true rfl, Nat.le_of_ble_eq_true rfl⟩
        · have hf := iT c45 hf
          refine b_aload_n C dL_changes_48 rfl 0 rfl ?_
          refine b_iload_n C dL_changes_49 rfl 2 rfl ?_
          obtain ⟨r50, c50, hf⟩ := oB hf
          refine b_xcVi (K := 6) (As := [.int v2]) (res := r50) (mc1 := 1) C X.2.2 (metX6_set l G _ _ _ _ hk0 c50 hl) hk0 (by decide) rfl gkL_29 ekL_29 rfl ⟨rfl, rfl⟩ ⟨Nat.le_of_ble_eq_true rfl, Nat.le_of_ble_eq_true rfl⟩ (by simp [Value.category]) ⟨Nat.le_of_ble_eq_true rfl, Nat.le_of_ble_eq_true rfl⟩ rfl dL_changes_50 (fun j hj => ?_) (fun v u hu => ?_)
          · cases r50 with
            | inr w => cases hj
            | inl j1 =>
              have e1 : j1 = j := Sum.inl.inj hj
              subst e1
              by_cases q0 : j1 = 1
              · subst q0
                have hf := iT rfl hf
                refine b_catch0 C X (by decide) rfl (by decide) (by decide) w_359 (fun q => ?_)
                refine b_astore (lv' := [(5, .ref q), (0, .ref (G.2.2 i0)), (1, .int v1), (2, .int v2), (3, .int v3), (4, .ref (G.2.2 i4))]) C dL_changes_64 (by decide) rfl ?_
                refine b_iconst (v := 1) C dL_changes_66 (by decide) ?_
                exact b_wiret C dL_changes_67 hf ⟨Nat.le_of_ble_eq_true rfl, Nat.le_of_ble_eq_true rfl⟩
              have hf := iF q0 hf
              by_cases q1 : j1 = 2
              · subst q1
                have hf := iT rfl hf
                refine b_catch1 (j0 := 1) C X (by decide) rfl (by decide) (by decide) (by decide) w_360 w_359 X.2.2.2.2.n21 (fun q => ?_)
                refine b_astore (lv' := [(5, .ref q), (0, .ref (G.2.2 i0)), (1, .int v1), (2, .int v2), (3, .int v3), (4, .ref (G.2.2 i4))]) C dL_changes_68 (by decide) rfl ?_
                refine b_iconst (v := 2) C dL_changes_70 (by decide) ?_
                exact b_wiret C dL_changes_71 hf ⟨Nat.le_of_ble_eq_true rfl, Nat.le_of_ble_eq_true rfl⟩
              have hf := iF q1 hf
              by_cases q2 : j1 = 3
              · subst q2
                have hf := iT rfl hf
                refine b_catch2 (j0 := 1) (j1 := 2) C X (by decide) rfl (by decide) (by decide) (by decide) (by decide) w_362 w_359 w_360 X.2.2.2.2.n31 X.2.2.2.2.n32 (fun q => ?_)
                refine b_astore (lv' := [(5, .ref q), (0, .ref (G.2.2 i0)), (1, .int v1), (2, .int v2), (3, .int v3), (4, .ref (G.2.2 i4))]) C dL_changes_72 (by decide) rfl ?_
                refine b_iconst (v := 3) C dL_changes_74 (by decide) ?_
                exact b_wiret C dL_changes_75 hf ⟨Nat.le_of_ble_eq_true rfl, Nat.le_of_ble_eq_true rfl⟩
              have hf := iF q2 hf
              cases hf
          · cases r50 with
            | inl j1 => cases hu
            | inr w =>
              cases hu
              refine b_goto (tgt := 60) C dL_changes_53 (by decide) ?_
              obtain ⟨g60, hf⟩ := iN hf
              obtain ⟨x60, e60, hf⟩ := lN1 hf
              refine b_iast C hk4 g60 dL_changes_60 ?_
              rw [e60]
              refine b_goto (tgt := 76) C dL_changes_61 (by decide) ?_
              refine b_iconst (v := 0) C dL_changes_76 (by decide) ?_
              exact b_wiret C dL_changes_77 hf ⟨Nat.le_of_ble_eq_true rfl, Nat.le_of_ble_eq_true rfl⟩
      · have hf := iT c31 hf
        refine b_aload_n C dL_changes_34 rfl 0 rfl ?_
        refine b_iload_n C dL_changes_35 rfl 2 rfl ?_
        refine b_iload_n C dL_changes_36 rfl 3 rfl ?_
        obtain ⟨r37, c37, hf⟩ := oB hf
        refine b_xcVi (K := 6) (As := [.int v2, .int v3]) (res := r37) (mc1 := 2) C X.2.2 (metX6_need l G _ _ _ _ _ hk0 c37 hl) hk0 (by decide) rfl gkL_26 ekL_26 rfl ⟨rfl, rfl⟩ ⟨Nat.le_of_ble_eq_true rfl, Nat.le_of_ble_eq_true rfl⟩ (by simp [Value.category]) ⟨Nat.le_of_ble_eq_true rfl, Nat.le_of_ble_eq_true rfl⟩ rfl dL_changes_37 (fun j hj => ?_) (fun v u hu => ?_)
        · cases r37 with
          | inr w => cases hj
          | inl j1 =>
            have e1 : j1 = j := Sum.inl.inj hj
            subst e1
            by_cases q0 : j1 = 1
            · subst q0
              have hf := iT rfl hf
              refine b_catch0 C X (by decide) rfl (by decide) (by decide) w_359 (fun q => ?_)
              refine b_astore (lv' := [(5, .ref q), (0, .ref (G.2.2 i0)), (1, .int v1), (2, .int v2), (3, .int v3), (4, .ref (G.2.2 i4))]) C dL_changes_64 (by decide) rfl ?_
              refine b_iconst (v := 1) C dL_changes_66 (by decide) ?_
              exact b_wiret C dL_changes_67 hf ⟨Nat.le_of_ble_eq_true rfl, Nat.le_of_ble_eq_true rfl⟩
            have hf := iF q0 hf
            by_cases q1 : j1 = 2
            · subst q1
              have hf := iT rfl hf
              refine b_catch1 (j0 := 1) C X (by decide) rfl (by decide) (by decide) (by decide) w_360 w_359 X.2.2.2.2.n21 (fun q => ?_)
              refine b_astore (lv' := [(5, .ref q), (0, .ref (G.2.2 i0)), (1, .int v1), (2, .int v2), (3, .int v3), (4, .ref (G.2.2 i4))]) C dL_changes_68 (by decide) rfl ?_
              refine b_iconst (v := 2) C dL_changes_70 (by decide) ?_
              exact b_wiret C dL_changes_71 hf ⟨Nat.le_of_ble_eq_true rfl, Nat.le_of_ble_eq_true rfl⟩
            have hf := iF q1 hf
            by_cases q2 : j1 = 3
            · subst q2
              have hf := iT rfl hf
              refine b_catch2 (j0 := 1) (j1 := 2) C X (by decide) rfl (by decide) (by decide) (by decide) (by decide) w_362 w_359 w_360 X.2.2.2.2.n31 X.2.2.2.2.n32 (fun q => ?_)
              refine b_astore (lv' := [(5, .ref q), (0, .ref (G.2.2 i0)), (1, .int v1), (2, .int v2), (3, .int v3), (4, .ref (G.2.2 i4))]) C dL_changes_72 (by decide) rfl ?_
              refine b_iconst (v := 3) C dL_changes_74 (by decide) ?_
              exact b_wiret C dL_changes_75 hf ⟨Nat.le_of_ble_eq_true rfl, Nat.le_of_ble_eq_true rfl⟩
            have hf := iF q2 hf
            cases hf
        · cases r37 with
          | inl j1 => cases hu
          | inr w =>
            cases hu
            refine b_goto (tgt := 60) C dL_changes_40 (by decide) ?_
            obtain ⟨g60, hf⟩ := iN hf
            obtain ⟨x60, e60, hf⟩ := lN1 hf
            refine b_iast C hk4 g60 dL_changes_60 ?_
            rw [e60]
            refine b_goto (tgt := 76) C dL_changes_61 (by decide) ?_
            refine b_iconst (v := 0) C dL_changes_76 (by decide) ?_
            exact b_wiret C dL_changes_77 hf ⟨Nat.le_of_ble_eq_true rfl, Nat.le_of_ble_eq_true rfl⟩
    · have hf := iT c18 hf
      refine b_aload_n C dL_changes_21 rfl 0 rfl ?_
      refine b_iload_n C dL_changes_22 rfl 2 rfl ?_
      obtain ⟨r23, c23, hf⟩ := oB hf
      refine b_xcVi (K := 6) (As := [.int v2]) (res := r23) (mc1 := 1) C X.2.2 (metX6_favour l G _ _ _ _ hk0 c23 hl) hk0 (by decide) rfl gkL_22 ekL_22 rfl ⟨rfl, rfl⟩ ⟨Nat.le_of_ble_eq_true rfl, Nat.le_of_ble_eq_true rfl⟩ (by simp [Value.category]) ⟨Nat.le_of_ble_eq_true rfl, Nat.le_of_ble_eq_true rfl⟩ rfl dL_changes_23 (fun j hj => ?_) (fun v u hu => ?_)
      · cases r23 with
        | inr w => cases hj
        | inl j1 =>
          have e1 : j1 = j := Sum.inl.inj hj
          subst e1
          by_cases q0 : j1 = 1
          · subst q0
            have hf := iT rfl hf
            refine b_catch0 C X (by decide) rfl (by decide) (by decide) w_359 (fun q => ?_)
            refine b_astore (lv' := [(5, .ref q), (0, .ref (G.2.2 i0)), (1, .int v1), (2, .int v2), (3, .int v3), (4, .ref (G.2.2 i4))]) C dL_changes_64 (by decide) rfl ?_
            refine b_iconst (v := 1) C dL_changes_66 (by decide) ?_
            exact b_wiret C dL_changes_67 hf ⟨Nat.le_of_ble_eq_true rfl, Nat.le_of_ble_eq_true rfl⟩
          have hf := iF q0 hf
          by_cases q1 : j1 = 2
          · subst q1
            have hf := iT rfl hf
            refine b_catch1 (j0 := 1) C X (by decide) rfl (by decide) (by decide) (by decide) w_360 w_359 X.2.2.2.2.n21 (fun q => ?_)
            refine b_astore (lv' := [(5, .ref q), (0, .ref (G.2.2 i0)), (1, .int v1), (2, .int v2), (3, .int v3), (4, .ref (G.2.2 i4))]) C dL_changes_68 (by decide) rfl ?_
            refine b_iconst (v := 2) C dL_changes_70 (by decide) ?_
            exact b_wiret C dL_changes_71 hf ⟨Nat.le_of_ble_eq_true rfl, Nat.le_of_ble_eq_true rfl⟩
          have hf := iF q1 hf
          by_cases q2 : j1 = 3
          · subst q2
            have hf := iT rfl hf
            refine b_catch2 (j0 := 1) (j1 := 2) C X (by decide) rfl (by decide) (by decide) (by decide) (by decide) w_362 w_359 w_360 X.2.2.2.2.n31 X.2.2.2.2.n32 (fun q => ?_)
            refine b_astore (lv' := [(5, .ref q), (0, .ref (G.2.2 i0)), (1, .int v1), (2, .int v2), (3, .int v3), (4, .ref (G.2.2 i4))]) C dL_changes_72 (by decide) rfl ?_
            refine b_iconst (v := 3) C dL_changes_74 (by decide) ?_
            exact b_wiret C dL_changes_75 hf ⟨Nat.le_of_ble_eq_true rfl, Nat.le_of_ble_eq_true rfl⟩
          have hf := iF q2 hf
          cases hf
      · cases r23 with
        | inl j1 => cases hu
        | inr w =>
          cases hu
          refine b_goto (tgt := 60) C dL_changes_26 (by decide) ?_
          obtain ⟨g60, hf⟩ := iN hf
          obtain ⟨x60, e60, hf⟩ := lN1 hf
          refine b_iast C hk4 g60 dL_changes_60 ?_
          rw [e60]
          refine b_goto (tgt := 76) C dL_changes_61 (by decide) ?_
          refine b_iconst (v := 0) C dL_changes_76 (by decide) ?_
          exact b_wiret C dL_changes_77 hf ⟨Nat.le_of_ble_eq_true rfl, Nat.le_of_ble_eq_true rfl⟩
  · have hf := iT c4 hf
    refine b_aload_n C dL_changes_7 rfl 0 rfl ?_
    refine b_iload_n C dL_changes_8 rfl 2 rfl ?_
    refine b_iload_n C dL_changes_9 rfl 3 rfl ?_
    obtain ⟨r10, c10, hf⟩ := oB hf
    refine b_xcVi (K := 6) (As := [.int v2, .int v3]) (res := r10) (mc1 := 2) C X.2.2 (metX6_giveBack l G _ _ _ _ _ hk0 c10 hl) hk0 (by decide) rfl gkL_18 ekL_18 rfl ⟨rfl, rfl⟩ ⟨Nat.le_of_ble_eq_true rfl, Nat.le_of_ble_eq_true rfl⟩ (by simp [Value.category]) ⟨Nat.le_of_ble_eq_true rfl, Nat.le_of_ble_eq_true rfl⟩ rfl dL_changes_10 (fun j hj => ?_) (fun v u hu => ?_)
    · cases r10 with
      | inr w => cases hj
      | inl j1 =>
        have e1 : j1 = j := Sum.inl.inj hj
        subst e1
        by_cases q0 : j1 = 1
        · subst q0
          have hf := iT rfl hf
          refine b_catch0 C X (by decide) rfl (by decide) (by decide) w_359 (fun q => ?_)
          refine b_astore (lv' := [(5, .ref q), (0, .ref (G.2.2 i0)), (1, .int v1), (2, .int v2), (3, .int v3), (4, .ref (G.2.2 i4))]) C dL_changes_64 (by decide) rfl ?_
          refine b_iconst (v := 1) C dL_changes_66 (by decide) ?_
          exact b_wiret C dL_changes_67 hf ⟨Nat.le_of_ble_eq_true rfl, Nat.le_of_ble_eq_true rfl⟩
        have hf := iF q0 hf
        by_cases q1 : j1 = 2
        · subst q1
          have hf := iT rfl hf
          refine b_catch1 (j0 := 1) C X (by decide) rfl (by decide) (by decide) (by decide) w_360 w_359 X.2.2.2.2.n21 (fun q => ?_)
          refine b_astore (lv' := [(5, .ref q), (0, .ref (G.2.2 i0)), (1, .int v1), (2, .int v2), (3, .int v3), (4, .ref (G.2.2 i4))]) C dL_changes_68 (by decide) rfl ?_
          refine b_iconst (v := 2) C dL_changes_70 (by decide) ?_
          exact b_wiret C dL_changes_71 hf ⟨Nat.le_of_ble_eq_true rfl, Nat.le_of_ble_eq_true rfl⟩
        have hf := iF q1 hf
        by_cases q2 : j1 = 3
        · subst q2
          have hf := iT rfl hf
          refine b_catch2 (j0 := 1) (j1 := 2) C X (by decide) rfl (by decide) (by decide) (by decide) (by decide) w_362 w_359 w_360 X.2.2.2.2.n31 X.2.2.2.2.n32 (fun q => ?_)
          refine b_astore (lv' := [(5, .ref q), (0, .ref (G.2.2 i0)), (1, .int v1), (2, .int v2), (3, .int v3), (4, .ref (G.2.2 i4))]) C dL_changes_72 (by decide) rfl ?_
          refine b_iconst (v := 3) C dL_changes_74 (by decide) ?_
          exact b_wiret C dL_changes_75 hf ⟨Nat.le_of_ble_eq_true rfl, Nat.le_of_ble_eq_true rfl⟩
        have hf := iF q2 hf
        cases hf
    · cases r10 with
      | inl j1 => cases hu
      | inr w =>
        cases hu
        refine b_goto (tgt := 60) C dL_changes_13 (by decide) ?_
        obtain ⟨g60, hf⟩ := iN hf
        obtain ⟨x60, e60, hf⟩ := lN1 hf
        refine b_iast C hk4 g60 dL_changes_60 ?_
        rw [e60]
        refine b_goto (tgt := 76) C dL_changes_61 (by decide) ?_
        refine b_iconst (v := 0) C dL_changes_76 (by decide) ?_
        exact b_wiret C dL_changes_77 hf ⟨Nat.le_of_ble_eq_true rfl, Nat.le_of_ble_eq_true rfl⟩
-- L_act
abbrev rL_act : Room := { frames := 10, cells := 2, slots := 12, locals := 194 }
def fL_act_b244 (i0 : Nat) (i2 : Nat) (s1 : Int32) (s2 : Int32) (s3 : Int32) (s4 : Int32) (x : xS) : Option (Int32 × xS) :=
  Option.bind (fL_low s3 s4 x) (fun r244 =>
  Option.bind (fL_changes i0 s1 s2 r244 i2 x) (fun r248 =>
  some (r248.1, r248.2)))
def fL_act_b228 (i0 : Nat) (i2 : Nat) (v4 : Int32) (v5 : Int32) (s1 : Int32) (s2 : Int32) (x : xS) : Option (Int32 × xS) :=
  (if v5 = 0 then
  fL_act_b244 i0 i2 s1 s2 (v4 >>> ((4 : Int32) &&& 31)) 14 x
  else
  fL_act_b244 i0 i2 s1 s2 (v4 >>> ((4 : Int32) &&& 31)) 10 x)
def fL_act_b220 (i0 : Nat) (i2 : Nat) (v4 : Int32) (v5 : Int32) (s1 : Int32) (s2 : Int32) (s3 : Int32) (x : xS) : Option (Int32 × xS) :=
  Option.bind (fL_low s2 s3 x) (fun r220 =>
  fL_act_b228 i0 i2 v4 v5 s1 r220 x)
def fL_act_b195 (i0 : Nat) (i2 : Nat) (v4 : Int32) (v5 : Int32) (v6 : Int32) (s0 : Int32) (x : xS) : Option (Int32 × xS) :=
  (if s0 = 3 then
  (if v5 = 0 then
  fL_act_b220 i0 i2 v4 v5 s0 v4 12 x
  else
  fL_act_b220 i0 i2 v4 v5 s0 v4 10 x)
  else
  fL_act_b228 i0 i2 v4 v5 s0 v6 x)
def fL_act_b158 (i0 : Nat) (i2 : Nat) (s1 : Int32) (s2 : Int32) (s3 : Int32) (x : xS) : Option (Int32 × xS) :=
  Option.bind (fL_asks i0 s1 s2 s3 i2 x) (fun r159 =>
  some (r159.1, r159.2))
def fL_act_b141 (i0 : Nat) (i2 : Nat) (s1 : Int32) (s2 : Int32) (s3 : Int32) (s4 : Int32) (s5 : Int32) (x : xS) : Option (Int32 × xS) :=
  Option.bind (fL_low s4 s5 x) (fun r141 =>
  fL_act_b158 i0 i2 s1 s2 (s3 + r141) x)
def fL_act_b100 (i0 : Nat) (i2 : Nat) (v4 : Int32) (v5 : Int32) (v6 : Int32) (s0 : Int32) (s1 : Int32) (x : xS) : Option (Int32 × xS) :=
  Option.bind (fL_low s0 s1 x) (fun r100 =>
  (if v5 = 0 then
  Option.bind (fL_low (v4 >>> ((6 : Int32) &&& 31)) 11 x) (fun r155 =>
  fL_act_b158 i0 i2 v6 r100 r155 x)
  else
  (if (9 : Int32) ≤ (12 - r100) then
  fL_act_b141 i0 i2 v6 r100 1 (v4 >>> ((6 : Int32) &&& 31)) 9 x
  else
  fL_act_b141 i0 i2 v6 r100 1 (v4 >>> ((6 : Int32) &&& 31)) (12 - r100) x)))
def fL_act_b59 (i0 : Nat) (i2 : Nat) (v3 : Int32) (v4 : Int32) (v5 : Int32) (s0 : Int32) (s1 : Int32) (x : xS) : Option (Int32 × xS) :=
  Option.bind (fL_low s0 s1 x) (fun r59 =>
  (if (22 : Int32) ≤ v3 then
  (if (28 : Int32) ≤ v3 then
  Option.bind (fL_changes i0 4 0 0 i2 x) (fun r257 =>
  some (r257.1, r257.2))
  else
  (if (24 : Int32) ≤ v3 then
  (if (4 : Int32) ≤ (v3 - 23) then
  fL_act_b195 i0 i2 v4 v5 r59 4 x
  else
  fL_act_b195 i0 i2 v4 v5 r59 (v3 - 23) x)
  else
  fL_act_b195 i0 i2 v4 v5 r59 0 x))
  else
  (if v5 = 0 then
  fL_act_b100 i0 i2 v4 v5 r59 (v4 >>> ((3 : Int32) &&& 31)) 13 x
  else
  (if ((v4 >>> ((13 : Int32) &&& 31)) &&& 1) = 0 then
  fL_act_b100 i0 i2 v4 v5 r59 (v4 >>> ((3 : Int32) &&& 31)) 12 x
  else
  fL_act_b100 i0 i2 v4 v5 r59 (v4 >>> ((3 : Int32) &&& 31)) 4 x))))
def fL_act_b29 (i0 : Nat) (i2 : Nat) (v3 : Int32) (v4 : Int32) (s0 : Int32) (x : xS) : Option (Int32 × xS) :=
  (if s0 = 0 then
  fL_act_b59 i0 i2 v3 v4 s0 v4 11 x
  else
  (if ((v4 >>> ((12 : Int32) &&& 31)) &&& 1) = 0 then
  fL_act_b59 i0 i2 v3 v4 s0 v4 10 x
  else
  fL_act_b59 i0 i2 v3 v4 s0 v4 3 x))
def fL_act_b0 (i0 : Nat) (v1 : Int32) (i2 : Nat) (x : xS) : Option (Int32 × xS) :=
  Option.bind (fL_low v1 32 x) (fun r3 =>
  lt1 (v1 >>> ((5 : Int32) &&& 31)) (fun y10 => 
  Option.bind (fL_low (v1 >>> ((22 : Int32) &&& 31)) 7 x) (fun r18 =>
  (if r18 ≤ 0 then
  fL_act_b29 i0 i2 r3 y10 0 x
  else
  fL_act_b29 i0 i2 r3 y10 1 x))))
def fL_act (i0 : Nat) (v1 : Int32) (i2 : Nat) (x : xS) : Option (Int32 × xS) := fL_act_b0 i0 v1 i2 x
section
variable {p : Program} {l : Launch} {e : Env} {R : Room} {s : State} {m : MethodId} {args : Array Value} {below : List Frame} {meth : Method} {c : Code} {G : gT}
set_option maxHeartbeats 4000000 in
set_option maxRecDepth 100000 in
theorem wL_act_b244 (C : CT p s m args meth c cL_act 8 RL (some (.int)) G (pA G s.heap.size)) (T : TW (pA G s.heap.size) s s.heap) (hl : l.stackTraces = false) {i0 : Nat} {i2 : Nat} {s1 : Int32} {s2 : Int32} {s3 : Int32} {s4 : Int32} {x : xS} {r : (Int32 × xS)} (hk0 : KD G i0 6) (hk2 : KD G i2 8) (hf : fL_act_b244 i0 i2 s1 s2 s3 s4 x = some r) : WB p l e rL_act s m args below meth c 8 G (pA G s.heap.size) (MQ below (va_Qi (fun v u => r = (v, u)) (fun u t => PW G u t) (pA G s.heap.size)) args s 2 (6 * 2) (pA G s.heap.size)) 0 0 244 [(0, .ref (G.2.2 i0)), (2, .ref (G.2.2 i2))] [.int s4, .int s3, .int s2, .int s1, .ref (G.2.2 i0)] x := by
  unfold fL_act_b244 at hf
  obtain ⟨r244, c244, hf⟩ := oB hf
  refine b_callSi (As := [.int s3, .int s4]) (res := (r244, x)) C (metL_low l G _ _ _ _  c244) gkL_38 ekL_38 rfl ⟨rfl, rfl⟩ ⟨Nat.le_of_ble_eq_true rfl, Nat.le_of_ble_eq_true rfl⟩ (by simp [Value.category]) ⟨Nat.zero_le _, Nat.zero_le _⟩ rfl dL_act_244 ?_
  refine b_aload_n C dL_act_247 rfl 1 rfl ?_
  obtain ⟨r248, c248, hf⟩ := oB hf
  refine b_callW (As := [.ref (G.2.2 i0), .int s1, .int s2, .int r244, .ref (G.2.2 i2)]) (res := r248) (mc1 := 2) C T (metL_changes l G _ _ _ _ _ _ _ hk0 hk2 c248 hl) gkL_47 ekL_47 rfl ⟨rfl, rfl⟩ ⟨Nat.le_of_ble_eq_true rfl, Nat.le_of_ble_eq_true rfl⟩ (by simp [Value.category]) ⟨Nat.le_of_ble_eq_true rfl, Nat.le_of_ble_eq_true rfl⟩ rfl dL_act_248 ?_
  exact b_wiret C dL_act_251 hf ⟨Nat.le_of_ble_eq_true rfl, Nat.le_of_ble_eq_true rfl⟩
set_option maxHeartbeats 4000000 in
set_option maxRecDepth 100000 in
theorem wL_act_b228 (C : CT p s m args meth c cL_act 8 RL (some (.int)) G (pA G s.heap.size)) (T : TW (pA G s.heap.size) s s.heap) (hl : l.stackTraces = false) {i0 : Nat} {i2 : Nat} {v4 : Int32} {v5 : Int32} {s1 : Int32} {s2 : Int32} {x : xS} {r : (Int32 × xS)} (hk0 : KD G i0 6) (hk2 : KD G i2 8) (hf : fL_act_b228 i0 i2 v4 v5 s1 s2 x = some r) : WB p l e rL_act s m args below meth c 8 G (pA G s.heap.size) (MQ below (va_Qi (fun v u => r = (v, u)) (fun u t => PW G u t) (pA G s.heap.size)) args s 2 (6 * 2) (pA G s.heap.size)) 0 0 228 [(0, .ref (G.2.2 i0)), (2, .ref (G.2.2 i2)), (4, .int v4), (5, .int v5)] [.int s2, .int s1, .ref (G.2.2 i0)] x := by
  unfold fL_act_b228 at hf
  refine b_iload C dL_act_228 2 rfl ?_
  refine b_iconst (v := 4) C dL_act_230 (by decide) ?_
  refine b_ishr C dL_act_231 ?_
  refine b_iload C dL_act_232 3 rfl ?_
  refine b_if_eq (tgt := 242) C dL_act_234 (by decide) (fun c234 => ?_) (fun c234 => ?_)
  · have hf := iT c234 hf
    refine b_bipush (v := 14) C dL_act_242 (by decide) ?_
    refine b_pm [0, 1] (lv' := [(0, .ref (G.2.2 i0)), (2, .ref (G.2.2 i2))]) rfl ?_
    exact wL_act_b244 C T hl  hk0 hk2 hf
  · have hf := iF c234 hf
    refine b_bipush (v := 10) C dL_act_237 (by decide) ?_
    refine b_goto (tgt := 244) C dL_act_239 (by decide) ?_
    refine b_pm [0, 1] (lv' := [(0, .ref (G.2.2 i0)), (2, .ref (G.2.2 i2))]) rfl ?_
    exact wL_act_b244 C T hl  hk0 hk2 hf
set_option maxHeartbeats 4000000 in
set_option maxRecDepth 100000 in
theorem wL_act_b220 (C : CT p s m args meth c cL_act 8 RL (some (.int)) G (pA G s.heap.size)) (T : TW (pA G s.heap.size) s s.heap) (hl : l.stackTraces = false) {i0 : Nat} {i2 : Nat} {v4 : Int32} {v5 : Int32} {s1 : Int32} {s2 : Int32} {s3 : Int32} {x : xS} {r : (Int32 × xS)} (hk0 : KD G i0 6) (hk2 : KD G i2 8) (hf : fL_act_b220 i0 i2 v4 v5 s1 s2 s3 x = some r) : WB p l e rL_act s m args below meth c 8 G (pA G s.heap.size) (MQ below (va_Qi (fun v u => r = (v, u)) (fun u t => PW G u t) (pA G s.heap.size)) args s 2 (6 * 2) (pA G s.heap.size)) 0 0 220 [(0, .ref (G.2.2 i0)), (2, .ref (G.2.2 i2)), (4, .int v4), (5, .int v5)] [.int s3, .int s2, .int s1, .ref (G.2.2 i0)] x := by
  unfold fL_act_b220 at hf
  obtain ⟨r220, c220, hf⟩ := oB hf
  refine b_callSi (As := [.int s2, .int s3]) (res := (r220, x)) C (metL_low l G _ _ _ _  c220) gkL_38 ekL_38 rfl ⟨rfl, rfl⟩ ⟨Nat.le_of_ble_eq_true rfl, Nat.le_of_ble_eq_true rfl⟩ (by simp [Value.category]) ⟨Nat.zero_le _, Nat.zero_le _⟩ rfl dL_act_220 ?_
  refine b_goto (tgt := 228) C dL_act_223 (by decide) ?_
  exact wL_act_b228 C T hl  hk0 hk2 hf
set_option maxHeartbeats 4000000 in
set_option maxRecDepth 100000 in
theorem wL_act_b195 (C : CT p s m args meth c cL_act 8 RL (some (.int)) G (pA G s.heap.size)) (T : TW (pA G s.heap.size) s s.heap) (hl : l.stackTraces = false) {i0 : Nat} {i2 : Nat} {v4 : Int32} {v5 : Int32} {v6 : Int32} {s0 : Int32} {x : xS} {r : (Int32 × xS)} (hk0 : KD G i0 6) (hk2 : KD G i2 8) (hf : fL_act_b195 i0 i2 v4 v5 v6 s0 x = some r) : WB p l e rL_act s m args below meth c 8 G (pA G s.heap.size) (MQ below (va_Qi (fun v u => r = (v, u)) (fun u t => PW G u t) (pA G s.heap.size)) args s 2 (6 * 2) (pA G s.heap.size)) 0 0 195 [(0, .ref (G.2.2 i0)), (2, .ref (G.2.2 i2)), (4, .int v4), (5, .int v5), (6, .int v6)] [.int s0] x := by
  unfold fL_act_b195 at hf
  refine b_istore (lv' := [(7, .int s0), (0, .ref (G.2.2 i0)), (2, .ref (G.2.2 i2)), (4, .int v4), (5, .int v5), (6, .int v6)]) C dL_act_195 (by decide) rfl ?_
  refine b_aload_n C dL_act_197 rfl 1 rfl ?_
  refine b_iload C dL_act_198 0 rfl ?_
  refine b_iload C dL_act_200 0 rfl ?_
  refine b_iconst (v := 3) C dL_act_202 (by decide) ?_
  refine b_icmp_ne (tgt := 226) C dL_act_203 (by decide) (fun c203 => ?_) (fun c203 => ?_)
  · have hf := iF c203 hf
    refine b_iload C dL_act_226 5 rfl ?_
    refine b_pm [1, 2, 3, 4] (lv' := [(0, .ref (G.2.2 i0)), (2, .ref (G.2.2 i2)), (4, .int v4), (5, .int v5)]) rfl ?_
    exact wL_act_b228 C T hl  hk0 hk2 hf
  · have hf := iT c203 hf
    refine b_iload C dL_act_206 3 rfl ?_
    refine b_iload C dL_act_208 4 rfl ?_
    refine b_if_eq (tgt := 218) C dL_act_210 (by decide) (fun c210 => ?_) (fun c210 => ?_)
    · have hf := iT c210 hf
      refine b_bipush (v := 12) C dL_act_218 (by decide) ?_
      refine b_pm [1, 2, 3, 4] (lv' := [(0, .ref (G.2.2 i0)), (2, .ref (G.2.2 i2)), (4, .int v4), (5, .int v5)]) rfl ?_
      exact wL_act_b220 C T hl  hk0 hk2 hf
    · have hf := iF c210 hf
      refine b_bipush (v := 10) C dL_act_213 (by decide) ?_
      refine b_goto (tgt := 220) C dL_act_215 (by decide) ?_
      refine b_pm [1, 2, 3, 4] (lv' := [(0, .ref (G.2.2 i0)), (2, .ref (G.2.2 i2)), (4, .int v4), (5, .int v5)]) rfl ?_
      exact wL_act_b220 C T hl  hk0 hk2 hf
set_option maxHeartbeats 4000000 in
set_option maxRecDepth 100000 in
theorem wL_act_b158 (C : CT p s m args meth c cL_act 8 RL (some (.int)) G (pA G s.heap.size)) (T : TW (pA G s.heap.size) s s.heap) (hl : l.stackTraces = false) {i0 : Nat} {i2 : Nat} {s1 : Int32} {s2 : Int32} {s3 : Int32} {x : xS} {r : (Int32 × xS)} (hk0 : KD G i0 6) (hk2 : KD G i2 8) (hf : fL_act_b158 i0 i2 s1 s2 s3 x = some r) : WB p l e rL_act s m args below meth c 8 G (pA G s.heap.size) (MQ below (va_Qi (fun v u => r = (v, u)) (fun u t => PW G u t) (pA G s.heap.size)) args s 2 (6 * 2) (pA G s.heap.size)) 0 0 158 [(0, .ref (G.2.2 i0)), (2, .ref (G.2.2 i2))] [.int s3, .int s2, .int s1, .ref (G.2.2 i0)] x := by
  unfold fL_act_b158 at hf
  refine b_aload_n C dL_act_158 rfl 1 rfl ?_
  obtain ⟨r159, c159, hf⟩ := oB hf
  refine b_callW (As := [.ref (G.2.2 i0), .int s1, .int s2, .int s3, .ref (G.2.2 i2)]) (res := r159) (mc1 := 2) C T (metL_asks l G _ _ _ _ _ _ _ hk0 hk2 c159 hl) gkL_43 ekL_43 rfl ⟨rfl, rfl⟩ ⟨Nat.le_of_ble_eq_true rfl, Nat.le_of_ble_eq_true rfl⟩ (by simp [Value.category]) ⟨Nat.le_of_ble_eq_true rfl, Nat.le_of_ble_eq_true rfl⟩ rfl dL_act_159 ?_
  exact b_wiret C dL_act_162 hf ⟨Nat.le_of_ble_eq_true rfl, Nat.le_of_ble_eq_true rfl⟩
set_option maxHeartbeats 4000000 in
set_option maxRecDepth 100000 in
theorem wL_act_b141 (C : CT p s m args meth c cL_act 8 RL (some (.int)) G (pA G s.heap.size)) (T : TW (pA G s.heap.size) s s.heap) (hl : l.stackTraces = false) {i0 : Nat} {i2 : Nat} {s1 : Int32} {s2 : Int32} {s3 : Int32} {s4 : Int32} {s5 : Int32} {x : xS} {r : (Int32 × xS)} (hk0 : KD G i0 6) (hk2 : KD G i2 8) (hf : fL_act_b141 i0 i2 s1 s2 s3 s4 s5 x = some r) : WB p l e rL_act s m args below meth c 8 G (pA G s.heap.size) (MQ below (va_Qi (fun v u => r = (v, u)) (fun u t => PW G u t) (pA G s.heap.size)) args s 2 (6 * 2) (pA G s.heap.size)) 0 0 141 [(0, .ref (G.2.2 i0)), (2, .ref (G.2.2 i2))] [.int s5, .int s4, .int s3, .int s2, .int s1, .ref (G.2.2 i0)] x := by
  unfold fL_act_b141 at hf
  obtain ⟨r141, c141, hf⟩ := oB hf
  refine b_callSi (As := [.int s4, .int s5]) (res := (r141, x)) C (metL_low l G _ _ _ _  c141) gkL_38 ekL_38 rfl ⟨rfl, rfl⟩ ⟨Nat.le_of_ble_eq_true rfl, Nat.le_of_ble_eq_true rfl⟩ (by simp [Value.category]) ⟨Nat.zero_le _, Nat.zero_le _⟩ rfl dL_act_141 ?_
  refine b_iadd C dL_act_144 ?_
  refine b_goto (tgt := 158) C dL_act_145 (by decide) ?_
  exact wL_act_b158 C T hl  hk0 hk2 hf
set_option maxHeartbeats 4000000 in
set_option maxRecDepth 100000 in
theorem wL_act_b100 (C : CT p s m args meth c cL_act 8 RL (some (.int)) G (pA G s.heap.size)) (T : TW (pA G s.heap.size) s s.heap) (hl : l.stackTraces = false) {i0 : Nat} {i2 : Nat} {v4 : Int32} {v5 : Int32} {v6 : Int32} {s0 : Int32} {s1 : Int32} {x : xS} {r : (Int32 × xS)} (hk0 : KD G i0 6) (hk2 : KD G i2 8) (hf : fL_act_b100 i0 i2 v4 v5 v6 s0 s1 x = some r) : WB p l e rL_act s m args below meth c 8 G (pA G s.heap.size) (MQ below (va_Qi (fun v u => r = (v, u)) (fun u t => PW G u t) (pA G s.heap.size)) args s 2 (6 * 2) (pA G s.heap.size)) 0 0 100 [(0, .ref (G.2.2 i0)), (2, .ref (G.2.2 i2)), (4, .int v4), (5, .int v5), (6, .int v6)] [.int s1, .int s0] x := by
  unfold fL_act_b100 at hf
  obtain ⟨r100, c100, hf⟩ := oB hf
  refine b_callSi (As := [.int s0, .int s1]) (res := (r100, x)) C (metL_low l G _ _ _ _  c100) gkL_38 ekL_38 rfl ⟨rfl, rfl⟩ ⟨Nat.le_of_ble_eq_true rfl, Nat.le_of_ble_eq_true rfl⟩ (by simp [Value.category]) ⟨Nat.zero_le _, Nat.zero_le _⟩ rfl dL_act_100 ?_
  refine b_istore (lv' := [(7, .int r100), (0, .ref (G.2.2 i0)), (2, .ref (G.2.2 i2)), (4, .int v4), (5, .int v5), (6, .int v6)]) C dL_act_103 (by decide) rfl ?_
  refine b_aload_n C dL_act_105 rfl 1 rfl ?_
  refine b_iload C dL_act_106 5 rfl ?_
  refine b_iload C dL_act_108 0 rfl ?_
  refine b_iload C dL_act_110 4 rfl ?_
  refine b_if_eq (tgt := 148) C dL_act_112 (by decide) (fun c112 => ?_) (fun c112 => ?_)
  · have hf := iT c112 hf
    refine b_iload C dL_act_148 3 rfl ?_
    refine b_bipush (v := 6) C dL_act_150 (by decide) ?_
    refine b_ishr C dL_act_152 ?_
    refine b_bipush (v := 11) C dL_act_153 (by decide) ?_
    obtain ⟨r155, c155, hf⟩ := oB hf
    refine b_callSi (As := [.int (v4 >>> ((6 : Int32) &&& 31)), .int 11]) (res := (r155, x)) C (metL_low l G _ _ _ _  c155) gkL_38 ekL_38 rfl ⟨rfl, rfl⟩ ⟨Nat.le_of_ble_eq_true rfl, Nat.le_of_ble_eq_true rfl⟩ (by simp [Value.category]) ⟨Nat.zero_le _, Nat.zero_le _⟩ rfl dL_act_155 ?_
    refine b_pm [1, 2] (lv' := [(0, .ref (G.2.2 i0)), (2, .ref (G.2.2 i2))]) rfl ?_
    exact wL_act_b158 C T hl  hk0 hk2 hf
  · have hf := iF c112 hf
    refine b_iconst (v := 1) C dL_act_115 (by decide) ?_
    refine b_iload C dL_act_116 3 rfl ?_
    refine b_bipush (v := 6) C dL_act_118 (by decide) ?_
    refine b_ishr C dL_act_120 ?_
    refine b_bipush (v := 12) C dL_act_121 (by decide) ?_
    refine b_iload C dL_act_123 0 rfl ?_
    refine b_isub C dL_act_125 ?_
    refine b_bipush (v := 9) C dL_act_126 (by decide) ?_
    refine b_icmp_ge (tgt := 139) C dL_act_128 (by decide) (fun c128 => ?_) (fun c128 => ?_)
    · have hf := iT c128 hf
      refine b_bipush (v := 9) C dL_act_139 (by decide) ?_
      refine b_pm [1, 2] (lv' := [(0, .ref (G.2.2 i0)), (2, .ref (G.2.2 i2))]) rfl ?_
      exact wL_act_b141 C T hl  hk0 hk2 hf
    · have hf := iF c128 hf
      refine b_bipush (v := 12) C dL_act_131 (by decide) ?_
      refine b_iload C dL_act_133 0 rfl ?_
      refine b_isub C dL_act_135 ?_
      refine b_goto (tgt := 141) C dL_act_136 (by decide) ?_
      refine b_pm [1, 2] (lv' := [(0, .ref (G.2.2 i0)), (2, .ref (G.2.2 i2))]) rfl ?_
      exact wL_act_b141 C T hl  hk0 hk2 hf
set_option maxHeartbeats 4000000 in
set_option maxRecDepth 100000 in
theorem wL_act_b59 (C : CT p s m args meth c cL_act 8 RL (some (.int)) G (pA G s.heap.size)) (T : TW (pA G s.heap.size) s s.heap) (hl : l.stackTraces = false) {i0 : Nat} {i2 : Nat} {v3 : Int32} {v4 : Int32} {v5 : Int32} {s0 : Int32} {s1 : Int32} {x : xS} {r : (Int32 × xS)} (hk0 : KD G i0 6) (hk2 : KD G i2 8) (hf : fL_act_b59 i0 i2 v3 v4 v5 s0 s1 x = some r) : WB p l e rL_act s m args below meth c 8 G (pA G s.heap.size) (MQ below (va_Qi (fun v u => r = (v, u)) (fun u t => PW G u t) (pA G s.heap.size)) args s 2 (6 * 2) (pA G s.heap.size)) 0 0 59 [(0, .ref (G.2.2 i0)), (2, .ref (G.2.2 i2)), (3, .int v3), (4, .int v4), (5, .int v5)] [.int s1, .int s0] x := by
  unfold fL_act_b59 at hf
  obtain ⟨r59, c59, hf⟩ := oB hf
  refine b_callSi (As := [.int s0, .int s1]) (res := (r59, x)) C (metL_low l G _ _ _ _  c59) gkL_38 ekL_38 rfl ⟨rfl, rfl⟩ ⟨Nat.le_of_ble_eq_true rfl, Nat.le_of_ble_eq_true rfl⟩ (by simp [Value.category]) ⟨Nat.zero_le _, Nat.zero_le _⟩ rfl dL_act_59 ?_
  refine b_istore (lv' := [(6, .int r59), (0, .ref (G.2.2 i0)), (2, .ref (G.2.2 i2)), (3, .int v3), (4, .int v4), (5, .int v5)]) C dL_act_62 (by decide) rfl ?_
  refine b_iload_n C dL_act_64 rfl 3 rfl ?_
  refine b_bipush (v := 22) C dL_act_65 (by decide) ?_
  refine b_icmp_ge (tgt := 163) C dL_act_67 (by decide) (fun c67 => ?_) (fun c67 => ?_)
  · have hf := iT c67 hf
    refine b_iload_n C dL_act_163 rfl 3 rfl ?_
    refine b_bipush (v := 28) C dL_act_164 (by decide) ?_
    refine b_icmp_ge (tgt := 252) C dL_act_166 (by decide) (fun c166 => ?_) (fun c166 => ?_)
    · have hf := iT c166 hf
      refine b_aload_n C dL_act_252 rfl 1 rfl ?_
      refine b_iconst (v := 4) C dL_act_253 (by decide) ?_
      refine b_iconst (v := 0) C dL_act_254 (by decide) ?_
      refine b_iconst (v := 0) C dL_act_255 (by decide) ?_
      refine b_aload_n C dL_act_256 rfl 2 rfl ?_
      obtain ⟨r257, c257, hf⟩ := oB hf
      refine b_callW (As := [.ref (G.2.2 i0), .int 4, .int 0, .int 0, .ref (G.2.2 i2)]) (res := r257) (mc1 := 2) C T (metL_changes l G _ _ _ _ _ _ _ hk0 hk2 c257 hl) gkL_47 ekL_47 rfl ⟨rfl, rfl⟩ ⟨Nat.le_of_ble_eq_true rfl, Nat.le_of_ble_eq_true rfl⟩ (by simp [Value.category]) ⟨Nat.le_of_ble_eq_true rfl, Nat.le_of_ble_eq_true rfl⟩ rfl dL_act_257 ?_
      exact b_wiret C dL_act_260 hf ⟨Nat.le_of_ble_eq_true rfl, Nat.le_of_ble_eq_true rfl⟩
    · have hf := iF c166 hf
      refine b_iload_n C dL_act_169 rfl 3 rfl ?_
      refine b_bipush (v := 24) C dL_act_170 (by decide) ?_
      refine b_icmp_ge (tgt := 179) C dL_act_172 (by decide) (fun c172 => ?_) (fun c172 => ?_)
      · have hf := iT c172 hf
        refine b_iload_n C dL_act_179 rfl 3 rfl ?_
        refine b_bipush (v := 23) C dL_act_180 (by decide) ?_
        refine b_isub C dL_act_182 ?_
        refine b_iconst (v := 4) C dL_act_183 (by decide) ?_
        refine b_icmp_ge (tgt := 194) C dL_act_184 (by decide) (fun c184 => ?_) (fun c184 => ?_)
        · have hf := iT c184 hf
          refine b_iconst (v := 4) C dL_act_194 (by decide) ?_
          refine b_pm [1, 2, 4, 5, 0] (lv' := [(0, .ref (G.2.2 i0)), (2, .ref (G.2.2 i2)), (4, .int v4), (5, .int v5), (6, .int r59)]) rfl ?_
          exact wL_act_b195 C T hl  hk0 hk2 hf
        · have hf := iF c184 hf
          refine b_iload_n C dL_act_187 rfl 3 rfl ?_
          refine b_bipush (v := 23) C dL_act_188 (by decide) ?_
          refine b_isub C dL_act_190 ?_
          refine b_goto (tgt := 195) C dL_act_191 (by decide) ?_
          refine b_pm [1, 2, 4, 5, 0] (lv' := [(0, .ref (G.2.2 i0)), (2, .ref (G.2.2 i2)), (4, .int v4), (5, .int v5), (6, .int r59)]) rfl ?_
          exact wL_act_b195 C T hl  hk0 hk2 hf
      · have hf := iF c172 hf
        refine b_iconst (v := 0) C dL_act_175 (by decide) ?_
        refine b_goto (tgt := 195) C dL_act_176 (by decide) ?_
        refine b_pm [1, 2, 4, 5, 0] (lv' := [(0, .ref (G.2.2 i0)), (2, .ref (G.2.2 i2)), (4, .int v4), (5, .int v5), (6, .int r59)]) rfl ?_
        exact wL_act_b195 C T hl  hk0 hk2 hf
  · have hf := iF c67 hf
    refine b_iload C dL_act_70 4 rfl ?_
    refine b_iconst (v := 3) C dL_act_72 (by decide) ?_
    refine b_ishr C dL_act_73 ?_
    refine b_iload C dL_act_74 5 rfl ?_
    refine b_if_eq (tgt := 98) C dL_act_76 (by decide) (fun c76 => ?_) (fun c76 => ?_)
    · have hf := iT c76 hf
      refine b_bipush (v := 13) C dL_act_98 (by decide) ?_
      refine b_pm [1, 2, 4, 5, 0] (lv' := [(0, .ref (G.2.2 i0)), (2, .ref (G.2.2 i2)), (4, .int v4), (5, .int v5), (6, .int r59)]) rfl ?_
      exact wL_act_b100 C T hl  hk0 hk2 hf
    · have hf := iF c76 hf
      refine b_iload C dL_act_79 4 rfl ?_
      refine b_bipush (v := 13) C dL_act_81 (by decide) ?_
      refine b_ishr C dL_act_83 ?_
      refine b_iconst (v := 1) C dL_act_84 (by decide) ?_
      refine b_iand C dL_act_85 ?_
      refine b_if_ne (tgt := 94) C dL_act_86 (by decide) (fun c86 => ?_) (fun c86 => ?_)
      · have hf := iF c86 hf
        refine b_iconst (v := 4) C dL_act_94 (by decide) ?_
        refine b_goto (tgt := 100) C dL_act_95 (by decide) ?_
        refine b_pm [1, 2, 4, 5, 0] (lv' := [(0, .ref (G.2.2 i0)), (2, .ref (G.2.2 i2)), (4, .int v4), (5, .int v5), (6, .int r59)]) rfl ?_
        exact wL_act_b100 C T hl  hk0 hk2 hf
      · have hf := iT c86 hf
        refine b_bipush (v := 12) C dL_act_89 (by decide) ?_
        refine b_goto (tgt := 100) C dL_act_91 (by decide) ?_
        refine b_pm [1, 2, 4, 5, 0] (lv' := [(0, .ref (G.2.2 i0)), (2, .ref (G.2.2 i2)), (4, .int v4), (5, .int v5), (6, .int r59)]) rfl ?_
        exact wL_act_b100 C T hl  hk0 hk2 hf
set_option maxHeartbeats 4000000 in
set_option maxRecDepth 100000 in
theorem wL_act_b29 (C : CT p s m args meth c cL_act 8 RL (some (.int)) G (pA G s.heap.size)) (T : TW (pA G s.heap.size) s s.heap) (hl : l.stackTraces = false) {i0 : Nat} {i2 : Nat} {v3 : Int32} {v4 : Int32} {s0 : Int32} {x : xS} {r : (Int32 × xS)} (hk0 : KD G i0 6) (hk2 : KD G i2 8) (hf : fL_act_b29 i0 i2 v3 v4 s0 x = some r) : WB p l e rL_act s m args below meth c 8 G (pA G s.heap.size) (MQ below (va_Qi (fun v u => r = (v, u)) (fun u t => PW G u t) (pA G s.heap.size)) args s 2 (6 * 2) (pA G s.heap.size)) 0 0 29 [(0, .ref (G.2.2 i0)), (2, .ref (G.2.2 i2)), (3, .int v3), (4, .int v4)] [.int s0] x := by
  unfold fL_act_b29 at hf
  refine b_istore (lv' := [(5, .int s0), (0, .ref (G.2.2 i0)), (2, .ref (G.2.2 i2)), (3, .int v3), (4, .int v4)]) C dL_act_29 (by decide) rfl ?_
  refine b_iload C dL_act_31 4 rfl ?_
  refine b_iload C dL_act_33 0 rfl ?_
  refine b_if_eq (tgt := 57) C dL_act_35 (by decide) (fun c35 => ?_) (fun c35 => ?_)
  · have hf := iT c35 hf
    refine b_bipush (v := 11) C dL_act_57 (by decide) ?_
    refine b_pm [1, 2, 3, 4, 0] (lv' := [(0, .ref (G.2.2 i0)), (2, .ref (G.2.2 i2)), (3, .int v3), (4, .int v4), (5, .int s0)]) rfl ?_
    exact wL_act_b59 C T hl  hk0 hk2 hf
  · have hf := iF c35 hf
    refine b_iload C dL_act_38 4 rfl ?_
    refine b_bipush (v := 12) C dL_act_40 (by decide) ?_
    refine b_ishr C dL_act_42 ?_
    refine b_iconst (v := 1) C dL_act_43 (by decide) ?_
    refine b_iand C dL_act_44 ?_
    refine b_if_ne (tgt := 53) C dL_act_45 (by decide) (fun c45 => ?_) (fun c45 => ?_)
    · have hf := iF c45 hf
      refine b_iconst (v := 3) C dL_act_53 (by decide) ?_
      refine b_goto (tgt := 59) C dL_act_54 (by decide) ?_
      refine b_pm [1, 2, 3, 4, 0] (lv' := [(0, .ref (G.2.2 i0)), (2, .ref (G.2.2 i2)), (3, .int v3), (4, .int v4), (5, .int s0)]) rfl ?_
      exact wL_act_b59 C T hl  hk0 hk2 hf
    · have hf := iT c45 hf
      refine b_bipush (v := 10) C dL_act_48 (by decide) ?_
      refine b_goto (tgt := 59) C dL_act_50 (by decide) ?_
      refine b_pm [1, 2, 3, 4, 0] (lv' := [(0, .ref (G.2.2 i0)), (2, .ref (G.2.2 i2)), (3, .int v3), (4, .int v4), (5, .int s0)]) rfl ?_
      exact wL_act_b59 C T hl  hk0 hk2 hf
set_option maxHeartbeats 4000000 in
set_option maxRecDepth 100000 in
theorem wL_act_b0 (C : CT p s m args meth c cL_act 8 RL (some (.int)) G (pA G s.heap.size)) (T : TW (pA G s.heap.size) s s.heap) (hl : l.stackTraces = false) {i0 : Nat} {v1 : Int32} {i2 : Nat} {x : xS} {r : (Int32 × xS)} (hk0 : KD G i0 6) (hk2 : KD G i2 8) (hf : fL_act_b0 i0 v1 i2 x = some r) : WB p l e rL_act s m args below meth c 8 G (pA G s.heap.size) (MQ below (va_Qi (fun v u => r = (v, u)) (fun u t => PW G u t) (pA G s.heap.size)) args s 2 (6 * 2) (pA G s.heap.size)) 0 0 0 [(0, .ref (G.2.2 i0)), (1, .int v1), (2, .ref (G.2.2 i2))] [] x := by
  unfold fL_act_b0 at hf
  refine b_iload_n C dL_act_0 rfl 1 rfl ?_
  refine b_bipush (v := 32) C dL_act_1 (by decide) ?_
  obtain ⟨r3, c3, hf⟩ := oB hf
  refine b_callSi (As := [.int v1, .int 32]) (res := (r3, x)) C (metL_low l G _ _ _ _  c3) gkL_38 ekL_38 rfl ⟨rfl, rfl⟩ ⟨Nat.le_of_ble_eq_true rfl, Nat.le_of_ble_eq_true rfl⟩ (by simp [Value.category]) ⟨Nat.zero_le _, Nat.zero_le _⟩ rfl dL_act_3 ?_
  refine b_istore_n (lv' := [(3, .int r3), (0, .ref (G.2.2 i0)), (1, .int v1), (2, .ref (G.2.2 i2))]) C dL_act_6 rfl (by decide) rfl ?_
  refine b_iload_n C dL_act_7 rfl 2 rfl ?_
  refine b_iconst (v := 5) C dL_act_8 (by decide) ?_
  refine b_ishr C dL_act_9 ?_
  obtain ⟨y10, e10, hf⟩ := lN1 hf
  rw [e10]
  refine b_istore (lv' := [(4, .int y10), (3, .int r3), (0, .ref (G.2.2 i0)), (1, .int v1), (2, .ref (G.2.2 i2))]) C dL_act_10 (by decide) rfl ?_
  refine b_iload_n C dL_act_12 rfl 3 rfl ?_
  refine b_bipush (v := 22) C dL_act_13 (by decide) ?_
  refine b_ishr C dL_act_15 ?_
  refine b_bipush (v := 7) C dL_act_16 (by decide) ?_
  obtain ⟨r18, c18, hf⟩ := oB hf
  refine b_callSi (As := [.int (v1 >>> ((22 : Int32) &&& 31)), .int 7]) (res := (r18, x)) C (metL_low l G _ _ _ _  c18) gkL_38 ekL_38 rfl ⟨rfl, rfl⟩ ⟨Nat.le_of_ble_eq_true rfl, Nat.le_of_ble_eq_true rfl⟩ (by simp [Value.category]) ⟨Nat.zero_le _, Nat.zero_le _⟩ rfl dL_act_18 ?_
  refine b_if_le (tgt := 28) C dL_act_21 (by decide) (fun c21 => ?_) (fun c21 => ?_)
  · have hf := iT c21 hf
    refine b_iconst (v := 0) C dL_act_28 (by decide) ?_
    refine b_pm [2, 4, 1, 0] (lv' := [(0, .ref (G.2.2 i0)), (2, .ref (G.2.2 i2)), (3, .int r3), (4, .int y10)]) rfl ?_
    exact wL_act_b29 C T hl  hk0 hk2 hf
  · have hf := iF c21 hf
    refine b_iconst (v := 1) C dL_act_24 (by decide) ?_
    refine b_goto (tgt := 29) C dL_act_25 (by decide) ?_
    refine b_pm [2, 4, 1, 0] (lv' := [(0, .ref (G.2.2 i0)), (2, .ref (G.2.2 i2)), (3, .int r3), (4, .int y10)]) rfl ?_
    exact wL_act_b29 C T hl  hk0 hk2 hf
end
theorem metL_act (l : Launch) (G : gT) (i0 : Nat) (v1 : Int32) (i2 : Nat) (x : xS) (r : Int32 × xS) (hk0 : KD G i0 6) (hk2 : KD G i2 8) (hf : fL_act i0 v1 i2 x = some r) (hl : l.stackTraces = false) : cA l yL_act cL_act 8 rL_act 2 [.ref (G.2.2 i0), .int v1, .ref (G.2.2 i2)] G x r :=
  b_bodyA (by decide) (Nat.le_of_ble_eq_true rfl) rfl (fun p e s m args below meth c C T => wL_act_b0 C T hl hk0 hk2 hf)
