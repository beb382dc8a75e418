/-! THE CLAIM OUT OF ONE WALK OF THE LAW'S BODY. Your part is whole_start (and what it stands on); all else here is the same for every law, but numbers. -/
def R_law : String := "SevenAsksLaw"
def lw_P (b : Addr) (xs : List Int32) (args : Array Value) (s : State) : Prop := args = #[.ref b] ∧ s.IntsAt b xs ∧ xs.length ≤ 260 ∧ (Jvm.Cond.and given_1 narrow_1).before args s = true
/-- what a walk over the start with the record d0 says of its end, said of the start itself -/
theorem lw_closed {s t : State} {o : Outcome} {d0 : Drawn} {L : List Loc} {k n : Nat} (hd0 : s.drawn.sameBut d0 lw_cs) (hv : ∃ v, o = .returned v) (hW : (s.setDrawn d0).WarmedH t.vm) (hs : (s.setDrawn d0).sameButNew ({ t with vm := s.vm } : State) L k n) : State.butDraws s t lw_cs (fun t1 => Framed s o t1 L k n) := by
  have h2 : t.drawn = d0 := congrArg State.drawn hs.1
  refine ⟨⟨hv, hW, State.sameButNew.setDrawn hs s.drawn⟩, ?_, by decide⟩
  rw [h2]
  exact hd0
def lw_Q (_ : Array Value) (s : State) (o : Outcome) (t : State) : Prop := o = .returned (some (.int 1)) ∧ State.butDraws s t lw_cs (fun t1 => Framed s o t1 [] 600130 7301080)
def lw_Z (below : List Frame) (a : Array Value) (s : State) : State → Prop := fun t => ∃ o, t.status = .running ∧ Ended t below o ∧ lw_Q a s o t
/-- the law's own end, with 1 on the stack, nothing written that was there before, its room as the claim has it; d0: the record of draws at this point (at the entry s.drawn: begin with 'refine W.base ?_' and 'have hd0 := Drawn.sameBut.refl s.drawn lw_cs') -/
theorem lw_ret {p : Program} {l : Launch} {e : Env} {s : State} {m : MethodId} {below : List Frame} {meth : Method} {c : Code} {b : Nat} {d0 : Drawn} (hd0 : s.drawn.sameBut d0 lw_cs) (hx : p.tables.exec = Jvm.exec) (hb : c.code = code) (hr : meth.sig.returnType = ret) (hlocks : meth.locks = false) {pc : Nat} {H : Heap} {ls : Array Slot} (hdg : decode code pc = .ok (.ireturn, 1)) : W p l e room_1 (s.setDrawn d0) m #[Value.ref b] below meth c H [] 600130 7301080 (lw_Z below #[Value.ref b] s) (F0 m pc ls [.int 1]) := by
  intro T hT X
  obtain ⟨fs, hret, hrun, hended, hW, hframe⟩ := X.leave (v := some (.int 1)) (hlocks := hlocks) (fun h => by rw [hr] at h; cases h)
  have hmeth' : T.vm.method? m = some meth := X.method'
  refine ⟨T.setFrames fs, ?_, .returned (some (.int 1)), hrun, hended, rfl, lw_closed hd0 ⟨_, rfl⟩ hW hframe⟩
  jvm_step X.here [X.here.top, hx, hb, hdg, hmeth', hr, ret, narrow_b1]
  (try refine ⟨rfl, ?_⟩); (try refine ⟨rfl, ?_⟩)
  first | (intro acts; rw [hret _ acts rfl rfl rfl]) | rw [hret _ _ rfl rfl rfl]
  exact Steps.refl _
/-- what holds at the law's entry: the machine, the code, the tables' words (any of lw_tbl by 'hts w (by decide +kernel)'), the script of L ints xs at the cell b, what the Statement gives of the start (any of its parts by flat_of_before) -/
def lw_At (p : Program) (s : State) (m : MethodId) (meth : Method) (c : Code) (b L : Nat) (xs : Nat → Int32) : Prop :=
  p.tables.exec = Jvm.exec ∧ c.code = code ∧ meth.sig.returnType = ret ∧ c.maxLocals = 11 ∧ s.vm.findClass R_law = some m.cls ∧ (∀ w ∈ lw_tbl, w.before #[Value.ref b] s = true) ∧ va_X b L xs s s.heap ∧ b < s.heap.size ∧ meth.locks = false ∧ (Jvm.Cond.and given_1 narrow_1).before #[Value.ref b] s = true
section
variable {p : Program} {l : Launch} {e : Env} {R : Room} {s : State} {m : MethodId} {args : Array Value} {below : List Frame} {meth : Method} {c : Code} {nL : Nat} {G : gT} {A : Nat → Prop} {Q : State → Prop} {k n pc : Nat} {lv : List (Nat × Value)} {st : List Value} {x : xS} {cc : ByteArray} {own : String} {ret : Option FieldType}
theorem b_slen (C : CT p s m args meth c cc nL own ret G A) {b L : Nat} {xs : Nat → Int32} (hX : va_X b L xs s s.heap) (hbl : b < s.heap.size) (hbA : ¬ A b) (hd : decode cc pc = .ok (.arraylength, 1)) (kk : WB p l e R s m args below meth c nL G A Q k n (pc + 1) lv (.int (Int32.ofNat L) :: st) x) : WB p l e R s m args below meth c nL G A Q k n pc lv (.ref b :: st) x := fun H locs ls h1 h2 h3 => va_slen C.hx C.b hX hbl hbA h3 hd (kk H locs ls h1 h2 h3)
theorem b_sld (C : CT p s m args meth c cc nL own ret G A) {b L : Nat} {xs : Nat → Int32} (hX : va_X b L xs s s.heap) (hbl : b < s.heap.size) (hbA : ¬ A b) {i : Int32} (hin : ¬ (i < 0 ∨ L ≤ i.toNatClampNeg)) (hd : decode cc pc = .ok (.iaload, 1)) (kk : WB p l e R s m args below meth c nL G A Q k n (pc + 1) lv (.int (xs i.toNatClampNeg) :: st) x) : WB p l e R s m args below meth c nL G A Q k n pc lv (.int i :: .ref b :: st) x := fun H locs ls h1 h2 h3 => va_sld C.hx C.b hX hbl hbA h3 hin hd (kk H locs ls h1 h2 h3)
theorem b_law1 {b : Nat} (C : CT p s m #[Value.ref b] meth c cL_law nL own (some .boolean) G (fun q => s.heap.size ≤ q)) (hd : decode cL_law pc = .ok (.ireturn, 1)) (hk : k ≤ 600130) (hn : n ≤ 7301080) : WB p l e room_1 s m #[Value.ref b] below meth c nL G (fun q => s.heap.size ≤ q) (lw_Z below #[Value.ref b] s) k n pc lv [.int 1] x := by
  intro H locs ls h1 h2 h3
  refine W.base ?_
  refine va_forget (fun q hq => h3.2.2 q hq) ?_
  refine W.widen hk hn ?_
  exact lw_ret (Drawn.sameBut.refl s.drawn lw_cs) C.hx C.b C.r C.lk hd
end
section
variable {p : Program} {l : Launch} {e : Env} {s : State} {m : MethodId} {args : Array Value} {below : List Frame} {meth : Method} {c : Code} {G : gT}
abbrev rL_cell : Room := { frames := 0, cells := 0, slots := 0, locals := 0 }
def fL_cell (L : Nat) (xs : Nat → Int32) (v1 : Int32) (x : xS) : Option Int32 :=
  (if (Int32.ofNat L) ≤ v1 then
  some ((7919 * (v1 + 7)) * (v1 + 421))
  else
  (if v1 < 0 ∨ L ≤ v1.toNatClampNeg then none else
  some (xs v1.toNatClampNeg)))
/-- the contract of a method that reads the script b of L ints xs -/
def cS (l : Launch) (y : MethodName) (bb : ByteArray) (nl : Nat) (r : FieldType) (rm : Room) (as : List Value) (G : gT) (x : xS) (b L : Nat) (xs : Nat → Int32) (res : Int32 × xS) : Prop := ∀ sz, Met l y (ws_ y bb nl (some r)) rm (va_Pc as (fun U => U.heap.size = sz ∧ PW G x U ∧ va_X b L xs U U.heap ∧ b < sz ∧ ∀ i, i ∈ G.2.1.2 → b ≠ G.2.2 i)) (va_Qi (fun v u => res = (v, u)) (fun u t => PW G u t) (pA G sz)) 0 0 (pA G sz)
set_option maxHeartbeats 4000000 in
set_option maxRecDepth 100000 in
theorem metL_cell (l : Launch) (G : gT) (b L : Nat) (xs : Nat → Int32) (v1 : Int32) (x : xS) (r : Int32) (hf : fL_cell L xs v1 x = some r) : cS l yL_cell cL_cell 2 .int rL_cell [.ref b, .int v1] G x b L xs (r, x) := by
  intro sz
  refine Met.ofW (cc := cL_cell) (maxL := 2) (ret := some .int) (by decide) rfl ?_
  intro p e s m args below meth c s₁ B hml hv
  obtain ⟨rfl, hsz, ⟨hP, hK, hJ, hN⟩, hX, hbl, hbG⟩ := hv
  subst hsz
  have hts := atoms_spec (ws := ws_ yL_cell cL_cell 2 (some .int)) B.pre
  have C : CT p s m ([.ref b, .int v1] : List Value).toArray meth c cL_cell 2 yL_cell.cls (some .int) G (pA G s.heap.size) := ⟨B.exec, B.bytes, hml, findClass_of_methodNamed B.named, fun w hw => hts w (List.mem_cons_of_mem _ hw), hK, ⟨hJ, fun i hi => Or.inl ⟨i, hi, rfl⟩⟩, fun q hq => Or.inr hq, B.returns, B.notSynchronized, hN⟩
  have hl := lv_entry ([.ref b, .int v1] : List Value) (n := 2) (Nat.le_of_ble_eq_true rfl)
  rw [lg_entry_eq]
  have hbA : ¬ (pA G s.heap.size) b := by
    rintro (⟨i, hi, e⟩ | h)
    · exact hbG i hi e
    · exact absurd hbl (Nat.not_lt.mpr h)
  have hW : WB p l e rL_cell s m ([.ref b, .int v1] : List Value).toArray below meth c 2 G (pA G s.heap.size) (qI below G (r, x) ([.ref b, .int v1] : List Value).toArray s 0 0) 0 0 0 [(0, .ref b), (1, .int v1)] [] x := by
    unfold fL_cell at hf
    refine b_iload_n C dL_cell_0 rfl 1 rfl ?_
    refine b_aload_n C dL_cell_1 rfl 0 rfl ?_
    refine b_slen C hX hbl hbA dL_cell_2 ?_
    refine b_icmp_ge (tgt := 12) C dL_cell_3 (by decide) (fun c3 => ?_) (fun c3 => ?_)
    · have hf := iT c3 hf
      refine b_sipush (v := 7919) C dL_cell_12 (by decide) ?_
      refine b_iload_n C dL_cell_15 rfl 1 rfl ?_
      refine b_bipush (v := 7) C dL_cell_16 (by decide) ?_
      refine b_iadd C dL_cell_18 ?_
      refine b_imul C dL_cell_19 ?_
      refine b_iload_n C dL_cell_20 rfl 1 rfl ?_
      refine b_sipush (v := 421) C dL_cell_21 (by decide) ?_
      refine b_iadd C dL_cell_24 ?_
      refine b_imul C dL_cell_25 ?_
      exact b_ireti C dL_cell_26 (congrArg (Option.map (fun q => (q, x))) hf)
    · have hf := iF c3 hf
      refine b_aload_n C dL_cell_6 rfl 0 rfl ?_
      refine b_iload_n C dL_cell_7 rfl 1 rfl ?_
      obtain ⟨g8, hf⟩ := iN hf
      refine b_sld C hX hbl hbA g8 dL_cell_8 ?_
      refine b_goto (tgt := 26) C dL_cell_9 (by decide) ?_
      exact b_ireti C dL_cell_26 (congrArg (Option.map (fun q => (q, x))) hf)
  exact hW s.heap [] _ hl hP va_S.rf
end
section
variable {p : Program} {l : Launch} {e : Env} {R : Room} {s : State} {m : MethodId} {args : Array Value} {below : List Frame} {meth : Method} {c : Code} {nL : Nat} {G : gT} {A : Nat → Prop} {Q : State → Prop} {k n pc : Nat} {lv : List (Nat × Value)} {st : List Value} {x : xS} {cc : ByteArray} {own : String} {ret : Option FieldType}
theorem va_X_go {b L : Nat} {xs : Nat → Int32} {H : Heap} {locs : List Loc} {U : State} (hX : va_X b L xs s s.heap) (hbl : b < s.heap.size) (hbA : ¬ A b) (h3 : va_S A s.heap H locs) (hU : U.heap = H) (hW : s.WarmedH U.vm) : va_X b L xs U U.heap := by
  obtain ⟨scr, h1, h2, h4, h5, h6⟩ := hX
  exact ⟨scr, by rw [hU, h3.2.1 b hbl hbA]; exact h1, State.isArrayOf_alike hW.alike h2, h4, h5, h6⟩
theorem va_X_same {b L : Nat} {xs : Nat → Int32} {U : State} {g : JFrame} {mk : MethodId} {a : Array Value} (h : va_X b L xs U U.heap) : va_X b L xs (U.calling g mk a) (U.calling g mk a).heap := by
  obtain ⟨scr, h1, h2, h3⟩ := h
  exact ⟨scr, h1, State.isArrayOf_alike (Vm.Alike.refl U.vm) h2, h3⟩
theorem b_callC (C : CT p s m args meth c cc nL own ret G A) {b L : Nat} {xs : Nat → Int32} (hX : va_X b L xs s s.heap) (hbl : b < s.heap.size) (hbA : ¬ A b) {idx nl na : Nat} {y : MethodName} {bb : ByteArray} {r : FieldType} {rm : Room} {stk : List Value} {v1 : Int32} {res : Int32 × xS} (h : cS l y bb nl r rm [.ref b, .int v1] G x b L xs res) (hg : GoodIn AW (va_wsS own idx y (ws_ y bb nl (some r)))) (hd1 : y.cls ≠ "java/lang/invoke/MethodHandle" ∧ y.cls ≠ "java/lang/invoke/VarHandle" ∧ (parseMethodDescriptor y.desc).map (fun d => d.parameters.length) = some na) (hna : ([.ref b, .int v1] : List Value).length = na) (hrm : rm.cells = 0 ∧ rm.slots = 0) (hR : rm.frames + 1 ≤ R.frames ∧ 8 + (nl + 11) + rm.locals ≤ R.locals) (hst : (st.map fun v => v.category).sum ≤ 8) (hkn : k ≤ R.cells ∧ n ≤ R.slots) (hstk : stk = ([.ref b, .int v1] : List Value).reverse ++ st) (hd : decode cc pc = .ok (.invokestatic idx, 3)) (kk : WB p l e R s m args below meth c nL G A Q k n (pc + 3) lv (.int res.1 :: st) res.2) : WB p l e R s m args below meth c nL G A Q k n pc lv stk x := by
  intro H locs ls h1 h2 h3
  subst hstk
  refine va_calli (va_runS (As := [.ref b, .int v1]) (rest := st) C.fix (h H.size) (va_cwS na C.ts hg rfl hrm.1 hrm.2 hd1 hR) ⟨fun a U g mk q => ⟨q.1, q.2.1, q.2.2.1.blind g mk a, va_X_same q.2.2.2.1, q.2.2.2.2⟩, fun U hU hW => ⟨rfl, by rw [hU], ⟨by rw [hU]; exact h2, va_K.moved hW.alike C.K, C.D.1, C.nw.warm hW⟩, va_X_go hX hbl hbA h3 hU hW, Nat.lt_of_lt_of_le hbl h3.1, fun i hi e => hbA (by rw [e]; exact C.D.2 i hi)⟩⟩ rfl hna h1.1 rfl (by simpa using hst) hd hkn) h3 (fun q _ hq => C.pA h3.1 q hq) (fun q hq => C.pA h3.1 q hq) ?_
  intro v u t H1 locs1 ht hvm hp hB hz hk1 hS
  subst hp
  exact kk H1 locs1 ls h1 (by rw [← ht]; exact hB.1) hS
end
def fL_law_b186 (L : Nat) (xs : Nat → Int32) (x : xS) : Option Int32 :=
  some 0
def fL_law_b319 (k23 : Int32 → xS → Option Int32) (L : Nat) (xs : Nat → Int32) (v4 : Int32) (x : xS) : Option Int32 :=
  k23 (v4 + 1) x
def fL_law_b317 (L : Nat) (xs : Nat → Int32) (x : xS) : Option Int32 :=
  some 0
def fL_law_b269 (k23 : Int32 → xS → Option Int32) (L : Nat) (xs : Nat → Int32) (v4 : Int32) (v5 : Int32) (v9 : Int32) (v10 : Int32) (s1 : Int32) (s2 : Int32) (x : xS) : Option Int32 :=
  Option.bind (fL_low s1 s2 x) (fun r269 =>
  Option.bind (fL_isAskingSo 0 r269 v9 v10 x) (fun r276 =>
  (if r276.1 = 0 then
  fL_law_b317  L xs r276.2
  else
  Option.bind (fL_low (v5 >>> ((7 : Int32) &&& 31)) 10 r276.2) (fun r290 =>
  Option.bind (fL_low (v5 >>> ((10 : Int32) &&& 31)) 12 r276.2) (fun r300 =>
  Option.bind (fL_isLongestSo 0 r290 r300 r276.2) (fun r303 =>
  (if r303 = 0 then
  fL_law_b317  L xs r276.2
  else
  Option.bind (fL_areAlike 0 r276.2) (fun r311 =>
  (if r311 = 0 then
  fL_law_b317  L xs r276.2
  else
  fL_law_b319 k23 L xs v4 r276.2)))))))))
def fL_law_b226 (k23 : Int32 → xS → Option Int32) (L : Nat) (xs : Nat → Int32) (v4 : Int32) (v5 : Int32) (v9 : Int32) (s0 : Int32) (s1 : Int32) (s2 : Int32) (x : xS) : Option Int32 :=
  Option.bind (fL_low s1 s2 x) (fun r226 =>
  lt1 (s0 + r226) (fun y230 => 
  (if (v4 - v4 / (2 : Int32) * (2 : Int32)) = 1 then
  Option.bind (fL_areSums 0 x) (fun r241 =>
  (if r241.1 = 0 then
  fL_law_b317  L xs r241.2
  else
  (if ((v5 >>> ((20 : Int32) &&& 31)) &&& 1) = 0 then
  fL_law_b269 k23 L xs v4 v5 v9 y230 (v5 >>> ((6 : Int32) &&& 31)) 10 r241.2
  else
  fL_law_b269 k23 L xs v4 v5 v9 y230 (v5 >>> ((6 : Int32) &&& 31)) 3 r241.2)))
  else
  fL_law_b319 k23 L xs v4 x)))
def fL_law_b178 (k23 : Int32 → xS → Option Int32) (L : Nat) (xs : Nat → Int32) (v4 : Int32) (v5 : Int32) (x : xS) : Option Int32 :=
  Option.bind (fL_areAlike 0 x) (fun r180 =>
  (if r180 = 0 then
  fL_law_b186  L xs x
  else
  Option.bind (fL_low (v5 >>> ((8 : Int32) &&& 31)) 12 x) (fun r195 =>
  (if (9 : Int32) ≤ (12 - r195) then
  fL_law_b226 k23 L xs v4 v5 r195 1 (v5 >>> ((11 : Int32) &&& 31)) 9 x
  else
  fL_law_b226 k23 L xs v4 v5 r195 1 (v5 >>> ((11 : Int32) &&& 31)) (12 - r195) x))))
def fL_law_b153 (k23 : Int32 → xS → Option Int32) (L : Nat) (xs : Nat → Int32) (v4 : Int32) (v5 : Int32) (v7 : Int32) (v8 : Int32) (x : xS) : Option Int32 :=
  Option.bind (fL_act 0 v5 202 (sw x)) (fun r157 =>
  (if r157.1 = v7 then
  (if v7 = 0 then
  (if (0 : Int32) < 0 ∨ ln 202 ≤ (0 : Int32).toNatClampNeg then none else
  (if ((sw r157.2).1 202 (0 : Int32).toNatClampNeg) = v8 then
  fL_law_b178 k23 L xs v4 v5 (sw r157.2)
  else
  fL_law_b186  L xs (sw r157.2)))
  else
  fL_law_b178 k23 L xs v4 v5 (sw r157.2))
  else
  fL_law_b186  L xs (sw r157.2)))
def fL_law_b151 (L : Nat) (xs : Nat → Int32) (x : xS) : Option Int32 :=
  some 0
def fL_law_b122 (k23 : Int32 → xS → Option Int32) (L : Nat) (xs : Nat → Int32) (v4 : Int32) (v5 : Int32) (v7 : Int32) (v8 : Int32) (s0 : Int32) (s1 : Int32) (x : xS) : Option Int32 :=
  (if s0 = s1 then
  Option.bind (fL_areAlike 0 x) (fun r127 =>
  (if r127 = 0 then
  fL_law_b151  L xs x
  else
  Option.bind (fL_act 0 v5 202 x) (fun r137 =>
  (if r137.1 = 0 then
  (if (0 : Int32) < 0 ∨ ln 202 ≤ (0 : Int32).toNatClampNeg then none else
  (if (r137.2.1 202 (0 : Int32).toNatClampNeg) = v8 then
  fL_law_b153 k23 L xs v4 v5 v7 v8 r137.2
  else
  fL_law_b151  L xs r137.2))
  else
  fL_law_b151  L xs r137.2))))
  else
  fL_law_b151  L xs x)
def fL_law_b86 (k23 : Int32 → xS → Option Int32) (L : Nat) (xs : Nat → Int32) (v4 : Int32) (v5 : Int32) (v6 : Int32) (v7 : Int32) (v8 : Int32) (x : xS) : Option Int32 :=
  (if v7 = 0 then
  (if ((v5 >>> ((9 : Int32) &&& 31)) &&& 1) = 0 then
  Option.bind (fpX6_undo 0 x) (fun r102 =>
  (if v6 = 6 then
  fL_law_b122 k23 L xs v4 v5 v7 v8 r102.1 5 r102.2
  else
  fL_law_b122 k23 L xs v4 v5 v7 v8 r102.1 v6 r102.2))
  else
  fL_law_b153 k23 L xs v4 v5 v7 v8 x)
  else
  fL_law_b153 k23 L xs v4 v5 v7 v8 x)
def fL_law_b84 (L : Nat) (xs : Nat → Int32) (x : xS) : Option Int32 :=
  some 0
def fL_law_b23 (L : Nat) (xs : Nat → Int32) : Nat → Int32 → xS → Option Int32
  | 0, _, _ => none
  | n + 1, v4, x => (if (60 : Int32) ≤ v4 then
  Option.bind (fL_areSums 0 x) (fun r326 =>
  some r326.1)
  else
  Option.bind (fL_cell L xs v4 x) (fun r33 =>
  Option.bind (fpX6_count 0 11 x) (fun r41 =>
  Option.bind (fL_act 0 r33 202 x) (fun r50 =>
  (if (0 : Int32) < 0 ∨ ln 202 ≤ (0 : Int32).toNatClampNeg then none else
  lt1 (r50.2.1 202 (0 : Int32).toNatClampNeg) (fun y58 => 
  (if r50.1 = 0 then
  fL_law_b86 (fL_law_b23 L xs n) L xs v4 r33 r41 r50.1 y58 r50.2
  else
  Option.bind (fL_areAlike 0 r50.2) (fun r67 =>
  (if r67 = 0 then
  fL_law_b84  L xs r50.2
  else
  Option.bind (fpX6_count 0 11 r50.2) (fun r76 =>
  (if r76 = r41 then
  fL_law_b86 (fL_law_b23 L xs n) L xs v4 r33 r41 r50.1 y58 r50.2
  else
  fL_law_b84  L xs r50.2)))))))))))
section
variable {p : Program} {l : Launch} {e : Env} {s : State} {m : MethodId} {below : List Frame} {meth : Method} {c : Code} {G : gT}
set_option maxHeartbeats 40000000 in
set_option maxRecDepth 100000 in
theorem wL_law_b186 {b N : Nat} {L : Nat} {xs : Nat → Int32} (C : CT p s m #[Value.ref b] meth c cL_law 11 RL (some .boolean) G (fun q => s.heap.size ≤ q)) (T : TW (fun q => s.heap.size ≤ q) s s.heap) (hl : l.stackTraces = false) (hsw : SW G) (hX : va_X b L xs s s.heap) (hbl : b < s.heap.size) {x : xS} (hf : fL_law_b186 L xs x = some 1) {k nn : Nat} (hkb : k + 0 + 6 * N ≤ 600130) (hnb : nn + 0 + 36 * N ≤ 7301080) : WB p l e room_1 s m #[Value.ref b] below meth c 11 G (fun q => s.heap.size ≤ q) (lw_Z below #[Value.ref b] s) k nn 186 [(0, .ref b), (1, .ref (G.2.2 0)), (2, .ref (G.2.2 101)), (3, .ref (G.2.2 202))] [] x := by
  have hk1 : KD G 0 6 := ⟨(sw_mem hsw 0).mpr (by decide), by decide +kernel⟩
  have hk3 : KD G 202 8 := ⟨(sw_mem hsw 202).mpr (by decide), by decide +kernel⟩
  have hbA : ¬ ((fun q => s.heap.size ≤ q) b) := Nat.not_le.mpr hbl
  unfold fL_law_b186 at hf
  refine b_iconst (v := 0) C dL_law_186 (by decide) ?_
  exact absurd (Option.some.inj hf) (by decide)
set_option maxHeartbeats 40000000 in
set_option maxRecDepth 100000 in
theorem wL_law_b319 {b N : Nat} {k23 : Int32 → xS → Option Int32} {L : Nat} {xs : Nat → Int32} (C : CT p s m #[Value.ref b] meth c cL_law 11 RL (some .boolean) G (fun q => s.heap.size ≤ q)) (T : TW (fun q => s.heap.size ≤ q) s s.heap) (hl : l.stackTraces = false) (hsw : SW G) (hX : va_X b L xs s s.heap) (hbl : b < s.heap.size) {v4 : Int32} {x : xS} (h23 : ∀ (v4 : Int32) (x : xS), k23 v4 x = some 1 → ∀ k nn : Nat, k + 6 * N ≤ 600130 → nn + 36 * N ≤ 7301080 → WB p l e room_1 s m #[Value.ref b] below meth c 11 G (fun q => s.heap.size ≤ q) (lw_Z below #[Value.ref b] s) k nn 23 [(0, .ref b), (1, .ref (G.2.2 0)), (2, .ref (G.2.2 101)), (3, .ref (G.2.2 202)), (4, .int v4)] [] x) (hf : fL_law_b319 k23 L xs v4 x = some 1) {k nn : Nat} (hkb : k + 0 + 6 * N ≤ 600130) (hnb : nn + 0 + 36 * N ≤ 7301080) : WB p l e room_1 s m #[Value.ref b] below meth c 11 G (fun q => s.heap.size ≤ q) (lw_Z below #[Value.ref b] s) k nn 319 [(0, .ref b), (1, .ref (G.2.2 0)), (2, .ref (G.2.2 101)), (3, .ref (G.2.2 202)), (4, .int v4)] [] x := by
  have hk1 : KD G 0 6 := ⟨(sw_mem hsw 0).mpr (by decide), by decide +kernel⟩
  have hk3 : KD G 202 8 := ⟨(sw_mem hsw 202).mpr (by decide), by decide +kernel⟩
  have hbA : ¬ ((fun q => s.heap.size ≤ q) b) := Nat.not_le.mpr hbl
  unfold fL_law_b319 at hf
  refine b_iinc (q := 4) (v' := (v4 + 1)) (lv' := [(4, .int (v4 + 1)), (0, .ref b), (1, .ref (G.2.2 0)), (2, .ref (G.2.2 101)), (3, .ref (G.2.2 202))]) C dL_law_319 rfl rfl (by decide) rfl ?_
  refine b_goto (tgt := 23) C dL_law_322 (by decide) ?_
  refine b_pm [1, 2, 3, 4, 0] (lv' := [(0, .ref b), (1, .ref (G.2.2 0)), (2, .ref (G.2.2 101)), (3, .ref (G.2.2 202)), (4, .int (v4 + 1))]) rfl ?_
  exact h23 _ _ hf _ _ (by omega) (by omega)
set_option maxHeartbeats 40000000 in
set_option maxRecDepth 100000 in
theorem wL_law_b317 {b N : Nat} {L : Nat} {xs : Nat → Int32} (C : CT p s m #[Value.ref b] meth c cL_law 11 RL (some .boolean) G (fun q => s.heap.size ≤ q)) (T : TW (fun q => s.heap.size ≤ q) s s.heap) (hl : l.stackTraces = false) (hsw : SW G) (hX : va_X b L xs s s.heap) (hbl : b < s.heap.size) {x : xS} (hf : fL_law_b317 L xs x = some 1) {k nn : Nat} (hkb : k + 0 + 6 * N ≤ 600130) (hnb : nn + 0 + 36 * N ≤ 7301080) : WB p l e room_1 s m #[Value.ref b] below meth c 11 G (fun q => s.heap.size ≤ q) (lw_Z below #[Value.ref b] s) k nn 317 [(0, .ref b), (1, .ref (G.2.2 0)), (2, .ref (G.2.2 101)), (3, .ref (G.2.2 202))] [] x := by
  have hk1 : KD G 0 6 := ⟨(sw_mem hsw 0).mpr (by decide), by decide +kernel⟩
  have hk3 : KD G 202 8 := ⟨(sw_mem hsw 202).mpr (by decide), by decide +kernel⟩
  have hbA : ¬ ((fun q => s.heap.size ≤ q) b) := Nat.not_le.mpr hbl
  unfold fL_law_b317 at hf
  refine b_iconst (v := 0) C dL_law_317 (by decide) ?_
  exact absurd (Option.some.inj hf) (by decide)
set_option maxHeartbeats 40000000 in
set_option maxRecDepth 100000 in
theorem wL_law_b269 {b N : Nat} {k23 : Int32 → xS → Option Int32} {L : Nat} {xs : Nat → Int32} (C : CT p s m #[Value.ref b] meth c cL_law 11 RL (some .boolean) G (fun q => s.heap.size ≤ q)) (T : TW (fun q => s.heap.size ≤ q) s s.heap) (hl : l.stackTraces = false) (hsw : SW G) (hX : va_X b L xs s s.heap) (hbl : b < s.heap.size) {v4 : Int32} {v5 : Int32} {v9 : Int32} {v10 : Int32} {s1 : Int32} {s2 : Int32} {x : xS} (h23 : ∀ (v4 : Int32) (x : xS), k23 v4 x = some 1 → ∀ k nn : Nat, k + 6 * N ≤ 600130 → nn + 36 * N ≤ 7301080 → WB p l e room_1 s m #[Value.ref b] below meth c 11 G (fun q => s.heap.size ≤ q) (lw_Z below #[Value.ref b] s) k nn 23 [(0, .ref b), (1, .ref (G.2.2 0)), (2, .ref (G.2.2 101)), (3, .ref (G.2.2 202)), (4, .int v4)] [] x) (hf : fL_law_b269 k23 L xs v4 v5 v9 v10 s1 s2 x = some 1) {k nn : Nat} (hkb : k + 0 + 6 * N ≤ 600130) (hnb : nn + 0 + 36 * N ≤ 7301080) : WB p l e room_1 s m #[Value.ref b] below meth c 11 G (fun q => s.heap.size ≤ q) (lw_Z below #[Value.ref b] s) k nn 269 [(0, .ref b), (1, .ref (G.2.2 0)), (2, .ref (G.2.2 101)), (3, .ref (G.2.2 202)), (4, .int v4), (5, .int v5), (9, .int v9), (10, .int v10)] [.int s2, .int s1, .ref (G.2.2 0)] x := by
  have hk1 : KD G 0 6 := ⟨(sw_mem hsw 0).mpr (by decide), by decide +kernel⟩
  have hk3 : KD G 202 8 := ⟨(sw_mem hsw 202).mpr (by decide), by decide +kernel⟩
  have hbA : ¬ ((fun q => s.heap.size ≤ q) b) := Nat.not_le.mpr hbl
  unfold fL_law_b269 at hf
  obtain ⟨r269, c269, hf⟩ := oB hf
  refine b_callSi (As := [.int s1, .int s2]) (res := (r269, x)) C (metL_low l G _ _ _ _  c269) gkL_38 ekL_38 rfl ⟨rfl, rfl⟩ ⟨Nat.le_of_ble_eq_true rfl, Nat.le_of_ble_eq_true rfl⟩ (by simp [Value.category]) ⟨by show k ≤ 600130; omega, by show nn ≤ 7301080; omega⟩ rfl dL_law_269 ?_
  refine b_iload C dL_law_272 6 rfl ?_
  refine b_iload C dL_law_274 7 rfl ?_
  obtain ⟨r276, c276, hf⟩ := oB hf
  refine b_callSi (As := [.ref (G.2.2 0), .int r269, .int v9, .int v10]) (res := r276) C (metL_isAskingSo l G _ _ _ _ _ _ hk1 c276) gkL_110 ekL_110 rfl ⟨rfl, rfl⟩ ⟨Nat.le_of_ble_eq_true rfl, Nat.le_of_ble_eq_true rfl⟩ (by simp [Value.category]) ⟨by show k ≤ 600130; omega, by show nn ≤ 7301080; omega⟩ rfl dL_law_276 ?_
  refine b_if_eq (tgt := 317) C dL_law_279 (by decide) (fun c279 => ?_) (fun c279 => ?_)
  · have hf := iT c279 hf
    refine b_pm [0, 1, 2, 3] (lv' := [(0, .ref b), (1, .ref (G.2.2 0)), (2, .ref (G.2.2 101)), (3, .ref (G.2.2 202))]) rfl ?_
    exact wL_law_b317 (N := N) C T hl hsw hX hbl   hf (by omega) (by omega)
  · have hf := iF c279 hf
    refine b_aload_n C dL_law_282 rfl 1 rfl ?_
    refine b_iload C dL_law_283 5 rfl ?_
    refine b_bipush (v := 7) C dL_law_285 (by decide) ?_
    refine b_ishr C dL_law_287 ?_
    refine b_bipush (v := 10) C dL_law_288 (by decide) ?_
    obtain ⟨r290, c290, hf⟩ := oB hf
    refine b_callSi (As := [.int (v5 >>> ((7 : Int32) &&& 31)), .int 10]) (res := (r290, r276.2)) C (metL_low l G _ _ _ _  c290) gkL_38 ekL_38 rfl ⟨rfl, rfl⟩ ⟨Nat.le_of_ble_eq_true rfl, Nat.le_of_ble_eq_true rfl⟩ (by simp [Value.category]) ⟨by show k ≤ 600130; omega, by show nn ≤ 7301080; omega⟩ rfl dL_law_290 ?_
    refine b_iload C dL_law_293 5 rfl ?_
    refine b_bipush (v := 10) C dL_law_295 (by decide) ?_
    refine b_ishr C dL_law_297 ?_
    refine b_bipush (v := 12) C dL_law_298 (by decide) ?_
    obtain ⟨r300, c300, hf⟩ := oB hf
    refine b_callSi (As := [.int (v5 >>> ((10 : Int32) &&& 31)), .int 12]) (res := (r300, r276.2)) C (metL_low l G _ _ _ _  c300) gkL_38 ekL_38 rfl ⟨rfl, rfl⟩ ⟨Nat.le_of_ble_eq_true rfl, Nat.le_of_ble_eq_true rfl⟩ (by simp [Value.category]) ⟨by show k ≤ 600130; omega, by show nn ≤ 7301080; omega⟩ rfl dL_law_300 ?_
    obtain ⟨r303, c303, hf⟩ := oB hf
    refine b_callSi (As := [.ref (G.2.2 0), .int r290, .int r300]) (res := (r303, r276.2)) C (metL_isLongestSo l G _ _ _ _ _ hk1 c303) gkL_113 ekL_113 rfl ⟨rfl, rfl⟩ ⟨Nat.le_of_ble_eq_true rfl, Nat.le_of_ble_eq_true rfl⟩ (by simp [Value.category]) ⟨by show k ≤ 600130; omega, by show nn ≤ 7301080; omega⟩ rfl dL_law_303 ?_
    refine b_if_eq (tgt := 317) C dL_law_306 (by decide) (fun c306 => ?_) (fun c306 => ?_)
    · have hf := iT c306 hf
      refine b_pm [0, 1, 2, 3] (lv' := [(0, .ref b), (1, .ref (G.2.2 0)), (2, .ref (G.2.2 101)), (3, .ref (G.2.2 202))]) rfl ?_
      exact wL_law_b317 (N := N) C T hl hsw hX hbl   hf (by omega) (by omega)
    · have hf := iF c306 hf
      refine b_aload_n C dL_law_309 rfl 1 rfl ?_
      refine b_aload_n C dL_law_310 rfl 2 rfl ?_
      obtain ⟨r311, c311, hf⟩ := oB hf
      refine b_callSi (As := [.ref (G.2.2 0), .ref (G.2.2 101)]) (res := (r311, r276.2)) C (metL_areAlike l G 0 _ _ hk1 hsw c311) gkL_102 ekL_102 rfl ⟨rfl, rfl⟩ ⟨Nat.le_of_ble_eq_true rfl, Nat.le_of_ble_eq_true rfl⟩ (by simp [Value.category]) ⟨by show k ≤ 600130; omega, by show nn ≤ 7301080; omega⟩ rfl dL_law_311 ?_
      refine b_if_ne (tgt := 319) C dL_law_314 (by decide) (fun c314 => ?_) (fun c314 => ?_)
      · have hf := iF c314 hf
        refine b_pm [0, 1, 2, 3, 4] (lv' := [(0, .ref b), (1, .ref (G.2.2 0)), (2, .ref (G.2.2 101)), (3, .ref (G.2.2 202)), (4, .int v4)]) rfl ?_
        exact wL_law_b319 (N := N) C T hl hsw hX hbl h23  hf (by omega) (by omega)
      · have hf := iT c314 hf
        refine b_pm [0, 1, 2, 3] (lv' := [(0, .ref b), (1, .ref (G.2.2 0)), (2, .ref (G.2.2 101)), (3, .ref (G.2.2 202))]) rfl ?_
        exact wL_law_b317 (N := N) C T hl hsw hX hbl   hf (by omega) (by omega)
set_option maxHeartbeats 40000000 in
set_option maxRecDepth 100000 in
theorem wL_law_b226 {b N : Nat} {k23 : Int32 → xS → Option Int32} {L : Nat} {xs : Nat → Int32} (C : CT p s m #[Value.ref b] meth c cL_law 11 RL (some .boolean) G (fun q => s.heap.size ≤ q)) (T : TW (fun q => s.heap.size ≤ q) s s.heap) (hl : l.stackTraces = false) (hsw : SW G) (hX : va_X b L xs s s.heap) (hbl : b < s.heap.size) {v4 : Int32} {v5 : Int32} {v9 : Int32} {s0 : Int32} {s1 : Int32} {s2 : Int32} {x : xS} (h23 : ∀ (v4 : Int32) (x : xS), k23 v4 x = some 1 → ∀ k nn : Nat, k + 6 * N ≤ 600130 → nn + 36 * N ≤ 7301080 → WB p l e room_1 s m #[Value.ref b] below meth c 11 G (fun q => s.heap.size ≤ q) (lw_Z below #[Value.ref b] s) k nn 23 [(0, .ref b), (1, .ref (G.2.2 0)), (2, .ref (G.2.2 101)), (3, .ref (G.2.2 202)), (4, .int v4)] [] x) (hf : fL_law_b226 k23 L xs v4 v5 v9 s0 s1 s2 x = some 1) {k nn : Nat} (hkb : k + 0 + 6 * N ≤ 600130) (hnb : nn + 0 + 36 * N ≤ 7301080) : WB p l e room_1 s m #[Value.ref b] below meth c 11 G (fun q => s.heap.size ≤ q) (lw_Z below #[Value.ref b] s) k nn 226 [(0, .ref b), (1, .ref (G.2.2 0)), (2, .ref (G.2.2 101)), (3, .ref (G.2.2 202)), (4, .int v4), (5, .int v5), (9, .int v9)] [.int s2, .int s1, .int s0] x := by
  have hk1 : KD G 0 6 := ⟨(sw_mem hsw 0).mpr (by decide), by decide +kernel⟩
  have hk3 : KD G 202 8 := ⟨(sw_mem hsw 202).mpr (by decide), by decide +kernel⟩
  have hbA : ¬ ((fun q => s.heap.size ≤ q) b) := Nat.not_le.mpr hbl
  unfold fL_law_b226 at hf
  obtain ⟨r226, c226, hf⟩ := oB hf
  refine b_callSi (As := [.int s1, .int s2]) (res := (r226, x)) C (metL_low l G _ _ _ _  c226) gkL_38 ekL_38 rfl ⟨rfl, rfl⟩ ⟨Nat.le_of_ble_eq_true rfl, Nat.le_of_ble_eq_true rfl⟩ (by simp [Value.category]) ⟨by show k ≤ 600130; omega, by show nn ≤ 7301080; omega⟩ rfl dL_law_226 ?_
  refine b_iadd C dL_law_229 ?_
  obtain ⟨y230, e230, hf⟩ := lN1 hf
  rw [e230]
  refine b_istore (lv' := [(10, .int y230), (0, .ref b), (1, .ref (G.2.2 0)), (2, .ref (G.2.2 101)), (3, .ref (G.2.2 202)), (4, .int v4), (5, .int v5), (9, .int v9)]) C dL_law_230 (by decide) rfl ?_
  refine b_iload C dL_law_232 5 rfl ?_
  refine b_iconst (v := 2) C dL_law_234 (by decide) ?_
  refine b_irem C dL_law_235 (by decide) ?_
  refine b_iconst (v := 1) C dL_law_236 (by decide) ?_
  refine b_icmp_ne (tgt := 319) C dL_law_237 (by decide) (fun c237 => ?_) (fun c237 => ?_)
  · have hf := iF c237 hf
    refine b_pm [1, 2, 3, 4, 5] (lv' := [(0, .ref b), (1, .ref (G.2.2 0)), (2, .ref (G.2.2 101)), (3, .ref (G.2.2 202)), (4, .int v4)]) rfl ?_
    exact wL_law_b319 (N := N) C T hl hsw hX hbl h23  hf (by omega) (by omega)
  · have hf := iT c237 hf
    refine b_aload_n C dL_law_240 rfl 2 rfl ?_
    obtain ⟨r241, c241, hf⟩ := oB hf
    refine b_callSi (As := [.ref (G.2.2 0)]) (res := r241) C (metL_areSums l G _ _ _ hk1 c241) gkL_106 ekL_106 rfl ⟨rfl, rfl⟩ ⟨Nat.le_of_ble_eq_true rfl, Nat.le_of_ble_eq_true rfl⟩ (by simp [Value.category]) ⟨by show k ≤ 600130; omega, by show nn ≤ 7301080; omega⟩ rfl dL_law_241 ?_
    refine b_if_eq (tgt := 317) C dL_law_244 (by decide) (fun c244 => ?_) (fun c244 => ?_)
    · have hf := iT c244 hf
      refine b_pm [1, 2, 3, 4] (lv' := [(0, .ref b), (1, .ref (G.2.2 0)), (2, .ref (G.2.2 101)), (3, .ref (G.2.2 202))]) rfl ?_
      exact wL_law_b317 (N := N) C T hl hsw hX hbl   hf (by omega) (by omega)
    · have hf := iF c244 hf
      refine b_aload_n C dL_law_247 rfl 2 rfl ?_
      refine b_iload C dL_law_248 6 rfl ?_
      refine b_bipush (v := 6) C dL_law_250 (by decide) ?_
      refine b_ishr C dL_law_252 ?_
      refine b_iload C dL_law_253 6 rfl ?_
      refine b_bipush (v := 20) C dL_law_255 (by decide) ?_
      refine b_ishr C dL_law_257 ?_
      refine b_iconst (v := 1) C dL_law_258 (by decide) ?_
      refine b_iand C dL_law_259 ?_
      refine b_if_ne (tgt := 268) C dL_law_260 (by decide) (fun c260 => ?_) (fun c260 => ?_)
      · have hf := iF c260 hf
        refine b_iconst (v := 3) C dL_law_268 (by decide) ?_
        refine b_pm [1, 2, 3, 4, 5, 6, 7, 0] (lv' := [(0, .ref b), (1, .ref (G.2.2 0)), (2, .ref (G.2.2 101)), (3, .ref (G.2.2 202)), (4, .int v4), (5, .int v5), (9, .int v9), (10, .int y230)]) rfl ?_
        exact wL_law_b269 (N := N) C T hl hsw hX hbl h23  hf (by omega) (by omega)
      · have hf := iT c260 hf
        refine b_bipush (v := 10) C dL_law_263 (by decide) ?_
        refine b_goto (tgt := 269) C dL_law_265 (by decide) ?_
        refine b_pm [1, 2, 3, 4, 5, 6, 7, 0] (lv' := [(0, .ref b), (1, .ref (G.2.2 0)), (2, .ref (G.2.2 101)), (3, .ref (G.2.2 202)), (4, .int v4), (5, .int v5), (9, .int v9), (10, .int y230)]) rfl ?_
        exact wL_law_b269 (N := N) C T hl hsw hX hbl h23  hf (by omega) (by omega)
set_option maxHeartbeats 40000000 in
set_option maxRecDepth 100000 in
theorem wL_law_b178 {b N : Nat} {k23 : Int32 → xS → Option Int32} {L : Nat} {xs : Nat → Int32} (C : CT p s m #[Value.ref b] meth c cL_law 11 RL (some .boolean) G (fun q => s.heap.size ≤ q)) (T : TW (fun q => s.heap.size ≤ q) s s.heap) (hl : l.stackTraces = false) (hsw : SW G) (hX : va_X b L xs s s.heap) (hbl : b < s.heap.size) {v4 : Int32} {v5 : Int32} {x : xS} (h23 : ∀ (v4 : Int32) (x : xS), k23 v4 x = some 1 → ∀ k nn : Nat, k + 6 * N ≤ 600130 → nn + 36 * N ≤ 7301080 → WB p l e room_1 s m #[Value.ref b] below meth c 11 G (fun q => s.heap.size ≤ q) (lw_Z below #[Value.ref b] s) k nn 23 [(0, .ref b), (1, .ref (G.2.2 0)), (2, .ref (G.2.2 101)), (3, .ref (G.2.2 202)), (4, .int v4)] [] x) (hf : fL_law_b178 k23 L xs v4 v5 x = some 1) {k nn : Nat} (hkb : k + 0 + 6 * N ≤ 600130) (hnb : nn + 0 + 36 * N ≤ 7301080) : WB p l e room_1 s m #[Value.ref b] below meth c 11 G (fun q => s.heap.size ≤ q) (lw_Z below #[Value.ref b] s) k nn 178 [(0, .ref b), (1, .ref (G.2.2 0)), (2, .ref (G.2.2 101)), (3, .ref (G.2.2 202)), (4, .int v4), (5, .int v5)] [] x := by
  have hk1 : KD G 0 6 := ⟨(sw_mem hsw 0).mpr (by decide), by decide +kernel⟩
  have hk3 : KD G 202 8 := ⟨(sw_mem hsw 202).mpr (by decide), by decide +kernel⟩
  have hbA : ¬ ((fun q => s.heap.size ≤ q) b) := Nat.not_le.mpr hbl
  unfold fL_law_b178 at hf
  refine b_aload_n C dL_law_178 rfl 1 rfl ?_
  refine b_aload_n C dL_law_179 rfl 2 rfl ?_
  obtain ⟨r180, c180, hf⟩ := oB hf
  refine b_callSi (As := [.ref (G.2.2 0), .ref (G.2.2 101)]) (res := (r180, x)) C (metL_areAlike l G 0 _ _ hk1 hsw c180) gkL_102 ekL_102 rfl ⟨rfl, rfl⟩ ⟨Nat.le_of_ble_eq_true rfl, Nat.le_of_ble_eq_true rfl⟩ (by simp [Value.category]) ⟨by show k ≤ 600130; omega, by show nn ≤ 7301080; omega⟩ rfl dL_law_180 ?_
  refine b_if_ne (tgt := 188) C dL_law_183 (by decide) (fun c183 => ?_) (fun c183 => ?_)
  · have hf := iF c183 hf
    refine b_iload C dL_law_188 5 rfl ?_
    refine b_bipush (v := 8) C dL_law_190 (by decide) ?_
    refine b_ishr C dL_law_192 ?_
    refine b_bipush (v := 12) C dL_law_193 (by decide) ?_
    obtain ⟨r195, c195, hf⟩ := oB hf
    refine b_callSi (As := [.int (v5 >>> ((8 : Int32) &&& 31)), .int 12]) (res := (r195, x)) C (metL_low l G _ _ _ _  c195) gkL_38 ekL_38 rfl ⟨rfl, rfl⟩ ⟨Nat.le_of_ble_eq_true rfl, Nat.le_of_ble_eq_true rfl⟩ (by simp [Value.category]) ⟨by show k ≤ 600130; omega, by show nn ≤ 7301080; omega⟩ rfl dL_law_195 ?_
    refine b_istore (lv' := [(9, .int r195), (0, .ref b), (1, .ref (G.2.2 0)), (2, .ref (G.2.2 101)), (3, .ref (G.2.2 202)), (4, .int v4), (5, .int v5)]) C dL_law_198 (by decide) rfl ?_
    refine b_iconst (v := 1) C dL_law_200 (by decide) ?_
    refine b_iload C dL_law_201 6 rfl ?_
    refine b_bipush (v := 11) C dL_law_203 (by decide) ?_
    refine b_ishr C dL_law_205 ?_
    refine b_bipush (v := 12) C dL_law_206 (by decide) ?_
    refine b_iload C dL_law_208 0 rfl ?_
    refine b_isub C dL_law_210 ?_
    refine b_bipush (v := 9) C dL_law_211 (by decide) ?_
    refine b_icmp_ge (tgt := 224) C dL_law_213 (by decide) (fun c213 => ?_) (fun c213 => ?_)
    · have hf := iT c213 hf
      refine b_bipush (v := 9) C dL_law_224 (by decide) ?_
      refine b_pm [1, 2, 3, 4, 5, 6, 0] (lv' := [(0, .ref b), (1, .ref (G.2.2 0)), (2, .ref (G.2.2 101)), (3, .ref (G.2.2 202)), (4, .int v4), (5, .int v5), (9, .int r195)]) rfl ?_
      exact wL_law_b226 (N := N) C T hl hsw hX hbl h23  hf (by omega) (by omega)
    · have hf := iF c213 hf
      refine b_bipush (v := 12) C dL_law_216 (by decide) ?_
      refine b_iload C dL_law_218 0 rfl ?_
      refine b_isub C dL_law_220 ?_
      refine b_goto (tgt := 226) C dL_law_221 (by decide) ?_
      refine b_pm [1, 2, 3, 4, 5, 6, 0] (lv' := [(0, .ref b), (1, .ref (G.2.2 0)), (2, .ref (G.2.2 101)), (3, .ref (G.2.2 202)), (4, .int v4), (5, .int v5), (9, .int r195)]) rfl ?_
      exact wL_law_b226 (N := N) C T hl hsw hX hbl h23  hf (by omega) (by omega)
  · have hf := iT c183 hf
    refine b_pm [0, 1, 2, 3] (lv' := [(0, .ref b), (1, .ref (G.2.2 0)), (2, .ref (G.2.2 101)), (3, .ref (G.2.2 202))]) rfl ?_
    exact wL_law_b186 (N := N) C T hl hsw hX hbl   hf (by omega) (by omega)
set_option maxHeartbeats 40000000 in
set_option maxRecDepth 100000 in
theorem wL_law_b153 {b N : Nat} {k23 : Int32 → xS → Option Int32} {L : Nat} {xs : Nat → Int32} (C : CT p s m #[Value.ref b] meth c cL_law 11 RL (some .boolean) G (fun q => s.heap.size ≤ q)) (T : TW (fun q => s.heap.size ≤ q) s s.heap) (hl : l.stackTraces = false) (hsw : SW G) (hX : va_X b L xs s s.heap) (hbl : b < s.heap.size) {v4 : Int32} {v5 : Int32} {v7 : Int32} {v8 : Int32} {x : xS} (h23 : ∀ (v4 : Int32) (x : xS), k23 v4 x = some 1 → ∀ k nn : Nat, k + 6 * N ≤ 600130 → nn + 36 * N ≤ 7301080 → WB p l e room_1 s m #[Value.ref b] below meth c 11 G (fun q => s.heap.size ≤ q) (lw_Z below #[Value.ref b] s) k nn 23 [(0, .ref b), (1, .ref (G.2.2 0)), (2, .ref (G.2.2 101)), (3, .ref (G.2.2 202)), (4, .int v4)] [] x) (hf : fL_law_b153 k23 L xs v4 v5 v7 v8 x = some 1) {k nn : Nat} (hkb : k + 2 + 6 * N ≤ 600130) (hnb : nn + 12 + 36 * N ≤ 7301080) : WB p l e room_1 s m #[Value.ref b] below meth c 11 G (fun q => s.heap.size ≤ q) (lw_Z below #[Value.ref b] s) k nn 153 [(0, .ref b), (1, .ref (G.2.2 0)), (2, .ref (G.2.2 101)), (3, .ref (G.2.2 202)), (4, .int v4), (5, .int v5), (7, .int v7), (8, .int v8)] [] x := by
  have hk1 : KD G 0 6 := ⟨(sw_mem hsw 0).mpr (by decide), by decide +kernel⟩
  have hk3 : KD G 202 8 := ⟨(sw_mem hsw 202).mpr (by decide), by decide +kernel⟩
  have hbA : ¬ ((fun q => s.heap.size ≤ q) b) := Nat.not_le.mpr hbl
  unfold fL_law_b153 at hf
  refine b_aload_n C dL_law_153 rfl 2 rfl ?_
  refine b_iload C dL_law_154 5 rfl ?_
  refine b_aload_n C dL_law_156 rfl 3 rfl ?_
  obtain ⟨r157, c157, hf⟩ := oB hf
  refine b_callA_sw (As := [.ref (G.2.2 101), .int v5, .ref (G.2.2 202)]) (res := r157) (mc1 := 2) C T hsw (metL_act l (swG G) 0 _ 202 _ _ (sw_k0 hsw) (sw_k202 hsw) c157 hl) gkL_98 ekL_98 rfl ⟨rfl, rfl⟩ ⟨Nat.le_of_ble_eq_true rfl, Nat.le_of_ble_eq_true rfl⟩ (by simp [Value.category]) ⟨by show k + 2 ≤ 600130; omega, by show nn + 6 * 2 ≤ 7301080; omega⟩ rfl dL_law_157 ?_
  refine b_iload C dL_law_160 6 rfl ?_
  refine b_icmp_ne (tgt := 186) C dL_law_162 (by decide) (fun c162 => ?_) (fun c162 => ?_)
  · have hf := iF c162 hf
    refine b_pm [0, 1, 2, 3] (lv' := [(0, .ref b), (1, .ref (G.2.2 0)), (2, .ref (G.2.2 101)), (3, .ref (G.2.2 202))]) rfl ?_
    exact wL_law_b186 (N := N) C T hl hsw hX hbl   hf (by omega) (by omega)
  · have hf := iT c162 hf
    refine b_iload C dL_law_165 6 rfl ?_
    refine b_if_ne (tgt := 178) C dL_law_167 (by decide) (fun c167 => ?_) (fun c167 => ?_)
    · have hf := iF c167 hf
      refine b_pm [0, 1, 2, 3, 4, 5] (lv' := [(0, .ref b), (1, .ref (G.2.2 0)), (2, .ref (G.2.2 101)), (3, .ref (G.2.2 202)), (4, .int v4), (5, .int v5)]) rfl ?_
      exact wL_law_b178 (N := N) C T hl hsw hX hbl h23  hf (by omega) (by omega)
    · have hf := iT c167 hf
      refine b_aload_n C dL_law_170 rfl 3 rfl ?_
      refine b_iconst (v := 0) C dL_law_171 (by decide) ?_
      obtain ⟨g172, hf⟩ := iN hf
      refine b_iald C hk3 g172 dL_law_172 ?_
      refine b_iload C dL_law_173 7 rfl ?_
      refine b_icmp_ne (tgt := 186) C dL_law_175 (by decide) (fun c175 => ?_) (fun c175 => ?_)
      · have hf := iF c175 hf
        refine b_pm [0, 1, 2, 3] (lv' := [(0, .ref b), (1, .ref (G.2.2 0)), (2, .ref (G.2.2 101)), (3, .ref (G.2.2 202))]) rfl ?_
        exact wL_law_b186 (N := N) C T hl hsw hX hbl   hf (by omega) (by omega)
      · have hf := iT c175 hf
        refine b_pm [0, 1, 2, 3, 4, 5] (lv' := [(0, .ref b), (1, .ref (G.2.2 0)), (2, .ref (G.2.2 101)), (3, .ref (G.2.2 202)), (4, .int v4), (5, .int v5)]) rfl ?_
        exact wL_law_b178 (N := N) C T hl hsw hX hbl h23  hf (by omega) (by omega)
set_option maxHeartbeats 40000000 in
set_option maxRecDepth 100000 in
theorem wL_law_b151 {b N : Nat} {L : Nat} {xs : Nat → Int32} (C : CT p s m #[Value.ref b] meth c cL_law 11 RL (some .boolean) G (fun q => s.heap.size ≤ q)) (T : TW (fun q => s.heap.size ≤ q) s s.heap) (hl : l.stackTraces = false) (hsw : SW G) (hX : va_X b L xs s s.heap) (hbl : b < s.heap.size) {x : xS} (hf : fL_law_b151 L xs x = some 1) {k nn : Nat} (hkb : k + 0 + 6 * N ≤ 600130) (hnb : nn + 0 + 36 * N ≤ 7301080) : WB p l e room_1 s m #[Value.ref b] below meth c 11 G (fun q => s.heap.size ≤ q) (lw_Z below #[Value.ref b] s) k nn 151 [(0, .ref b), (1, .ref (G.2.2 0)), (2, .ref (G.2.2 101)), (3, .ref (G.2.2 202))] [] x := by
  have hk1 : KD G 0 6 := ⟨(sw_mem hsw 0).mpr (by decide), by decide +kernel⟩
  have hk3 : KD G 202 8 := ⟨(sw_mem hsw 202).mpr (by decide), by decide +kernel⟩
  have hbA : ¬ ((fun q => s.heap.size ≤ q) b) := Nat.not_le.mpr hbl
  unfold fL_law_b151 at hf
  refine b_iconst (v := 0) C dL_law_151 (by decide) ?_
  exact absurd (Option.some.inj hf) (by decide)
set_option maxHeartbeats 40000000 in
set_option maxRecDepth 100000 in
theorem wL_law_b122 {b N : Nat} {k23 : Int32 → xS → Option Int32} {L : Nat} {xs : Nat → Int32} (C : CT p s m #[Value.ref b] meth c cL_law 11 RL (some .boolean) G (fun q => s.heap.size ≤ q)) (T : TW (fun q => s.heap.size ≤ q) s s.heap) (hl : l.stackTraces = false) (hsw : SW G) (hX : va_X b L xs s s.heap) (hbl : b < s.heap.size) {v4 : Int32} {v5 : Int32} {v7 : Int32} {v8 : Int32} {s0 : Int32} {s1 : Int32} {x : xS} (h23 : ∀ (v4 : Int32) (x : xS), k23 v4 x = some 1 → ∀ k nn : Nat, k + 6 * N ≤ 600130 → nn + 36 * N ≤ 7301080 → WB p l e room_1 s m #[Value.ref b] below meth c 11 G (fun q => s.heap.size ≤ q) (lw_Z below #[Value.ref b] s) k nn 23 [(0, .ref b), (1, .ref (G.2.2 0)), (2, .ref (G.2.2 101)), (3, .ref (G.2.2 202)), (4, .int v4)] [] x) (hf : fL_law_b122 k23 L xs v4 v5 v7 v8 s0 s1 x = some 1) {k nn : Nat} (hkb : k + 4 + 6 * N ≤ 600130) (hnb : nn + 24 + 36 * N ≤ 7301080) : WB p l e room_1 s m #[Value.ref b] below meth c 11 G (fun q => s.heap.size ≤ q) (lw_Z below #[Value.ref b] s) k nn 122 [(0, .ref b), (1, .ref (G.2.2 0)), (2, .ref (G.2.2 101)), (3, .ref (G.2.2 202)), (4, .int v4), (5, .int v5), (7, .int v7), (8, .int v8)] [.int s1, .int s0] x := by
  have hk1 : KD G 0 6 := ⟨(sw_mem hsw 0).mpr (by decide), by decide +kernel⟩
  have hk3 : KD G 202 8 := ⟨(sw_mem hsw 202).mpr (by decide), by decide +kernel⟩
  have hbA : ¬ ((fun q => s.heap.size ≤ q) b) := Nat.not_le.mpr hbl
  unfold fL_law_b122 at hf
  refine b_icmp_ne (tgt := 151) C dL_law_122 (by decide) (fun c122 => ?_) (fun c122 => ?_)
  · have hf := iF c122 hf
    refine b_pm [0, 1, 2, 3] (lv' := [(0, .ref b), (1, .ref (G.2.2 0)), (2, .ref (G.2.2 101)), (3, .ref (G.2.2 202))]) rfl ?_
    exact wL_law_b151 (N := N) C T hl hsw hX hbl   hf (by omega) (by omega)
  · have hf := iT c122 hf
    refine b_aload_n C dL_law_125 rfl 1 rfl ?_
    refine b_aload_n C dL_law_126 rfl 2 rfl ?_
    obtain ⟨r127, c127, hf⟩ := oB hf
    refine b_callSi (As := [.ref (G.2.2 0), .ref (G.2.2 101)]) (res := (r127, x)) C (metL_areAlike l G 0 _ _ hk1 hsw c127) gkL_102 ekL_102 rfl ⟨rfl, rfl⟩ ⟨Nat.le_of_ble_eq_true rfl, Nat.le_of_ble_eq_true rfl⟩ (by simp [Value.category]) ⟨by show k ≤ 600130; omega, by show nn ≤ 7301080; omega⟩ rfl dL_law_127 ?_
    refine b_if_eq (tgt := 151) C dL_law_130 (by decide) (fun c130 => ?_) (fun c130 => ?_)
    · have hf := iT c130 hf
      refine b_pm [0, 1, 2, 3] (lv' := [(0, .ref b), (1, .ref (G.2.2 0)), (2, .ref (G.2.2 101)), (3, .ref (G.2.2 202))]) rfl ?_
      exact wL_law_b151 (N := N) C T hl hsw hX hbl   hf (by omega) (by omega)
    · have hf := iF c130 hf
      refine b_aload_n C dL_law_133 rfl 1 rfl ?_
      refine b_iload C dL_law_134 5 rfl ?_
      refine b_aload_n C dL_law_136 rfl 3 rfl ?_
      obtain ⟨r137, c137, hf⟩ := oB hf
      refine b_callA (As := [.ref (G.2.2 0), .int v5, .ref (G.2.2 202)]) (res := r137) (mc1 := 2) C T (metL_act l G 0 _ 202 _ _ hk1 hk3 c137 hl) gkL_98 ekL_98 rfl ⟨rfl, rfl⟩ ⟨Nat.le_of_ble_eq_true rfl, Nat.le_of_ble_eq_true rfl⟩ (by simp [Value.category]) ⟨by show k + 2 ≤ 600130; omega, by show nn + 6 * 2 ≤ 7301080; omega⟩ rfl dL_law_137 ?_
      refine b_if_ne (tgt := 151) C dL_law_140 (by decide) (fun c140 => ?_) (fun c140 => ?_)
      · have hf := iF c140 hf
        refine b_pm [0, 1, 2, 3] (lv' := [(0, .ref b), (1, .ref (G.2.2 0)), (2, .ref (G.2.2 101)), (3, .ref (G.2.2 202))]) rfl ?_
        exact wL_law_b151 (N := N) C T hl hsw hX hbl   hf (by omega) (by omega)
      · have hf := iT c140 hf
        refine b_aload_n C dL_law_143 rfl 3 rfl ?_
        refine b_iconst (v := 0) C dL_law_144 (by decide) ?_
        obtain ⟨g145, hf⟩ := iN hf
        refine b_iald C hk3 g145 dL_law_145 ?_
        refine b_iload C dL_law_146 7 rfl ?_
        refine b_icmp_eq (tgt := 153) C dL_law_148 (by decide) (fun c148 => ?_) (fun c148 => ?_)
        · have hf := iT c148 hf
          exact wL_law_b153 (N := N) C T hl hsw hX hbl h23  hf (by omega) (by omega)
        · have hf := iF c148 hf
          refine b_pm [0, 1, 2, 3] (lv' := [(0, .ref b), (1, .ref (G.2.2 0)), (2, .ref (G.2.2 101)), (3, .ref (G.2.2 202))]) rfl ?_
          exact wL_law_b151 (N := N) C T hl hsw hX hbl   hf (by omega) (by omega)
set_option maxHeartbeats 40000000 in
set_option maxRecDepth 100000 in
theorem wL_law_b86 {b N : Nat} {k23 : Int32 → xS → Option Int32} {L : Nat} {xs : Nat → Int32} (C : CT p s m #[Value.ref b] meth c cL_law 11 RL (some .boolean) G (fun q => s.heap.size ≤ q)) (T : TW (fun q => s.heap.size ≤ q) s s.heap) (hl : l.stackTraces = false) (hsw : SW G) (hX : va_X b L xs s s.heap) (hbl : b < s.heap.size) {v4 : Int32} {v5 : Int32} {v6 : Int32} {v7 : Int32} {v8 : Int32} {x : xS} (h23 : ∀ (v4 : Int32) (x : xS), k23 v4 x = some 1 → ∀ k nn : Nat, k + 6 * N ≤ 600130 → nn + 36 * N ≤ 7301080 → WB p l e room_1 s m #[Value.ref b] below meth c 11 G (fun q => s.heap.size ≤ q) (lw_Z below #[Value.ref b] s) k nn 23 [(0, .ref b), (1, .ref (G.2.2 0)), (2, .ref (G.2.2 101)), (3, .ref (G.2.2 202)), (4, .int v4)] [] x) (hf : fL_law_b86 k23 L xs v4 v5 v6 v7 v8 x = some 1) {k nn : Nat} (hkb : k + 4 + 6 * N ≤ 600130) (hnb : nn + 24 + 36 * N ≤ 7301080) : WB p l e room_1 s m #[Value.ref b] below meth c 11 G (fun q => s.heap.size ≤ q) (lw_Z below #[Value.ref b] s) k nn 86 [(0, .ref b), (1, .ref (G.2.2 0)), (2, .ref (G.2.2 101)), (3, .ref (G.2.2 202)), (4, .int v4), (5, .int v5), (6, .int v6), (7, .int v7), (8, .int v8)] [] x := by
  have hk1 : KD G 0 6 := ⟨(sw_mem hsw 0).mpr (by decide), by decide +kernel⟩
  have hk3 : KD G 202 8 := ⟨(sw_mem hsw 202).mpr (by decide), by decide +kernel⟩
  have hbA : ¬ ((fun q => s.heap.size ≤ q) b) := Nat.not_le.mpr hbl
  unfold fL_law_b86 at hf
  refine b_iload C dL_law_86 7 rfl ?_
  refine b_if_ne (tgt := 153) C dL_law_88 (by decide) (fun c88 => ?_) (fun c88 => ?_)
  · have hf := iF c88 hf
    refine b_pm [0, 1, 2, 3, 4, 5, 7, 8] (lv' := [(0, .ref b), (1, .ref (G.2.2 0)), (2, .ref (G.2.2 101)), (3, .ref (G.2.2 202)), (4, .int v4), (5, .int v5), (7, .int v7), (8, .int v8)]) rfl ?_
    exact wL_law_b153 (N := N) C T hl hsw hX hbl h23  hf (by omega) (by omega)
  · have hf := iT c88 hf
    refine b_iload C dL_law_91 5 rfl ?_
    refine b_bipush (v := 9) C dL_law_93 (by decide) ?_
    refine b_ishr C dL_law_95 ?_
    refine b_iconst (v := 1) C dL_law_96 (by decide) ?_
    refine b_iand C dL_law_97 ?_
    refine b_if_ne (tgt := 153) C dL_law_98 (by decide) (fun c98 => ?_) (fun c98 => ?_)
    · have hf := iF c98 hf
      refine b_pm [0, 1, 2, 3, 4, 5, 7, 8] (lv' := [(0, .ref b), (1, .ref (G.2.2 0)), (2, .ref (G.2.2 101)), (3, .ref (G.2.2 202)), (4, .int v4), (5, .int v5), (7, .int v7), (8, .int v8)]) rfl ?_
      exact wL_law_b153 (N := N) C T hl hsw hX hbl h23  hf (by omega) (by omega)
    · have hf := iT c98 hf
      refine b_aload_n C dL_law_101 rfl 1 rfl ?_
      obtain ⟨r102, c102, hf⟩ := oB hf
      refine b_callVi (K := 6) (As := []) (res := r102) C (metpX6_undo l G _ _ _ hk1 c102) hk1 (by decide) rfl gkL_87 ekL_87 rfl ⟨rfl, rfl⟩ ⟨Nat.le_of_ble_eq_true rfl, Nat.le_of_ble_eq_true rfl⟩ (by simp [Value.category]) ⟨by show k ≤ 600130; omega, by show nn ≤ 7301080; omega⟩ rfl dL_law_102 ?_
      refine b_istore (lv' := [(9, .int r102.1), (0, .ref b), (1, .ref (G.2.2 0)), (2, .ref (G.2.2 101)), (3, .ref (G.2.2 202)), (4, .int v4), (5, .int v5), (6, .int v6), (7, .int v7), (8, .int v8)]) C dL_law_105 (by decide) rfl ?_
      refine b_iload C dL_law_107 0 rfl ?_
      refine b_iload C dL_law_109 7 rfl ?_
      refine b_bipush (v := 6) C dL_law_111 (by decide) ?_
      refine b_icmp_ne (tgt := 120) C dL_law_113 (by decide) (fun c113 => ?_) (fun c113 => ?_)
      · have hf := iF c113 hf
        refine b_iload C dL_law_120 7 rfl ?_
        refine b_pm [1, 2, 3, 4, 5, 6, 8, 9] (lv' := [(0, .ref b), (1, .ref (G.2.2 0)), (2, .ref (G.2.2 101)), (3, .ref (G.2.2 202)), (4, .int v4), (5, .int v5), (7, .int v7), (8, .int v8)]) rfl ?_
        exact wL_law_b122 (N := N) C T hl hsw hX hbl h23  hf (by omega) (by omega)
      · have hf := iT c113 hf
        refine b_iconst (v := 5) C dL_law_116 (by decide) ?_
        refine b_goto (tgt := 122) C dL_law_117 (by decide) ?_
        refine b_pm [1, 2, 3, 4, 5, 6, 8, 9] (lv' := [(0, .ref b), (1, .ref (G.2.2 0)), (2, .ref (G.2.2 101)), (3, .ref (G.2.2 202)), (4, .int v4), (5, .int v5), (7, .int v7), (8, .int v8)]) rfl ?_
        exact wL_law_b122 (N := N) C T hl hsw hX hbl h23  hf (by omega) (by omega)
set_option maxHeartbeats 40000000 in
set_option maxRecDepth 100000 in
theorem wL_law_b84 {b N : Nat} {L : Nat} {xs : Nat → Int32} (C : CT p s m #[Value.ref b] meth c cL_law 11 RL (some .boolean) G (fun q => s.heap.size ≤ q)) (T : TW (fun q => s.heap.size ≤ q) s s.heap) (hl : l.stackTraces = false) (hsw : SW G) (hX : va_X b L xs s s.heap) (hbl : b < s.heap.size) {x : xS} (hf : fL_law_b84 L xs x = some 1) {k nn : Nat} (hkb : k + 0 + 6 * N ≤ 600130) (hnb : nn + 0 + 36 * N ≤ 7301080) : WB p l e room_1 s m #[Value.ref b] below meth c 11 G (fun q => s.heap.size ≤ q) (lw_Z below #[Value.ref b] s) k nn 84 [(0, .ref b), (1, .ref (G.2.2 0)), (2, .ref (G.2.2 101)), (3, .ref (G.2.2 202))] [] x := by
  have hk1 : KD G 0 6 := ⟨(sw_mem hsw 0).mpr (by decide), by decide +kernel⟩
  have hk3 : KD G 202 8 := ⟨(sw_mem hsw 202).mpr (by decide), by decide +kernel⟩
  have hbA : ¬ ((fun q => s.heap.size ≤ q) b) := Nat.not_le.mpr hbl
  unfold fL_law_b84 at hf
  refine b_iconst (v := 0) C dL_law_84 (by decide) ?_
  exact absurd (Option.some.inj hf) (by decide)
set_option maxHeartbeats 40000000 in
set_option maxRecDepth 100000 in
theorem wL_law_b23 {b : Nat} {L : Nat} {xs : Nat → Int32} (C : CT p s m #[Value.ref b] meth c cL_law 11 RL (some .boolean) G (fun q => s.heap.size ≤ q)) (T : TW (fun q => s.heap.size ≤ q) s s.heap) (hl : l.stackTraces = false) (hsw : SW G) (hX : va_X b L xs s s.heap) (hbl : b < s.heap.size) : ∀ (n : Nat) (v4 : Int32) (x : xS), fL_law_b23 L xs n v4 x = some 1 → ∀ k nn : Nat, k + 6 * n ≤ 600130 → nn + 36 * n ≤ 7301080 → WB p l e room_1 s m #[Value.ref b] below meth c 11 G (fun q => s.heap.size ≤ q) (lw_Z below #[Value.ref b] s) k nn 23 [(0, .ref b), (1, .ref (G.2.2 0)), (2, .ref (G.2.2 101)), (3, .ref (G.2.2 202)), (4, .int v4)] [] x := by
  intro n
  induction n with
  | zero =>
    intro v4 x hf
    cases hf
  | succ n ih =>
    intro v4 x hf k nn hkb hnb
    have hk1 : KD G 0 6 := ⟨(sw_mem hsw 0).mpr (by decide), by decide +kernel⟩
    have hk3 : KD G 202 8 := ⟨(sw_mem hsw 202).mpr (by decide), by decide +kernel⟩
    have hbA : ¬ ((fun q => s.heap.size ≤ q) b) := Nat.not_le.mpr hbl
    rw [fL_law_b23] at hf
    refine b_iload C dL_law_23 4 rfl ?_
    refine b_bipush (v := 60) C dL_law_25 (by decide) ?_
    refine b_icmp_ge (tgt := 325) C dL_law_27 (by decide) (fun c27 => ?_) (fun c27 => ?_)
    · have hf := iT c27 hf
      refine b_aload_n C dL_law_325 rfl 1 rfl ?_
      obtain ⟨r326, c326, hf⟩ := oB hf
      refine b_callSi (As := [.ref (G.2.2 0)]) (res := r326) C (metL_areSums l G _ _ _ hk1 c326) gkL_106 ekL_106 rfl ⟨rfl, rfl⟩ ⟨Nat.le_of_ble_eq_true rfl, Nat.le_of_ble_eq_true rfl⟩ (by simp [Value.category]) ⟨by show k ≤ 600130; omega, by show nn ≤ 7301080; omega⟩ rfl dL_law_326 ?_
      have e9 : r326.1 = 1 := Option.some.inj hf
      rw [e9]
      exact b_law1 C dL_law_329 (by omega) (by omega)
    · have hf := iF c27 hf
      refine b_aload_n C dL_law_30 rfl 0 rfl ?_
      refine b_iload C dL_law_31 4 rfl ?_
      obtain ⟨r33, c33, hf⟩ := oB hf
      refine b_callC (v1 := v4) (res := (r33, x)) C hX hbl hbA (metL_cell l G b L xs _ _ _ c33) gkL_94 ekL_94 rfl ⟨rfl, rfl⟩ ⟨Nat.le_of_ble_eq_true rfl, Nat.le_of_ble_eq_true rfl⟩ (by simp [Value.category]) ⟨by show k ≤ 600130; omega, by show nn ≤ 7301080; omega⟩ rfl dL_law_33 ?_
      refine b_istore (lv' := [(5, .int r33), (0, .ref b), (1, .ref (G.2.2 0)), (2, .ref (G.2.2 101)), (3, .ref (G.2.2 202)), (4, .int v4)]) C dL_law_36 (by decide) rfl ?_
      refine b_aload_n C dL_law_38 rfl 2 rfl ?_
      refine b_bipush (v := 11) C dL_law_39 (by decide) ?_
      obtain ⟨r41, c41, hf⟩ := oB hf
      refine b_callVi (K := 6) (As := [.int 11]) (res := (r41, x)) C (metpX6_count l G _ _ _ _ hk1 c41) hk1 (by decide) rfl gkL_53 ekL_53 rfl ⟨rfl, rfl⟩ ⟨Nat.le_of_ble_eq_true rfl, Nat.le_of_ble_eq_true rfl⟩ (by simp [Value.category]) ⟨by show k ≤ 600130; omega, by show nn ≤ 7301080; omega⟩ rfl dL_law_41 ?_
      refine b_istore (lv' := [(6, .int r41), (5, .int r33), (0, .ref b), (1, .ref (G.2.2 0)), (2, .ref (G.2.2 101)), (3, .ref (G.2.2 202)), (4, .int v4)]) C dL_law_44 (by decide) rfl ?_
      refine b_aload_n C dL_law_46 rfl 3 rfl ?_
      refine b_iload C dL_law_47 1 rfl ?_
      refine b_aload_n C dL_law_49 rfl 5 rfl ?_
      obtain ⟨r50, c50, hf⟩ := oB hf
      refine b_callA (As := [.ref (G.2.2 0), .int r33, .ref (G.2.2 202)]) (res := r50) (mc1 := 2) C T (metL_act l G 0 _ 202 _ _ hk1 hk3 c50 hl) gkL_98 ekL_98 rfl ⟨rfl, rfl⟩ ⟨Nat.le_of_ble_eq_true rfl, Nat.le_of_ble_eq_true rfl⟩ (by simp [Value.category]) ⟨by show k + 2 ≤ 600130; omega, by show nn + 6 * 2 ≤ 7301080; omega⟩ rfl dL_law_50 ?_
      refine b_istore (lv' := [(7, .int r50.1), (6, .int r41), (5, .int r33), (0, .ref b), (1, .ref (G.2.2 0)), (2, .ref (G.2.2 101)), (3, .ref (G.2.2 202)), (4, .int v4)]) C dL_law_53 (by decide) rfl ?_
      refine b_aload_n C dL_law_55 rfl 6 rfl ?_
      refine b_iconst (v := 0) C dL_law_56 (by decide) ?_
      obtain ⟨g57, hf⟩ := iN hf
      refine b_iald C hk3 g57 dL_law_57 ?_
      obtain ⟨y58, e58, hf⟩ := lN1 hf
      rw [e58]
      refine b_istore (lv' := [(8, .int y58), (7, .int r50.1), (6, .int r41), (5, .int r33), (0, .ref b), (1, .ref (G.2.2 0)), (2, .ref (G.2.2 101)), (3, .ref (G.2.2 202)), (4, .int v4)]) C dL_law_58 (by decide) rfl ?_
      refine b_iload C dL_law_60 1 rfl ?_
      refine b_if_eq (tgt := 86) C dL_law_62 (by decide) (fun c62 => ?_) (fun c62 => ?_)
      · have hf := iT c62 hf
        refine b_pm [4, 5, 6, 7, 8, 3, 2, 1, 0] (lv' := [(0, .ref b), (1, .ref (G.2.2 0)), (2, .ref (G.2.2 101)), (3, .ref (G.2.2 202)), (4, .int v4), (5, .int r33), (6, .int r41), (7, .int r50.1), (8, .int y58)]) rfl ?_
        exact wL_law_b86 (N := n) C T hl hsw hX hbl ih  hf (by omega) (by omega)
      · have hf := iF c62 hf
        refine b_aload_n C dL_law_65 rfl 5 rfl ?_
        refine b_aload_n C dL_law_66 rfl 6 rfl ?_
        obtain ⟨r67, c67, hf⟩ := oB hf
        refine b_callSi (As := [.ref (G.2.2 0), .ref (G.2.2 101)]) (res := (r67, r50.2)) C (metL_areAlike l G 0 _ _ hk1 hsw c67) gkL_102 ekL_102 rfl ⟨rfl, rfl⟩ ⟨Nat.le_of_ble_eq_true rfl, Nat.le_of_ble_eq_true rfl⟩ (by simp [Value.category]) ⟨by show k + 2 ≤ 600130; omega, by show nn + 6 * 2 ≤ 7301080; omega⟩ rfl dL_law_67 ?_
        refine b_if_eq (tgt := 84) C dL_law_70 (by decide) (fun c70 => ?_) (fun c70 => ?_)
        · have hf := iT c70 hf
          refine b_pm [4, 5, 6, 7] (lv' := [(0, .ref b), (1, .ref (G.2.2 0)), (2, .ref (G.2.2 101)), (3, .ref (G.2.2 202))]) rfl ?_
          exact wL_law_b84 (N := n) C T hl hsw hX hbl   hf (by omega) (by omega)
        · have hf := iF c70 hf
          refine b_aload_n C dL_law_73 rfl 5 rfl ?_
          refine b_bipush (v := 11) C dL_law_74 (by decide) ?_
          obtain ⟨r76, c76, hf⟩ := oB hf
          refine b_callVi (K := 6) (As := [.int 11]) (res := (r76, r50.2)) C (metpX6_count l G _ _ _ _ hk1 c76) hk1 (by decide) rfl gkL_53 ekL_53 rfl ⟨rfl, rfl⟩ ⟨Nat.le_of_ble_eq_true rfl, Nat.le_of_ble_eq_true rfl⟩ (by simp [Value.category]) ⟨by show k + 2 ≤ 600130; omega, by show nn + 6 * 2 ≤ 7301080; omega⟩ rfl dL_law_76 ?_
          refine b_iload C dL_law_79 2 rfl ?_
          refine b_icmp_eq (tgt := 86) C dL_law_81 (by decide) (fun c81 => ?_) (fun c81 => ?_)
          · have hf := iT c81 hf
            refine b_pm [4, 5, 6, 7, 8, 3, 2, 1, 0] (lv' := [(0, .ref b), (1, .ref (G.2.2 0)), (2, .ref (G.2.2 101)), (3, .ref (G.2.2 202)), (4, .int v4), (5, .int r33), (6, .int r41), (7, .int r50.1), (8, .int y58)]) rfl ?_
            exact wL_law_b86 (N := n) C T hl hsw hX hbl ih  hf (by omega) (by omega)
          · have hf := iF c81 hf
            refine b_pm [4, 5, 6, 7] (lv' := [(0, .ref b), (1, .ref (G.2.2 0)), (2, .ref (G.2.2 101)), (3, .ref (G.2.2 202))]) rfl ?_
            exact wL_law_b84 (N := n) C T hl hsw hX hbl   hf (by omega) (by omega)
end
