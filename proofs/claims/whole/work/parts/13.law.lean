/-! THE CLAIM OUT OF ONE WALK OF THE LAW'S BODY. Your part is whole_start (and what it stands on); all else here is the same for every law, but numbers. -/
def R_law : String := "SevenAsksLaw"
def lw_P (b : Addr) (xs : List Int32) (args : Array Value) (s : State) : Prop := args = #[.ref b] ∧ s.IntsAt b xs ∧ xs.length ≤ 2048 ∧ (Jvm.Cond.and given_1 narrow_1).before args s = true
/-- what a walk over the start with the record d0 says of its end, said of the start itself -/
theorem lw_closed {s t : State} {o : Outcome} {d0 : Drawn} {L : List Loc} {k n : Nat} (hd0 : s.drawn.sameBut d0 lw_cs) (hv : ∃ v, o = .returned v) (hW : (s.setDrawn d0).WarmedH t.vm) (hs : (s.setDrawn d0).sameButNew ({ t with vm := s.vm } : State) L k n) : State.butDraws s t lw_cs (fun t1 => Framed s o t1 L k n) := by
  have h2 : t.drawn = d0 := congrArg State.drawn hs.1
  refine ⟨⟨hv, hW, State.sameButNew.setDrawn hs s.drawn⟩, ?_, by decide⟩
  rw [h2]
  exact hd0
def lw_Q (_ : Array Value) (s : State) (o : Outcome) (t : State) : Prop := o = .returned (some (.int 1)) ∧ State.butDraws s t lw_cs (fun t1 => Framed s o t1 [] 601024 7293034)
def lw_Z (below : List Frame) (a : Array Value) (s : State) : State → Prop := fun t => ∃ o, t.status = .running ∧ Ended t below o ∧ lw_Q a s o t
/-- the law's own end, with 1 on the stack, nothing written that was there before, its room as the claim has it; d0: the record of draws at this point (at the entry s.drawn: begin with 'refine W.base ?_' and 'have hd0 := Drawn.sameBut.refl s.drawn lw_cs') -/
theorem lw_ret {p : Program} {l : Launch} {e : Env} {s : State} {m : MethodId} {below : List Frame} {meth : Method} {c : Code} {b : Nat} {d0 : Drawn} (hd0 : s.drawn.sameBut d0 lw_cs) (hx : p.tables.exec = Jvm.exec) (hb : c.code = code) (hr : meth.sig.returnType = ret) (hlocks : meth.locks = false) {pc : Nat} {H : Heap} {ls : Array Slot} (hdg : decode code pc = .ok (.ireturn, 1)) : W p l e room_1 (s.setDrawn d0) m #[Value.ref b] below meth c H [] 601024 7293034 (lw_Z below #[Value.ref b] s) (F0 m pc ls [.int 1]) := by
  intro T hT X
  obtain ⟨fs, hret, hrun, hended, hW, hframe⟩ := X.leave (v := some (.int 1)) (hlocks := hlocks) (fun h => by rw [hr] at h; cases h)
  have hmeth' : T.vm.method? m = some meth := X.method'
  refine ⟨T.setFrames fs, ?_, .returned (some (.int 1)), hrun, hended, rfl, lw_closed hd0 ⟨_, rfl⟩ hW hframe⟩
  jvm_step X.here [X.here.top, hx, hb, hdg, hmeth', hr, ret, narrow_b1]
  (try refine ⟨rfl, ?_⟩); (try refine ⟨rfl, ?_⟩)
  first | (intro acts; rw [hret _ acts rfl rfl rfl]) | rw [hret _ _ rfl rfl rfl]
  exact Steps.refl _
/-- what holds at the law's entry: the machine, the code, the tables' words (any of lw_tbl by 'hts w (by decide +kernel)'), the script of L ints xs at the cell b, what the Statement gives of the start (any of its parts by flat_of_before) -/
def lw_At (p : Program) (s : State) (m : MethodId) (meth : Method) (c : Code) (b L : Nat) (xs : Nat → Int32) : Prop :=
  p.tables.exec = Jvm.exec ∧ c.code = code ∧ meth.sig.returnType = ret ∧ c.maxLocals = 9 ∧ s.vm.findClass R_law = some m.cls ∧ (∀ w ∈ lw_tbl, w.before #[Value.ref b] s = true) ∧ va_X b L xs s s.heap ∧ b < s.heap.size ∧ meth.locks = false ∧ (Jvm.Cond.and given_1 narrow_1).before #[Value.ref b] s = true
theorem gw_SW {own : String} {idx : Nat} {y : MethodName} {b : ByteArray} {n : Nat} {r : Option FieldType} {hh : List (Nat × Nat × Nat × Nat)} (h1 : Cond.methodLink own idx y ∈ AW) (h2 : Cond.static y ∈ AW) (h3 : Cond.initialized y.cls ∈ AW) (h4 : Cond.codeWith y b n r hh ∈ AW) : GoodIn AW (va_wsS own idx y (wsW y b n r hh)) := by
  intro w hw
  rcases List.mem_append.mp hw with hw | hw
  · simp only [List.mem_cons, List.not_mem_nil, or_false] at hw
    rcases hw with rfl | rfl | rfl
    · exact AW_good _ h1
    · exact AW_good _ h2
    · exact AW_good _ h3
  · rcases List.mem_cons.mp hw with rfl | hw
    · exact AW_good _ h4
    · exact AW_good _ hw
theorem gkL_80 : GoodIn AW (va_wsS RL 80 yL_ask (wsW yL_ask cL_ask 6 (some .int) [(0, 12, 15, 13), (0, 12, 19, 15)])) := gw_SW w_664 w_665 w_666 w_577
theorem ekL_80 : yL_ask.cls ≠ "java/lang/invoke/MethodHandle" ∧ yL_ask.cls ≠ "java/lang/invoke/VarHandle" ∧ (parseMethodDescriptor yL_ask.desc).map (fun d => d.parameters.length) = some 5 := by decide +kernel
theorem gkL_89 : GoodIn AW (va_wsS RL 89 yL_giveBack (wsW yL_giveBack cL_giveBack 5 (some .int) [(0, 10, 13, 13), (0, 10, 17, 15)])) := gw_SW w_675 w_676 w_666 w_603
theorem ekL_89 : yL_giveBack.cls ≠ "java/lang/invoke/MethodHandle" ∧ yL_giveBack.cls ≠ "java/lang/invoke/VarHandle" ∧ (parseMethodDescriptor yL_giveBack.desc).map (fun d => d.parameters.length) = some 4 := by decide +kernel
theorem gkL_93 : GoodIn AW (va_wsS RL 93 yL_favour (wsW yL_favour cL_favour 4 (some .int) [(0, 9, 12, 13)])) := gw_SW w_681 w_682 w_666 w_593
theorem ekL_93 : yL_favour.cls ≠ "java/lang/invoke/MethodHandle" ∧ yL_favour.cls ≠ "java/lang/invoke/VarHandle" ∧ (parseMethodDescriptor yL_favour.desc).map (fun d => d.parameters.length) = some 3 := by decide +kernel
theorem gkL_97 : GoodIn AW (va_wsS RL 97 yL_need (wsW yL_need cL_need 5 (some .int) [(0, 10, 13, 13), (0, 10, 17, 15)])) := gw_SW w_687 w_688 w_666 w_638
theorem ekL_97 : yL_need.cls ≠ "java/lang/invoke/MethodHandle" ∧ yL_need.cls ≠ "java/lang/invoke/VarHandle" ∧ (parseMethodDescriptor yL_need.desc).map (fun d => d.parameters.length) = some 4 := by decide +kernel
theorem gkL_100 : GoodIn AW (va_wsS RL 100 yL_pass (wsW yL_pass cL_pass 3 (some .int) [(0, 8, 11, 32)])) := gw_SW w_693 w_694 w_666 w_643
theorem ekL_100 : yL_pass.cls ≠ "java/lang/invoke/MethodHandle" ∧ yL_pass.cls ≠ "java/lang/invoke/VarHandle" ∧ (parseMethodDescriptor yL_pass.desc).map (fun d => d.parameters.length) = some 2 := by decide +kernel
theorem gkL_104 : GoodIn AW (va_wsS RL 104 yL_set (wsW yL_set cL_set 4 (some .int) [(0, 9, 12, 15)])) := gw_SW w_699 w_700 w_666 w_658
theorem ekL_104 : yL_set.cls ≠ "java/lang/invoke/MethodHandle" ∧ yL_set.cls ≠ "java/lang/invoke/VarHandle" ∧ (parseMethodDescriptor yL_set.desc).map (fun d => d.parameters.length) = some 3 := by decide +kernel
theorem gkL_107 : GoodIn AW (va_wsS RL 107 yL_append (wsW yL_append cL_append 4 (some .int) [(0, 9, 12, 15), (0, 9, 15, 32)])) := gw_SW w_705 w_706 w_666 w_570
theorem ekL_107 : yL_append.cls ≠ "java/lang/invoke/MethodHandle" ∧ yL_append.cls ≠ "java/lang/invoke/VarHandle" ∧ (parseMethodDescriptor yL_append.desc).map (fun d => d.parameters.length) = some 3 := by decide +kernel
theorem gkL_118 : GoodIn AW (va_wsS RL 118 yL_run (wsW yL_run cL_run 3 (some .int) [(0, 8, 11, 15)])) := gw_SW w_727 w_728 w_666 w_653
theorem ekL_118 : yL_run.cls ≠ "java/lang/invoke/MethodHandle" ∧ yL_run.cls ≠ "java/lang/invoke/VarHandle" ∧ (parseMethodDescriptor yL_run.desc).map (fun d => d.parameters.length) = some 2 := by decide +kernel
theorem gkL_121 : GoodIn AW (va_wsS RL 121 yL_keep (wsW yL_keep cL_keep 4 (some .int) [(0, 9, 12, 15)])) := gw_SW w_733 w_734 w_666 w_623
theorem ekL_121 : yL_keep.cls ≠ "java/lang/invoke/MethodHandle" ∧ yL_keep.cls ≠ "java/lang/invoke/VarHandle" ∧ (parseMethodDescriptor yL_keep.desc).map (fun d => d.parameters.length) = some 3 := by decide +kernel
theorem gkL_124 : GoodIn AW (va_wsS RL 124 yL_goBack (wsW yL_goBack cL_goBack 4 (some .int) [(0, 9, 12, 15), (0, 9, 15, 32)])) := gw_SW w_739 w_740 w_666 w_608
theorem ekL_124 : yL_goBack.cls ≠ "java/lang/invoke/MethodHandle" ∧ yL_goBack.cls ≠ "java/lang/invoke/VarHandle" ∧ (parseMethodDescriptor yL_goBack.desc).map (fun d => d.parameters.length) = some 3 := by decide +kernel
theorem gkL_127 : GoodIn AW (va_wsS RL 127 yL_undo (wsW yL_undo cL_undo 3 (some .int) [(0, 8, 11, 32)])) := gw_SW w_745 w_746 w_666 w_663
theorem ekL_127 : yL_undo.cls ≠ "java/lang/invoke/MethodHandle" ∧ yL_undo.cls ≠ "java/lang/invoke/VarHandle" ∧ (parseMethodDescriptor yL_undo.desc).map (fun d => d.parameters.length) = some 2 := by decide +kernel
theorem gkL_130 : GoodIn AW (va_wsS RL 130 yL_at (wsW yL_at cL_at 5 (some .int) [(0, 10, 13, 13), (0, 10, 17, 15)])) := gw_SW w_751 w_752 w_666 w_583
theorem ekL_130 : yL_at.cls ≠ "java/lang/invoke/MethodHandle" ∧ yL_at.cls ≠ "java/lang/invoke/VarHandle" ∧ (parseMethodDescriptor yL_at.desc).map (fun d => d.parameters.length) = some 4 := by decide +kernel
theorem gkL_133 : GoodIn AW (va_wsS RL 133 yL_lodgerOf (wsW yL_lodgerOf cL_lodgerOf 5 (some .int) [(0, 10, 13, 13), (0, 10, 17, 15)])) := gw_SW w_757 w_758 w_666 w_628
theorem ekL_133 : yL_lodgerOf.cls ≠ "java/lang/invoke/MethodHandle" ∧ yL_lodgerOf.cls ≠ "java/lang/invoke/VarHandle" ∧ (parseMethodDescriptor yL_lodgerOf.desc).map (fun d => d.parameters.length) = some 4 := by decide +kernel
theorem gkL_136 : GoodIn AW (va_wsS RL 136 yL_count (wsW yL_count cL_count 4 (some .int) [(0, 9, 12, 15)])) := gw_SW w_763 w_764 w_666 w_588
theorem ekL_136 : yL_count.cls ≠ "java/lang/invoke/MethodHandle" ∧ yL_count.cls ≠ "java/lang/invoke/VarHandle" ∧ (parseMethodDescriptor yL_count.desc).map (fun d => d.parameters.length) = some 3 := by decide +kernel
theorem gkL_139 : GoodIn AW (va_wsS RL 139 yL_refused (wsW yL_refused cL_refused 4 (some .int) [(0, 9, 12, 15)])) := gw_SW w_769 w_770 w_666 w_648
theorem ekL_139 : yL_refused.cls ≠ "java/lang/invoke/MethodHandle" ∧ yL_refused.cls ≠ "java/lang/invoke/VarHandle" ∧ (parseMethodDescriptor yL_refused.desc).map (fun d => d.parameters.length) = some 3 := by decide +kernel
theorem gkL_142 : GoodIn AW (va_wsS RL 142 yL_ifAsked (wsW yL_ifAsked cL_ifAsked 6 (some .int) [(0, 12, 15, 13), (0, 12, 19, 15)])) := gw_SW w_775 w_776 w_666 w_613
theorem ekL_142 : yL_ifAsked.cls ≠ "java/lang/invoke/MethodHandle" ∧ yL_ifAsked.cls ≠ "java/lang/invoke/VarHandle" ∧ (parseMethodDescriptor yL_ifAsked.desc).map (fun d => d.parameters.length) = some 5 := by decide +kernel
theorem gkL_145 : GoodIn AW (va_wsS RL 145 yL_ifPutOut (wsW yL_ifPutOut cL_ifPutOut 6 (some .int) [(0, 12, 15, 13), (0, 12, 19, 15)])) := gw_SW w_781 w_782 w_666 w_618
theorem ekL_145 : yL_ifPutOut.cls ≠ "java/lang/invoke/MethodHandle" ∧ yL_ifPutOut.cls ≠ "java/lang/invoke/VarHandle" ∧ (parseMethodDescriptor yL_ifPutOut.desc).map (fun d => d.parameters.length) = some 5 := by decide +kernel
theorem gkL_148 : GoodIn AW (va_wsS RL 148 yL_fewestBeds (wsW yL_fewestBeds cL_fewestBeds 4 (some .int) [(0, 9, 12, 15)])) := gw_SW w_787 w_788 w_666 w_598
theorem ekL_148 : yL_fewestBeds.cls ≠ "java/lang/invoke/MethodHandle" ∧ yL_fewestBeds.cls ≠ "java/lang/invoke/VarHandle" ∧ (parseMethodDescriptor yL_fewestBeds.desc).map (fun d => d.parameters.length) = some 3 := by decide +kernel
theorem gkL_151 : GoodIn AW (va_wsS RL 151 yL_longest (wsW yL_longest cL_longest 5 (some .int) [(0, 10, 13, 13), (0, 10, 17, 15)])) := gw_SW w_793 w_794 w_666 w_633
theorem ekL_151 : yL_longest.cls ≠ "java/lang/invoke/MethodHandle" ∧ yL_longest.cls ≠ "java/lang/invoke/VarHandle" ∧ (parseMethodDescriptor yL_longest.desc).map (fun d => d.parameters.length) = some 4 := by decide +kernel
section
variable {p : Program} {l : Launch} {e : Env} {R : Room} {s : State} {m : MethodId} {args : Array Value} {below : List Frame} {meth : Method} {c : Code} {nL : Nat} {G : gT} {A : Nat → Prop} {Q : State → Prop} {k n pc : Nat} {lv : List (Nat × Value)} {st : List Value} {x : xS} {cc : ByteArray} {own : String} {ret : Option FieldType}
theorem b_callW (C : CT p s m args meth c cc nL own ret G A) (T : TW A s s.heap) {idx nl na mc1 : Nat} {y : MethodName} {b : ByteArray} {hh : List (Nat × Nat × Nat × Nat)} {rm : Room} {As stk : List Value} {res : Int32 × xS} (h : cW l y b nl hh rm mc1 As G x res) (hg : GoodIn AW (va_wsS own idx y (wsW y b nl (some .int) hh))) (hd1 : y.cls ≠ "java/lang/invoke/MethodHandle" ∧ y.cls ≠ "java/lang/invoke/VarHandle" ∧ (parseMethodDescriptor y.desc).map (fun d => d.parameters.length) = some na) (hna : As.length = na) (hrm : rm.cells = mc1 ∧ rm.slots = 6 * mc1) (hR : rm.frames + 1 ≤ R.frames ∧ 8 + (nl + 11) + rm.locals ≤ R.locals) (hst : (st.map fun v => v.category).sum ≤ 8) (hkn : k + mc1 ≤ R.cells ∧ n + 6 * mc1 ≤ R.slots) (hstk : stk = As.reverse ++ st) (hd : decode cc pc = .ok (.invokestatic idx, 3)) (kk : WB p l e R s m args below meth c nL G A Q (k + mc1) (n + 6 * mc1) (pc + 3) lv (.int res.1 :: st) res.2) : WB p l e R s m args below meth c nL G A Q k n pc lv stk x := by
  intro H locs ls h1 h2 h3
  subst hstk
  refine va_calli (vx_runSW (As := As) (rest := st) C.fix (h H.size) (vx_cwSW na C.ts hg rfl hrm.1 hrm.2 hd1 hR) (b_preSX C T h2 h3 As) rfl hna h1.1 rfl (by simpa using hst) hd hkn) h3 (fun q _ hq => C.pA h3.1 q hq) (fun q hq => C.pA h3.1 q hq) ?_
  intro v u t H1 locs1 ht hvm hp hB hz hk1 hS
  subst hp
  exact kk H1 locs1 ls h1 (by rw [← ht]; exact hB.1) hS
theorem b_slen (C : CT p s m args meth c cc nL own ret G A) {b L : Nat} {xs : Nat → Int32} (hX : va_X b L xs s s.heap) (hbl : b < s.heap.size) (hbA : ¬ A b) (hd : decode cc pc = .ok (.arraylength, 1)) (kk : WB p l e R s m args below meth c nL G A Q k n (pc + 1) lv (.int (Int32.ofNat L) :: st) x) : WB p l e R s m args below meth c nL G A Q k n pc lv (.ref b :: st) x := fun H locs ls h1 h2 h3 => va_slen C.hx C.b hX hbl hbA h3 hd (kk H locs ls h1 h2 h3)
theorem b_sld (C : CT p s m args meth c cc nL own ret G A) {b L : Nat} {xs : Nat → Int32} (hX : va_X b L xs s s.heap) (hbl : b < s.heap.size) (hbA : ¬ A b) {i : Int32} (hin : ¬ (i < 0 ∨ L ≤ i.toNatClampNeg)) (hd : decode cc pc = .ok (.iaload, 1)) (kk : WB p l e R s m args below meth c nL G A Q k n (pc + 1) lv (.int (xs i.toNatClampNeg) :: st) x) : WB p l e R s m args below meth c nL G A Q k n pc lv (.int i :: .ref b :: st) x := fun H locs ls h1 h2 h3 => va_sld C.hx C.b hX hbl hbA h3 hin hd (kk H locs ls h1 h2 h3)
theorem b_law1 {b : Nat} (C : CT p s m #[Value.ref b] meth c cL_law nL own (some .boolean) G (fun q => s.heap.size ≤ q)) (hd : decode cL_law pc = .ok (.ireturn, 1)) (hk : k ≤ 601024) (hn : n ≤ 7293034) : WB p l e room_1 s m #[Value.ref b] below meth c nL G (fun q => s.heap.size ≤ q) (lw_Z below #[Value.ref b] s) k n pc lv [.int 1] x := by
  intro H locs ls h1 h2 h3
  refine W.base ?_
  refine va_forget (fun q hq => h3.2.2 q hq) ?_
  refine W.widen hk hn ?_
  exact lw_ret (Drawn.sameBut.refl s.drawn lw_cs) C.hx C.b C.r C.lk hd
end
def fL_law_b1402 (k23 : Int32 → xS → Option Int32) (i1 : Nat) (i2 : Nat) (i3 : Nat) (L : Nat) (xs : Nat → Int32) (v4 : Int32) (x : xS) : Option Int32 :=
  k23 (v4 + 4) x
def fL_law_b225 (k23 : Int32 → xS → Option Int32) (i1 : Nat) (i2 : Nat) (i3 : Nat) (L : Nat) (xs : Nat → Int32) (v4 : Int32) (x : xS) : Option Int32 :=
  fL_law_b1402 k23 i1 i2 i3 L xs v4 x
def fL_law_b293 (k23 : Int32 → xS → Option Int32) (i1 : Nat) (i2 : Nat) (i3 : Nat) (L : Nat) (xs : Nat → Int32) (v4 : Int32) (x : xS) : Option Int32 :=
  fL_law_b1402 k23 i1 i2 i3 L xs v4 x
def fL_law_b349 (k23 : Int32 → xS → Option Int32) (i1 : Nat) (i2 : Nat) (i3 : Nat) (L : Nat) (xs : Nat → Int32) (v4 : Int32) (x : xS) : Option Int32 :=
  fL_law_b1402 k23 i1 i2 i3 L xs v4 x
def fL_law_b417 (k23 : Int32 → xS → Option Int32) (i1 : Nat) (i2 : Nat) (i3 : Nat) (L : Nat) (xs : Nat → Int32) (v4 : Int32) (x : xS) : Option Int32 :=
  fL_law_b1402 k23 i1 i2 i3 L xs v4 x
def fL_law_b461 (k23 : Int32 → xS → Option Int32) (i1 : Nat) (i2 : Nat) (i3 : Nat) (L : Nat) (xs : Nat → Int32) (v4 : Int32) (x : xS) : Option Int32 :=
  fL_law_b1402 k23 i1 i2 i3 L xs v4 x
def fL_law_b517 (k23 : Int32 → xS → Option Int32) (i1 : Nat) (i2 : Nat) (i3 : Nat) (L : Nat) (xs : Nat → Int32) (v4 : Int32) (x : xS) : Option Int32 :=
  fL_law_b1402 k23 i1 i2 i3 L xs v4 x
def fL_law_b573 (k23 : Int32 → xS → Option Int32) (i1 : Nat) (i2 : Nat) (i3 : Nat) (L : Nat) (xs : Nat → Int32) (v4 : Int32) (x : xS) : Option Int32 :=
  fL_law_b1402 k23 i1 i2 i3 L xs v4 x
def fL_law_b643 (k23 : Int32 → xS → Option Int32) (i1 : Nat) (i2 : Nat) (i3 : Nat) (L : Nat) (xs : Nat → Int32) (v4 : Int32) (x : xS) : Option Int32 :=
  fL_law_b1402 k23 i1 i2 i3 L xs v4 x
def fL_law_b699 (k23 : Int32 → xS → Option Int32) (i1 : Nat) (i2 : Nat) (i3 : Nat) (L : Nat) (xs : Nat → Int32) (v4 : Int32) (x : xS) : Option Int32 :=
  fL_law_b1402 k23 i1 i2 i3 L xs v4 x
def fL_law_b755 (k23 : Int32 → xS → Option Int32) (i1 : Nat) (i2 : Nat) (i3 : Nat) (L : Nat) (xs : Nat → Int32) (v4 : Int32) (x : xS) : Option Int32 :=
  fL_law_b1402 k23 i1 i2 i3 L xs v4 x
def fL_law_b799 (k23 : Int32 → xS → Option Int32) (i1 : Nat) (i2 : Nat) (i3 : Nat) (L : Nat) (xs : Nat → Int32) (v4 : Int32) (x : xS) : Option Int32 :=
  fL_law_b1402 k23 i1 i2 i3 L xs v4 x
def fL_law_b867 (k23 : Int32 → xS → Option Int32) (i1 : Nat) (i2 : Nat) (i3 : Nat) (L : Nat) (xs : Nat → Int32) (v4 : Int32) (x : xS) : Option Int32 :=
  fL_law_b1402 k23 i1 i2 i3 L xs v4 x
def fL_law_b935 (k23 : Int32 → xS → Option Int32) (i1 : Nat) (i2 : Nat) (i3 : Nat) (L : Nat) (xs : Nat → Int32) (v4 : Int32) (x : xS) : Option Int32 :=
  fL_law_b1402 k23 i1 i2 i3 L xs v4 x
def fL_law_b991 (k23 : Int32 → xS → Option Int32) (i1 : Nat) (i2 : Nat) (i3 : Nat) (L : Nat) (xs : Nat → Int32) (v4 : Int32) (x : xS) : Option Int32 :=
  fL_law_b1402 k23 i1 i2 i3 L xs v4 x
def fL_law_b1047 (k23 : Int32 → xS → Option Int32) (i1 : Nat) (i2 : Nat) (i3 : Nat) (L : Nat) (xs : Nat → Int32) (v4 : Int32) (x : xS) : Option Int32 :=
  fL_law_b1402 k23 i1 i2 i3 L xs v4 x
def fL_law_b1127 (k23 : Int32 → xS → Option Int32) (i1 : Nat) (i2 : Nat) (i3 : Nat) (L : Nat) (xs : Nat → Int32) (v4 : Int32) (x : xS) : Option Int32 :=
  fL_law_b1402 k23 i1 i2 i3 L xs v4 x
def fL_law_b1207 (k23 : Int32 → xS → Option Int32) (i1 : Nat) (i2 : Nat) (i3 : Nat) (L : Nat) (xs : Nat → Int32) (v4 : Int32) (x : xS) : Option Int32 :=
  fL_law_b1402 k23 i1 i2 i3 L xs v4 x
def fL_law_b1263 (k23 : Int32 → xS → Option Int32) (i1 : Nat) (i2 : Nat) (i3 : Nat) (L : Nat) (xs : Nat → Int32) (v4 : Int32) (x : xS) : Option Int32 :=
  fL_law_b1402 k23 i1 i2 i3 L xs v4 x
def fL_law_b1331 (k23 : Int32 → xS → Option Int32) (i1 : Nat) (i2 : Nat) (i3 : Nat) (L : Nat) (xs : Nat → Int32) (v4 : Int32) (x : xS) : Option Int32 :=
  fL_law_b1402 k23 i1 i2 i3 L xs v4 x
def fL_law_b1385 (k23 : Int32 → xS → Option Int32) (i1 : Nat) (i2 : Nat) (i3 : Nat) (L : Nat) (xs : Nat → Int32) (v4 : Int32) (x : xS) : Option Int32 :=
  fL_law_b1402 k23 i1 i2 i3 L xs v4 x
def fL_law_b1383 (i1 : Nat) (i2 : Nat) (i3 : Nat) (L : Nat) (xs : Nat → Int32) (x : xS) : Option Int32 :=
  some 0
def fL_law_b23 (i1 : Nat) (i2 : Nat) (i3 : Nat) (L : Nat) (xs : Nat → Int32) : Nat → Int32 → xS → Option Int32
  | 0, _, _ => none
  | n + 1, v4, x => (if ((Int32.ofNat L) - 4) < v4 then
  some 1
  else
  (if v4 < 0 ∨ L ≤ v4.toNatClampNeg then none else
  (if ((xs v4.toNatClampNeg) &&& 31) = 0 then
  (if (v4 + 1) < 0 ∨ L ≤ (v4 + 1).toNatClampNeg then none else
  (if (v4 + 2) < 0 ∨ L ≤ (v4 + 2).toNatClampNeg then none else
  (if (v4 + 3) < 0 ∨ L ≤ (v4 + 3).toNatClampNeg then none else
  Option.bind (fL_ask i1 (xs (v4 + 1).toNatClampNeg) (xs (v4 + 2).toNatClampNeg) (xs (v4 + 3).toNatClampNeg) i3 x) (fun r168 =>
  (if (v4 + 1) < 0 ∨ L ≤ (v4 + 1).toNatClampNeg then none else
  (if (v4 + 2) < 0 ∨ L ≤ (v4 + 2).toNatClampNeg then none else
  (if (v4 + 3) < 0 ∨ L ≤ (v4 + 3).toNatClampNeg then none else
  Option.bind (fX7_ask i2 (xs (v4 + 1).toNatClampNeg) (xs (v4 + 2).toNatClampNeg) (xs (v4 + 3).toNatClampNeg) r168.2) (fun r192 =>
  Option.bind (fX7_thrown i2 r192.2) (fun r198 =>
  (if r198 = r168.1 then
  (if r168.1 = 0 then
  (if (0 : Int32) < 0 ∨ ln i3 ≤ (0 : Int32).toNatClampNeg then none else
  (if (lg_cmp (r192.2.2 i3 (0 : Int32).toNatClampNeg) (r192.1.toInt64)) = 0 then
  fL_law_b225 (fL_law_b23 i1 i2 i3 L xs n) i1 i2 i3 L xs v4 r192.2
  else
  some 0))
  else
  fL_law_b225 (fL_law_b23 i1 i2 i3 L xs n) i1 i2 i3 L xs v4 r192.2)
  else
  some 0))))))))))
  else
  (if ((xs v4.toNatClampNeg) &&& 31) = 1 then
  (if (v4 + 1) < 0 ∨ L ≤ (v4 + 1).toNatClampNeg then none else
  (if (v4 + 2) < 0 ∨ L ≤ (v4 + 2).toNatClampNeg then none else
  Option.bind (fL_giveBack i1 (xs (v4 + 1).toNatClampNeg) (xs (v4 + 2).toNatClampNeg) i3 x) (fun r242 =>
  (if (v4 + 1) < 0 ∨ L ≤ (v4 + 1).toNatClampNeg then none else
  (if (v4 + 2) < 0 ∨ L ≤ (v4 + 2).toNatClampNeg then none else
  Option.bind (fX7_giveBack i2 (xs (v4 + 1).toNatClampNeg) (xs (v4 + 2).toNatClampNeg) r242.2) (fun r260 =>
  Option.bind (fX7_thrown i2 r260.2) (fun r266 =>
  (if r266 = r242.1 then
  (if r242.1 = 0 then
  (if (0 : Int32) < 0 ∨ ln i3 ≤ (0 : Int32).toNatClampNeg then none else
  (if (lg_cmp (r260.2.2 i3 (0 : Int32).toNatClampNeg) (r260.1.toInt64)) = 0 then
  fL_law_b293 (fL_law_b23 i1 i2 i3 L xs n) i1 i2 i3 L xs v4 r260.2
  else
  some 0))
  else
  fL_law_b293 (fL_law_b23 i1 i2 i3 L xs n) i1 i2 i3 L xs v4 r260.2)
  else
  some 0))))))))
  else
  (if ((xs v4.toNatClampNeg) &&& 31) = 2 then
  (if (v4 + 1) < 0 ∨ L ≤ (v4 + 1).toNatClampNeg then none else
  Option.bind (fL_favour i1 (xs (v4 + 1).toNatClampNeg) i3 x) (fun r304 =>
  (if (v4 + 1) < 0 ∨ L ≤ (v4 + 1).toNatClampNeg then none else
  Option.bind (fX7_favour i2 (xs (v4 + 1).toNatClampNeg) r304.2) (fun r316 =>
  Option.bind (fX7_thrown i2 r316.2) (fun r322 =>
  (if r322 = r304.1 then
  (if r304.1 = 0 then
  (if (0 : Int32) < 0 ∨ ln i3 ≤ (0 : Int32).toNatClampNeg then none else
  (if (lg_cmp (r316.2.2 i3 (0 : Int32).toNatClampNeg) (r316.1.toInt64)) = 0 then
  fL_law_b349 (fL_law_b23 i1 i2 i3 L xs n) i1 i2 i3 L xs v4 r316.2
  else
  some 0))
  else
  fL_law_b349 (fL_law_b23 i1 i2 i3 L xs n) i1 i2 i3 L xs v4 r316.2)
  else
  some 0))))))
  else
  (if ((xs v4.toNatClampNeg) &&& 31) = 3 then
  (if (v4 + 1) < 0 ∨ L ≤ (v4 + 1).toNatClampNeg then none else
  (if (v4 + 2) < 0 ∨ L ≤ (v4 + 2).toNatClampNeg then none else
  Option.bind (fL_need i1 (xs (v4 + 1).toNatClampNeg) (xs (v4 + 2).toNatClampNeg) i3 x) (fun r366 =>
  (if (v4 + 1) < 0 ∨ L ≤ (v4 + 1).toNatClampNeg then none else
  (if (v4 + 2) < 0 ∨ L ≤ (v4 + 2).toNatClampNeg then none else
  Option.bind (fX7_need i2 (xs (v4 + 1).toNatClampNeg) (xs (v4 + 2).toNatClampNeg) r366.2) (fun r384 =>
  Option.bind (fX7_thrown i2 r384.2) (fun r390 =>
  (if r390 = r366.1 then
  (if r366.1 = 0 then
  (if (0 : Int32) < 0 ∨ ln i3 ≤ (0 : Int32).toNatClampNeg then none else
  (if (lg_cmp (r384.2.2 i3 (0 : Int32).toNatClampNeg) (r384.1.toInt64)) = 0 then
  fL_law_b417 (fL_law_b23 i1 i2 i3 L xs n) i1 i2 i3 L xs v4 r384.2
  else
  some 0))
  else
  fL_law_b417 (fL_law_b23 i1 i2 i3 L xs n) i1 i2 i3 L xs v4 r384.2)
  else
  some 0))))))))
  else
  (if ((xs v4.toNatClampNeg) &&& 31) = 4 then
  Option.bind (fL_pass i1 i3 x) (fun r422 =>
  Option.bind (fX7_pass i2 r422.2) (fun r428 =>
  Option.bind (fX7_thrown i2 r428.2) (fun r434 =>
  (if r434 = r422.1 then
  (if r422.1 = 0 then
  (if (0 : Int32) < 0 ∨ ln i3 ≤ (0 : Int32).toNatClampNeg then none else
  (if (lg_cmp (r428.2.2 i3 (0 : Int32).toNatClampNeg) (r428.1.toInt64)) = 0 then
  fL_law_b461 (fL_law_b23 i1 i2 i3 L xs n) i1 i2 i3 L xs v4 r428.2
  else
  some 0))
  else
  fL_law_b461 (fL_law_b23 i1 i2 i3 L xs n) i1 i2 i3 L xs v4 r428.2)
  else
  some 0))))
  else
  (if ((xs v4.toNatClampNeg) &&& 31) = 5 then
  (if (v4 + 1) < 0 ∨ L ≤ (v4 + 1).toNatClampNeg then none else
  Option.bind (fL_set i1 (xs (v4 + 1).toNatClampNeg) i3 x) (fun r472 =>
  (if (v4 + 1) < 0 ∨ L ≤ (v4 + 1).toNatClampNeg then none else
  Option.bind (fX7_set i2 (xs (v4 + 1).toNatClampNeg) r472.2) (fun r484 =>
  Option.bind (fX7_thrown i2 r484.2) (fun r490 =>
  (if r490 = r472.1 then
  (if r472.1 = 0 then
  (if (0 : Int32) < 0 ∨ ln i3 ≤ (0 : Int32).toNatClampNeg then none else
  (if (lg_cmp (r484.2.2 i3 (0 : Int32).toNatClampNeg) (r484.1.toInt64)) = 0 then
  fL_law_b517 (fL_law_b23 i1 i2 i3 L xs n) i1 i2 i3 L xs v4 r484.2
  else
  some 0))
  else
  fL_law_b517 (fL_law_b23 i1 i2 i3 L xs n) i1 i2 i3 L xs v4 r484.2)
  else
  some 0))))))
  else
  (if ((xs v4.toNatClampNeg) &&& 31) = 6 then
  (if (v4 + 1) < 0 ∨ L ≤ (v4 + 1).toNatClampNeg then none else
  Option.bind (fL_append i1 (xs (v4 + 1).toNatClampNeg) i3 x) (fun r528 =>
  (if (v4 + 1) < 0 ∨ L ≤ (v4 + 1).toNatClampNeg then none else
  Option.bind (fX7_append i2 (xs (v4 + 1).toNatClampNeg) r528.2) (fun r540 =>
  Option.bind (fX7_thrown i2 r540.2) (fun r546 =>
  (if r546 = r528.1 then
  (if r528.1 = 0 then
  (if (0 : Int32) < 0 ∨ ln i3 ≤ (0 : Int32).toNatClampNeg then none else
  (if (lg_cmp (r540.2.2 i3 (0 : Int32).toNatClampNeg) (r540.1.toInt64)) = 0 then
  fL_law_b573 (fL_law_b23 i1 i2 i3 L xs n) i1 i2 i3 L xs v4 r540.2
  else
  some 0))
  else
  fL_law_b573 (fL_law_b23 i1 i2 i3 L xs n) i1 i2 i3 L xs v4 r540.2)
  else
  some 0))))))
  else
  (if ((xs v4.toNatClampNeg) &&& 31) = 7 then
  Option.bind (fX6_clearBuffer i1 x) (fun r577 =>
  Option.bind (fX7_clearBuffer i2 r577.2) (fun r581 =>
  (if r577.1 = r581.1 then
  fL_law_b1402 (fL_law_b23 i1 i2 i3 L xs n) i1 i2 i3 L xs v4 r581.2
  else
  some 0)))
  else
  (if ((xs v4.toNatClampNeg) &&& 31) = 8 then
  Option.bind (fX6_firstError i1 x) (fun r590 =>
  Option.bind (fX7_firstError i2 x) (fun r594 =>
  (if r590 = r594.1 then
  fL_law_b1402 (fL_law_b23 i1 i2 i3 L xs n) i1 i2 i3 L xs v4 r594.2
  else
  some 0)))
  else
  (if ((xs v4.toNatClampNeg) &&& 31) = 9 then
  Option.bind (fL_run i1 i3 x) (fun r604 =>
  Option.bind (fX7_run i2 r604.2) (fun r610 =>
  Option.bind (fX7_thrown i2 r610.2) (fun r616 =>
  (if r616 = r604.1 then
  (if r604.1 = 0 then
  (if (0 : Int32) < 0 ∨ ln i3 ≤ (0 : Int32).toNatClampNeg then none else
  (if (lg_cmp (r610.2.2 i3 (0 : Int32).toNatClampNeg) (r610.1.toInt64)) = 0 then
  fL_law_b643 (fL_law_b23 i1 i2 i3 L xs n) i1 i2 i3 L xs v4 r610.2
  else
  some 0))
  else
  fL_law_b643 (fL_law_b23 i1 i2 i3 L xs n) i1 i2 i3 L xs v4 r610.2)
  else
  some 0))))
  else
  (if ((xs v4.toNatClampNeg) &&& 31) = 10 then
  (if (v4 + 1) < 0 ∨ L ≤ (v4 + 1).toNatClampNeg then none else
  Option.bind (fL_keep i1 (xs (v4 + 1).toNatClampNeg) i3 x) (fun r654 =>
  (if (v4 + 1) < 0 ∨ L ≤ (v4 + 1).toNatClampNeg then none else
  Option.bind (fX7_keep i2 (xs (v4 + 1).toNatClampNeg) r654.2) (fun r666 =>
  Option.bind (fX7_thrown i2 r666.2) (fun r672 =>
  (if r672 = r654.1 then
  (if r654.1 = 0 then
  (if (0 : Int32) < 0 ∨ ln i3 ≤ (0 : Int32).toNatClampNeg then none else
  (if (lg_cmp (r666.2.2 i3 (0 : Int32).toNatClampNeg) (r666.1.toInt64)) = 0 then
  fL_law_b699 (fL_law_b23 i1 i2 i3 L xs n) i1 i2 i3 L xs v4 r666.2
  else
  some 0))
  else
  fL_law_b699 (fL_law_b23 i1 i2 i3 L xs n) i1 i2 i3 L xs v4 r666.2)
  else
  some 0))))))
  else
  (if ((xs v4.toNatClampNeg) &&& 31) = 11 then
  (if (v4 + 1) < 0 ∨ L ≤ (v4 + 1).toNatClampNeg then none else
  Option.bind (fL_goBack i1 (xs (v4 + 1).toNatClampNeg) i3 x) (fun r710 =>
  (if (v4 + 1) < 0 ∨ L ≤ (v4 + 1).toNatClampNeg then none else
  Option.bind (fX7_goBack i2 (xs (v4 + 1).toNatClampNeg) r710.2) (fun r722 =>
  Option.bind (fX7_thrown i2 r722.2) (fun r728 =>
  (if r728 = r710.1 then
  (if r710.1 = 0 then
  (if (0 : Int32) < 0 ∨ ln i3 ≤ (0 : Int32).toNatClampNeg then none else
  (if (lg_cmp (r722.2.2 i3 (0 : Int32).toNatClampNeg) (r722.1.toInt64)) = 0 then
  fL_law_b755 (fL_law_b23 i1 i2 i3 L xs n) i1 i2 i3 L xs v4 r722.2
  else
  some 0))
  else
  fL_law_b755 (fL_law_b23 i1 i2 i3 L xs n) i1 i2 i3 L xs v4 r722.2)
  else
  some 0))))))
  else
  (if ((xs v4.toNatClampNeg) &&& 31) = 12 then
  Option.bind (fL_undo i1 i3 x) (fun r760 =>
  Option.bind (fX7_undo i2 r760.2) (fun r766 =>
  Option.bind (fX7_thrown i2 r766.2) (fun r772 =>
  (if r772 = r760.1 then
  (if r760.1 = 0 then
  (if (0 : Int32) < 0 ∨ ln i3 ≤ (0 : Int32).toNatClampNeg then none else
  (if (lg_cmp (r766.2.2 i3 (0 : Int32).toNatClampNeg) (r766.1.toInt64)) = 0 then
  fL_law_b799 (fL_law_b23 i1 i2 i3 L xs n) i1 i2 i3 L xs v4 r766.2
  else
  some 0))
  else
  fL_law_b799 (fL_law_b23 i1 i2 i3 L xs n) i1 i2 i3 L xs v4 r766.2)
  else
  some 0))))
  else
  (if ((xs v4.toNatClampNeg) &&& 31) = 13 then
  (if (v4 + 1) < 0 ∨ L ≤ (v4 + 1).toNatClampNeg then none else
  (if (v4 + 2) < 0 ∨ L ≤ (v4 + 2).toNatClampNeg then none else
  Option.bind (fL_at i1 (xs (v4 + 1).toNatClampNeg) (xs (v4 + 2).toNatClampNeg) i3 x) (fun r816 =>
  (if (v4 + 1) < 0 ∨ L ≤ (v4 + 1).toNatClampNeg then none else
  (if (v4 + 2) < 0 ∨ L ≤ (v4 + 2).toNatClampNeg then none else
  Option.bind (fX7_at i2 (xs (v4 + 1).toNatClampNeg) (xs (v4 + 2).toNatClampNeg) r816.2) (fun r834 =>
  Option.bind (fX7_thrown i2 r834.2) (fun r840 =>
  (if r840 = r816.1 then
  (if r816.1 = 0 then
  (if (0 : Int32) < 0 ∨ ln i3 ≤ (0 : Int32).toNatClampNeg then none else
  (if (lg_cmp (r834.2.2 i3 (0 : Int32).toNatClampNeg) (r834.1.toInt64)) = 0 then
  fL_law_b867 (fL_law_b23 i1 i2 i3 L xs n) i1 i2 i3 L xs v4 r834.2
  else
  some 0))
  else
  fL_law_b867 (fL_law_b23 i1 i2 i3 L xs n) i1 i2 i3 L xs v4 r834.2)
  else
  some 0))))))))
  else
  (if ((xs v4.toNatClampNeg) &&& 31) = 14 then
  (if (v4 + 1) < 0 ∨ L ≤ (v4 + 1).toNatClampNeg then none else
  (if (v4 + 2) < 0 ∨ L ≤ (v4 + 2).toNatClampNeg then none else
  Option.bind (fL_lodgerOf i1 (xs (v4 + 1).toNatClampNeg) (xs (v4 + 2).toNatClampNeg) i3 x) (fun r884 =>
  (if (v4 + 1) < 0 ∨ L ≤ (v4 + 1).toNatClampNeg then none else
  (if (v4 + 2) < 0 ∨ L ≤ (v4 + 2).toNatClampNeg then none else
  Option.bind (fX7_lodgerOf i2 (xs (v4 + 1).toNatClampNeg) (xs (v4 + 2).toNatClampNeg) r884.2) (fun r902 =>
  Option.bind (fX7_thrown i2 r902.2) (fun r908 =>
  (if r908 = r884.1 then
  (if r884.1 = 0 then
  (if (0 : Int32) < 0 ∨ ln i3 ≤ (0 : Int32).toNatClampNeg then none else
  (if (lg_cmp (r902.2.2 i3 (0 : Int32).toNatClampNeg) (r902.1.toInt64)) = 0 then
  fL_law_b935 (fL_law_b23 i1 i2 i3 L xs n) i1 i2 i3 L xs v4 r902.2
  else
  some 0))
  else
  fL_law_b935 (fL_law_b23 i1 i2 i3 L xs n) i1 i2 i3 L xs v4 r902.2)
  else
  some 0))))))))
  else
  (if ((xs v4.toNatClampNeg) &&& 31) = 15 then
  (if (v4 + 1) < 0 ∨ L ≤ (v4 + 1).toNatClampNeg then none else
  Option.bind (fL_count i1 (xs (v4 + 1).toNatClampNeg) i3 x) (fun r946 =>
  (if (v4 + 1) < 0 ∨ L ≤ (v4 + 1).toNatClampNeg then none else
  Option.bind (fX7_count i2 (xs (v4 + 1).toNatClampNeg) r946.2) (fun r958 =>
  Option.bind (fX7_thrown i2 r958.2) (fun r964 =>
  (if r964 = r946.1 then
  (if r946.1 = 0 then
  (if (0 : Int32) < 0 ∨ ln i3 ≤ (0 : Int32).toNatClampNeg then none else
  (if (lg_cmp (r958.2.2 i3 (0 : Int32).toNatClampNeg) (r958.1.toInt64)) = 0 then
  fL_law_b991 (fL_law_b23 i1 i2 i3 L xs n) i1 i2 i3 L xs v4 r958.2
  else
  some 0))
  else
  fL_law_b991 (fL_law_b23 i1 i2 i3 L xs n) i1 i2 i3 L xs v4 r958.2)
  else
  some 0))))))
  else
  (if ((xs v4.toNatClampNeg) &&& 31) = 16 then
  (if (v4 + 1) < 0 ∨ L ≤ (v4 + 1).toNatClampNeg then none else
  Option.bind (fL_refused i1 (xs (v4 + 1).toNatClampNeg) i3 x) (fun r1002 =>
  (if (v4 + 1) < 0 ∨ L ≤ (v4 + 1).toNatClampNeg then none else
  Option.bind (fX7_refused i2 (xs (v4 + 1).toNatClampNeg) r1002.2) (fun r1014 =>
  Option.bind (fX7_thrown i2 r1014.2) (fun r1020 =>
  (if r1020 = r1002.1 then
  (if r1002.1 = 0 then
  (if (0 : Int32) < 0 ∨ ln i3 ≤ (0 : Int32).toNatClampNeg then none else
  (if (lg_cmp (r1014.2.2 i3 (0 : Int32).toNatClampNeg) (r1014.1.toInt64)) = 0 then
  fL_law_b1047 (fL_law_b23 i1 i2 i3 L xs n) i1 i2 i3 L xs v4 r1014.2
  else
  some 0))
  else
  fL_law_b1047 (fL_law_b23 i1 i2 i3 L xs n) i1 i2 i3 L xs v4 r1014.2)
  else
  some 0))))))
  else
  (if ((xs v4.toNatClampNeg) &&& 31) = 17 then
  (if (v4 + 1) < 0 ∨ L ≤ (v4 + 1).toNatClampNeg then none else
  (if (v4 + 2) < 0 ∨ L ≤ (v4 + 2).toNatClampNeg then none else
  (if (v4 + 3) < 0 ∨ L ≤ (v4 + 3).toNatClampNeg then none else
  Option.bind (fL_ifAsked i1 (xs (v4 + 1).toNatClampNeg) (xs (v4 + 2).toNatClampNeg) (xs (v4 + 3).toNatClampNeg) i3 x) (fun r1070 =>
  (if (v4 + 1) < 0 ∨ L ≤ (v4 + 1).toNatClampNeg then none else
  (if (v4 + 2) < 0 ∨ L ≤ (v4 + 2).toNatClampNeg then none else
  (if (v4 + 3) < 0 ∨ L ≤ (v4 + 3).toNatClampNeg then none else
  Option.bind (fX7_ifAsked i2 (xs (v4 + 1).toNatClampNeg) (xs (v4 + 2).toNatClampNeg) (xs (v4 + 3).toNatClampNeg) r1070.2) (fun r1094 =>
  Option.bind (fX7_thrown i2 r1094.2) (fun r1100 =>
  (if r1100 = r1070.1 then
  (if r1070.1 = 0 then
  (if (0 : Int32) < 0 ∨ ln i3 ≤ (0 : Int32).toNatClampNeg then none else
  (if (lg_cmp (r1094.2.2 i3 (0 : Int32).toNatClampNeg) (r1094.1.toInt64)) = 0 then
  fL_law_b1127 (fL_law_b23 i1 i2 i3 L xs n) i1 i2 i3 L xs v4 r1094.2
  else
  some 0))
  else
  fL_law_b1127 (fL_law_b23 i1 i2 i3 L xs n) i1 i2 i3 L xs v4 r1094.2)
  else
  some 0))))))))))
  else
  (if ((xs v4.toNatClampNeg) &&& 31) = 18 then
  (if (v4 + 1) < 0 ∨ L ≤ (v4 + 1).toNatClampNeg then none else
  (if (v4 + 2) < 0 ∨ L ≤ (v4 + 2).toNatClampNeg then none else
  (if (v4 + 3) < 0 ∨ L ≤ (v4 + 3).toNatClampNeg then none else
  Option.bind (fL_ifPutOut i1 (xs (v4 + 1).toNatClampNeg) (xs (v4 + 2).toNatClampNeg) (xs (v4 + 3).toNatClampNeg) i3 x) (fun r1150 =>
  (if (v4 + 1) < 0 ∨ L ≤ (v4 + 1).toNatClampNeg then none else
  (if (v4 + 2) < 0 ∨ L ≤ (v4 + 2).toNatClampNeg then none else
  (if (v4 + 3) < 0 ∨ L ≤ (v4 + 3).toNatClampNeg then none else
  Option.bind (fX7_ifPutOut i2 (xs (v4 + 1).toNatClampNeg) (xs (v4 + 2).toNatClampNeg) (xs (v4 + 3).toNatClampNeg) r1150.2) (fun r1174 =>
  Option.bind (fX7_thrown i2 r1174.2) (fun r1180 =>
  (if r1180 = r1150.1 then
  (if r1150.1 = 0 then
  (if (0 : Int32) < 0 ∨ ln i3 ≤ (0 : Int32).toNatClampNeg then none else
  (if (lg_cmp (r1174.2.2 i3 (0 : Int32).toNatClampNeg) (r1174.1.toInt64)) = 0 then
  fL_law_b1207 (fL_law_b23 i1 i2 i3 L xs n) i1 i2 i3 L xs v4 r1174.2
  else
  some 0))
  else
  fL_law_b1207 (fL_law_b23 i1 i2 i3 L xs n) i1 i2 i3 L xs v4 r1174.2)
  else
  some 0))))))))))
  else
  (if ((xs v4.toNatClampNeg) &&& 31) = 19 then
  (if (v4 + 1) < 0 ∨ L ≤ (v4 + 1).toNatClampNeg then none else
  Option.bind (fL_fewestBeds i1 (xs (v4 + 1).toNatClampNeg) i3 x) (fun r1218 =>
  (if (v4 + 1) < 0 ∨ L ≤ (v4 + 1).toNatClampNeg then none else
  Option.bind (fX7_fewestBeds i2 (xs (v4 + 1).toNatClampNeg) r1218.2) (fun r1230 =>
  Option.bind (fX7_thrown i2 r1230.2) (fun r1236 =>
  (if r1236 = r1218.1 then
  (if r1218.1 = 0 then
  (if (0 : Int32) < 0 ∨ ln i3 ≤ (0 : Int32).toNatClampNeg then none else
  (if (lg_cmp (r1230.2.2 i3 (0 : Int32).toNatClampNeg) (r1230.1.toInt64)) = 0 then
  fL_law_b1263 (fL_law_b23 i1 i2 i3 L xs n) i1 i2 i3 L xs v4 r1230.2
  else
  some 0))
  else
  fL_law_b1263 (fL_law_b23 i1 i2 i3 L xs n) i1 i2 i3 L xs v4 r1230.2)
  else
  some 0))))))
  else
  (if ((xs v4.toNatClampNeg) &&& 31) = 20 then
  (if (v4 + 1) < 0 ∨ L ≤ (v4 + 1).toNatClampNeg then none else
  (if (v4 + 2) < 0 ∨ L ≤ (v4 + 2).toNatClampNeg then none else
  Option.bind (fL_longest i1 (xs (v4 + 1).toNatClampNeg) (xs (v4 + 2).toNatClampNeg) i3 x) (fun r1280 =>
  (if (v4 + 1) < 0 ∨ L ≤ (v4 + 1).toNatClampNeg then none else
  (if (v4 + 2) < 0 ∨ L ≤ (v4 + 2).toNatClampNeg then none else
  Option.bind (fX7_longest i2 (xs (v4 + 1).toNatClampNeg) (xs (v4 + 2).toNatClampNeg) r1280.2) (fun r1298 =>
  Option.bind (fX7_thrown i2 r1298.2) (fun r1304 =>
  (if r1304 = r1280.1 then
  (if r1280.1 = 0 then
  (if (0 : Int32) < 0 ∨ ln i3 ≤ (0 : Int32).toNatClampNeg then none else
  (if (lg_cmp (r1298.2.2 i3 (0 : Int32).toNatClampNeg) (r1298.1.toInt64)) = 0 then
  fL_law_b1331 (fL_law_b23 i1 i2 i3 L xs n) i1 i2 i3 L xs v4 r1298.2
  else
  some 0))
  else
  fL_law_b1331 (fL_law_b23 i1 i2 i3 L xs n) i1 i2 i3 L xs v4 r1298.2)
  else
  some 0))))))))
  else
  (if ((xs v4.toNatClampNeg) &&& 31) = 21 then
  Option.bind (fX6_poorest i1 x) (fun r1335 =>
  Option.bind (fX7_poorest i2 x) (fun r1339 =>
  (if r1335 = r1339.1 then
  fL_law_b1402 (fL_law_b23 i1 i2 i3 L xs n) i1 i2 i3 L xs v4 r1339.2
  else
  some 0)))
  else
  (if ((xs v4.toNatClampNeg) &&& 31) = 22 then
  Option.bind (fX6_fullness i1 x) (fun r1348 =>
  Option.bind (fX7_fullness i2 x) (fun r1354 =>
  (if (Op.cmpValue (FP.dcmp r1348 r1354.1) CmpOp.l) = 0 then
  fL_law_b1385 (fL_law_b23 i1 i2 i3 L xs n) i1 i2 i3 L xs v4 r1354.2
  else
  (if (Op.cmpValue (FP.dcmp r1348 r1348) CmpOp.l) = 0 then
  fL_law_b1383  i1 i2 i3 L xs r1354.2
  else
  (if (Op.cmpValue (FP.dcmp r1354.1 r1354.1) CmpOp.l) = 0 then
  fL_law_b1383  i1 i2 i3 L xs r1354.2
  else
  fL_law_b1385 (fL_law_b23 i1 i2 i3 L xs n) i1 i2 i3 L xs v4 r1354.2)))))
  else
  (if ((xs v4.toNatClampNeg) &&& 31) = 23 then
  Option.bind (fX6_digest i1 x) (fun r1389 =>
  Option.bind (fX7_digest i2 r1389.2) (fun r1393 =>
  (if (lg_cmp r1389.1 r1393.1) = 0 then
  fL_law_b1402 (fL_law_b23 i1 i2 i3 L xs n) i1 i2 i3 L xs v4 r1393.2
  else
  some 0)))
  else
  fL_law_b1402 (fL_law_b23 i1 i2 i3 L xs n) i1 i2 i3 L xs v4 x))))))))))))))))))))))))))
section
variable {p : Program} {l : Launch} {e : Env} {s : State} {m : MethodId} {below : List Frame} {meth : Method} {c : Code} {G : gT}
set_option maxHeartbeats 40000000 in
set_option maxRecDepth 100000 in
theorem wL_law_b1402 {b N : Nat} {k23 : Int32 → xS → Option Int32} {i1 : Nat} {i2 : Nat} {i3 : Nat} {L : Nat} {xs : Nat → Int32} (C : CT p s m #[Value.ref b] meth c cL_law 9 RL (some .boolean) G (fun q => s.heap.size ≤ q)) (T : TW (fun q => s.heap.size ≤ q) s s.heap) (hl : l.stackTraces = false) (hX : va_X b L xs s s.heap) (hbl : b < s.heap.size) {v4 : Int32} {x : xS} (h23 : ∀ (v4 : Int32) (x : xS), k23 v4 x = some 1 → ∀ k nn : Nat, k + 2 * N ≤ 601024 → nn + 12 * N ≤ 7293034 → WB p l e room_1 s m #[Value.ref b] below meth c 9 G (fun q => s.heap.size ≤ q) (lw_Z below #[Value.ref b] s) k nn 23 [(0, .ref b), (1, .ref (G.2.2 i1)), (2, .ref (G.2.2 i2)), (3, .ref (G.2.2 i3)), (4, .int v4)] [] x) (hk1 : KD G i1 6) (hk2 : KD G i2 7) (hk3 : KD G i3 11) (hf : fL_law_b1402 k23 i1 i2 i3 L xs v4 x = some 1) {k nn : Nat} (hkb : k + 2 * N ≤ 601024) (hnb : nn + 12 * N ≤ 7293034) : WB p l e room_1 s m #[Value.ref b] below meth c 9 G (fun q => s.heap.size ≤ q) (lw_Z below #[Value.ref b] s) k nn 1402 [(0, .ref b), (1, .ref (G.2.2 i1)), (2, .ref (G.2.2 i2)), (3, .ref (G.2.2 i3)), (4, .int v4)] [] x := by
  have hbA : ¬ ((fun q => s.heap.size ≤ q) b) := Nat.not_le.mpr hbl
  unfold fL_law_b1402 at hf
  refine b_iinc (q := 4) (v' := (v4 + 4)) (lv' := [(4, .int (v4 + 4)), (0, .ref b), (1, .ref (G.2.2 i1)), (2, .ref (G.2.2 i2)), (3, .ref (G.2.2 i3))]) C dL_law_1402 rfl rfl (by decide) rfl ?_
  refine b_goto (tgt := 23) C dL_law_1405 (by decide) ?_
  refine b_pm [1, 2, 3, 4, 0] (lv' := [(0, .ref b), (1, .ref (G.2.2 i1)), (2, .ref (G.2.2 i2)), (3, .ref (G.2.2 i3)), (4, .int (v4 + 4))]) rfl ?_
  exact h23 _ _ hf _ _ (by omega) (by omega)
set_option maxHeartbeats 40000000 in
set_option maxRecDepth 100000 in
theorem wL_law_b225 {b N : Nat} {k23 : Int32 → xS → Option Int32} {i1 : Nat} {i2 : Nat} {i3 : Nat} {L : Nat} {xs : Nat → Int32} (C : CT p s m #[Value.ref b] meth c cL_law 9 RL (some .boolean) G (fun q => s.heap.size ≤ q)) (T : TW (fun q => s.heap.size ≤ q) s s.heap) (hl : l.stackTraces = false) (hX : va_X b L xs s s.heap) (hbl : b < s.heap.size) {v4 : Int32} {x : xS} (h23 : ∀ (v4 : Int32) (x : xS), k23 v4 x = some 1 → ∀ k nn : Nat, k + 2 * N ≤ 601024 → nn + 12 * N ≤ 7293034 → WB p l e room_1 s m #[Value.ref b] below meth c 9 G (fun q => s.heap.size ≤ q) (lw_Z below #[Value.ref b] s) k nn 23 [(0, .ref b), (1, .ref (G.2.2 i1)), (2, .ref (G.2.2 i2)), (3, .ref (G.2.2 i3)), (4, .int v4)] [] x) (hk1 : KD G i1 6) (hk2 : KD G i2 7) (hk3 : KD G i3 11) (hf : fL_law_b225 k23 i1 i2 i3 L xs v4 x = some 1) {k nn : Nat} (hkb : k + 2 * N ≤ 601024) (hnb : nn + 12 * N ≤ 7293034) : WB p l e room_1 s m #[Value.ref b] below meth c 9 G (fun q => s.heap.size ≤ q) (lw_Z below #[Value.ref b] s) k nn 225 [(0, .ref b), (1, .ref (G.2.2 i1)), (2, .ref (G.2.2 i2)), (3, .ref (G.2.2 i3)), (4, .int v4)] [] x := by
  have hbA : ¬ ((fun q => s.heap.size ≤ q) b) := Nat.not_le.mpr hbl
  unfold fL_law_b225 at hf
  refine b_goto (tgt := 1402) C dL_law_225 (by decide) ?_
  exact wL_law_b1402 C T hl hX hbl h23 hk1 hk2 hk3 hf (by omega) (by omega)
set_option maxHeartbeats 40000000 in
set_option maxRecDepth 100000 in
theorem wL_law_b293 {b N : Nat} {k23 : Int32 → xS → Option Int32} {i1 : Nat} {i2 : Nat} {i3 : Nat} {L : Nat} {xs : Nat → Int32} (C : CT p s m #[Value.ref b] meth c cL_law 9 RL (some .boolean) G (fun q => s.heap.size ≤ q)) (T : TW (fun q => s.heap.size ≤ q) s s.heap) (hl : l.stackTraces = false) (hX : va_X b L xs s s.heap) (hbl : b < s.heap.size) {v4 : Int32} {x : xS} (h23 : ∀ (v4 : Int32) (x : xS), k23 v4 x = some 1 → ∀ k nn : Nat, k + 2 * N ≤ 601024 → nn + 12 * N ≤ 7293034 → WB p l e room_1 s m #[Value.ref b] below meth c 9 G (fun q => s.heap.size ≤ q) (lw_Z below #[Value.ref b] s) k nn 23 [(0, .ref b), (1, .ref (G.2.2 i1)), (2, .ref (G.2.2 i2)), (3, .ref (G.2.2 i3)), (4, .int v4)] [] x) (hk1 : KD G i1 6) (hk2 : KD G i2 7) (hk3 : KD G i3 11) (hf : fL_law_b293 k23 i1 i2 i3 L xs v4 x = some 1) {k nn : Nat} (hkb : k + 2 * N ≤ 601024) (hnb : nn + 12 * N ≤ 7293034) : WB p l e room_1 s m #[Value.ref b] below meth c 9 G (fun q => s.heap.size ≤ q) (lw_Z below #[Value.ref b] s) k nn 293 [(0, .ref b), (1, .ref (G.2.2 i1)), (2, .ref (G.2.2 i2)), (3, .ref (G.2.2 i3)), (4, .int v4)] [] x := by
  have hbA : ¬ ((fun q => s.heap.size ≤ q) b) := Nat.not_le.mpr hbl
  unfold fL_law_b293 at hf
  refine b_goto (tgt := 1402) C dL_law_293 (by decide) ?_
  exact wL_law_b1402 C T hl hX hbl h23 hk1 hk2 hk3 hf (by omega) (by omega)
set_option maxHeartbeats 40000000 in
set_option maxRecDepth 100000 in
theorem wL_law_b349 {b N : Nat} {k23 : Int32 → xS → Option Int32} {i1 : Nat} {i2 : Nat} {i3 : Nat} {L : Nat} {xs : Nat → Int32} (C : CT p s m #[Value.ref b] meth c cL_law 9 RL (some .boolean) G (fun q => s.heap.size ≤ q)) (T : TW (fun q => s.heap.size ≤ q) s s.heap) (hl : l.stackTraces = false) (hX : va_X b L xs s s.heap) (hbl : b < s.heap.size) {v4 : Int32} {x : xS} (h23 : ∀ (v4 : Int32) (x : xS), k23 v4 x = some 1 → ∀ k nn : Nat, k + 2 * N ≤ 601024 → nn + 12 * N ≤ 7293034 → WB p l e room_1 s m #[Value.ref b] below meth c 9 G (fun q => s.heap.size ≤ q) (lw_Z below #[Value.ref b] s) k nn 23 [(0, .ref b), (1, .ref (G.2.2 i1)), (2, .ref (G.2.2 i2)), (3, .ref (G.2.2 i3)), (4, .int v4)] [] x) (hk1 : KD G i1 6) (hk2 : KD G i2 7) (hk3 : KD G i3 11) (hf : fL_law_b349 k23 i1 i2 i3 L xs v4 x = some 1) {k nn : Nat} (hkb : k + 2 * N ≤ 601024) (hnb : nn + 12 * N ≤ 7293034) : WB p l e room_1 s m #[Value.ref b] below meth c 9 G (fun q => s.heap.size ≤ q) (lw_Z below #[Value.ref b] s) k nn 349 [(0, .ref b), (1, .ref (G.2.2 i1)), (2, .ref (G.2.2 i2)), (3, .ref (G.2.2 i3)), (4, .int v4)] [] x := by
  have hbA : ¬ ((fun q => s.heap.size ≤ q) b) := Nat.not_le.mpr hbl
  unfold fL_law_b349 at hf
  refine b_goto (tgt := 1402) C dL_law_349 (by decide) ?_
  exact wL_law_b1402 C T hl hX hbl h23 hk1 hk2 hk3 hf (by omega) (by omega)
set_option maxHeartbeats 40000000 in
set_option maxRecDepth 100000 in
theorem wL_law_b417 {b N : Nat} {k23 : Int32 → xS → Option Int32} {i1 : Nat} {i2 : Nat} {i3 : Nat} {L : Nat} {xs : Nat → Int32} (C : CT p s m #[Value.ref b] meth c cL_law 9 RL (some .boolean) G (fun q => s.heap.size ≤ q)) (T : TW (fun q => s.heap.size ≤ q) s s.heap) (hl : l.stackTraces = false) (hX : va_X b L xs s s.heap) (hbl : b < s.heap.size) {v4 : Int32} {x : xS} (h23 : ∀ (v4 : Int32) (x : xS), k23 v4 x = some 1 → ∀ k nn : Nat, k + 2 * N ≤ 601024 → nn + 12 * N ≤ 7293034 → WB p l e room_1 s m #[Value.ref b] below meth c 9 G (fun q => s.heap.size ≤ q) (lw_Z below #[Value.ref b] s) k nn 23 [(0, .ref b), (1, .ref (G.2.2 i1)), (2, .ref (G.2.2 i2)), (3, .ref (G.2.2 i3)), (4, .int v4)] [] x) (hk1 : KD G i1 6) (hk2 : KD G i2 7) (hk3 : KD G i3 11) (hf : fL_law_b417 k23 i1 i2 i3 L xs v4 x = some 1) {k nn : Nat} (hkb : k + 2 * N ≤ 601024) (hnb : nn + 12 * N ≤ 7293034) : WB p l e room_1 s m #[Value.ref b] below meth c 9 G (fun q => s.heap.size ≤ q) (lw_Z below #[Value.ref b] s) k nn 417 [(0, .ref b), (1, .ref (G.2.2 i1)), (2, .ref (G.2.2 i2)), (3, .ref (G.2.2 i3)), (4, .int v4)] [] x := by
  have hbA : ¬ ((fun q => s.heap.size ≤ q) b) := Nat.not_le.mpr hbl
  unfold fL_law_b417 at hf
  refine b_goto (tgt := 1402) C dL_law_417 (by decide) ?_
  exact wL_law_b1402 C T hl hX hbl h23 hk1 hk2 hk3 hf (by omega) (by omega)
set_option maxHeartbeats 40000000 in
set_option maxRecDepth 100000 in
theorem wL_law_b461 {b N : Nat} {k23 : Int32 → xS → Option Int32} {i1 : Nat} {i2 : Nat} {i3 : Nat} {L : Nat} {xs : Nat → Int32} (C : CT p s m #[Value.ref b] meth c cL_law 9 RL (some .boolean) G (fun q => s.heap.size ≤ q)) (T : TW (fun q => s.heap.size ≤ q) s s.heap) (hl : l.stackTraces = false) (hX : va_X b L xs s s.heap) (hbl : b < s.heap.size) {v4 : Int32} {x : xS} (h23 : ∀ (v4 : Int32) (x : xS), k23 v4 x = some 1 → ∀ k nn : Nat, k + 2 * N ≤ 601024 → nn + 12 * N ≤ 7293034 → WB p l e room_1 s m #[Value.ref b] below meth c 9 G (fun q => s.heap.size ≤ q) (lw_Z below #[Value.ref b] s) k nn 23 [(0, .ref b), (1, .ref (G.2.2 i1)), (2, .ref (G.2.2 i2)), (3, .ref (G.2.2 i3)), (4, .int v4)] [] x) (hk1 : KD G i1 6) (hk2 : KD G i2 7) (hk3 : KD G i3 11) (hf : fL_law_b461 k23 i1 i2 i3 L xs v4 x = some 1) {k nn : Nat} (hkb : k + 2 * N ≤ 601024) (hnb : nn + 12 * N ≤ 7293034) : WB p l e room_1 s m #[Value.ref b] below meth c 9 G (fun q => s.heap.size ≤ q) (lw_Z below #[Value.ref b] s) k nn 461 [(0, .ref b), (1, .ref (G.2.2 i1)), (2, .ref (G.2.2 i2)), (3, .ref (G.2.2 i3)), (4, .int v4)] [] x := by
  have hbA : ¬ ((fun q => s.heap.size ≤ q) b) := Nat.not_le.mpr hbl
  unfold fL_law_b461 at hf
  refine b_goto (tgt := 1402) C dL_law_461 (by decide) ?_
  exact wL_law_b1402 C T hl hX hbl h23 hk1 hk2 hk3 hf (by omega) (by omega)
set_option maxHeartbeats 40000000 in
set_option maxRecDepth 100000 in
theorem wL_law_b517 {b N : Nat} {k23 : Int32 → xS → Option Int32} {i1 : Nat} {i2 : Nat} {i3 : Nat} {L : Nat} {xs : Nat → Int32} (C : CT p s m #[Value.ref b] meth c cL_law 9 RL (some .boolean) G (fun q => s.heap.size ≤ q)) (T : TW (fun q => s.heap.size ≤ q) s s.heap) (hl : l.stackTraces = false) (hX : va_X b L xs s s.heap) (hbl : b < s.heap.size) {v4 : Int32} {x : xS} (h23 : ∀ (v4 : Int32) (x : xS), k23 v4 x = some 1 → ∀ k nn : Nat, k + 2 * N ≤ 601024 → nn + 12 * N ≤ 7293034 → WB p l e room_1 s m #[Value.ref b] below meth c 9 G (fun q => s.heap.size ≤ q) (lw_Z below #[Value.ref b] s) k nn 23 [(0, .ref b), (1, .ref (G.2.2 i1)), (2, .ref (G.2.2 i2)), (3, .ref (G.2.2 i3)), (4, .int v4)] [] x) (hk1 : KD G i1 6) (hk2 : KD G i2 7) (hk3 : KD G i3 11) (hf : fL_law_b517 k23 i1 i2 i3 L xs v4 x = some 1) {k nn : Nat} (hkb : k + 2 * N ≤ 601024) (hnb : nn + 12 * N ≤ 7293034) : WB p l e room_1 s m #[Value.ref b] below meth c 9 G (fun q => s.heap.size ≤ q) (lw_Z below #[Value.ref b] s) k nn 517 [(0, .ref b), (1, .ref (G.2.2 i1)), (2, .ref (G.2.2 i2)), (3, .ref (G.2.2 i3)), (4, .int v4)] [] x := by
  have hbA : ¬ ((fun q => s.heap.size ≤ q) b) := Nat.not_le.mpr hbl
  unfold fL_law_b517 at hf
  refine b_goto (tgt := 1402) C dL_law_517 (by decide) ?_
  exact wL_law_b1402 C T hl hX hbl h23 hk1 hk2 hk3 hf (by omega) (by omega)
set_option maxHeartbeats 40000000 in
set_option maxRecDepth 100000 in
theorem wL_law_b573 {b N : Nat} {k23 : Int32 → xS → Option Int32} {i1 : Nat} {i2 : Nat} {i3 : Nat} {L : Nat} {xs : Nat → Int32} (C : CT p s m #[Value.ref b] meth c cL_law 9 RL (some .boolean) G (fun q => s.heap.size ≤ q)) (T : TW (fun q => s.heap.size ≤ q) s s.heap) (hl : l.stackTraces = false) (hX : va_X b L xs s s.heap) (hbl : b < s.heap.size) {v4 : Int32} {x : xS} (h23 : ∀ (v4 : Int32) (x : xS), k23 v4 x = some 1 → ∀ k nn : Nat, k + 2 * N ≤ 601024 → nn + 12 * N ≤ 7293034 → WB p l e room_1 s m #[Value.ref b] below meth c 9 G (fun q => s.heap.size ≤ q) (lw_Z below #[Value.ref b] s) k nn 23 [(0, .ref b), (1, .ref (G.2.2 i1)), (2, .ref (G.2.2 i2)), (3, .ref (G.2.2 i3)), (4, .int v4)] [] x) (hk1 : KD G i1 6) (hk2 : KD G i2 7) (hk3 : KD G i3 11) (hf : fL_law_b573 k23 i1 i2 i3 L xs v4 x = some 1) {k nn : Nat} (hkb : k + 2 * N ≤ 601024) (hnb : nn + 12 * N ≤ 7293034) : WB p l e room_1 s m #[Value.ref b] below meth c 9 G (fun q => s.heap.size ≤ q) (lw_Z below #[Value.ref b] s) k nn 573 [(0, .ref b), (1, .ref (G.2.2 i1)), (2, .ref (G.2.2 i2)), (3, .ref (G.2.2 i3)), (4, .int v4)] [] x := by
  have hbA : ¬ ((fun q => s.heap.size ≤ q) b) := Nat.not_le.mpr hbl
  unfold fL_law_b573 at hf
  refine b_goto (tgt := 1402) C dL_law_573 (by decide) ?_
  exact wL_law_b1402 C T hl hX hbl h23 hk1 hk2 hk3 hf (by omega) (by omega)
set_option maxHeartbeats 40000000 in
set_option maxRecDepth 100000 in
theorem wL_law_b643 {b N : Nat} {k23 : Int32 → xS → Option Int32} {i1 : Nat} {i2 : Nat} {i3 : Nat} {L : Nat} {xs : Nat → Int32} (C : CT p s m #[Value.ref b] meth c cL_law 9 RL (some .boolean) G (fun q => s.heap.size ≤ q)) (T : TW (fun q => s.heap.size ≤ q) s s.heap) (hl : l.stackTraces = false) (hX : va_X b L xs s s.heap) (hbl : b < s.heap.size) {v4 : Int32} {x : xS} (h23 : ∀ (v4 : Int32) (x : xS), k23 v4 x = some 1 → ∀ k nn : Nat, k + 2 * N ≤ 601024 → nn + 12 * N ≤ 7293034 → WB p l e room_1 s m #[Value.ref b] below meth c 9 G (fun q => s.heap.size ≤ q) (lw_Z below #[Value.ref b] s) k nn 23 [(0, .ref b), (1, .ref (G.2.2 i1)), (2, .ref (G.2.2 i2)), (3, .ref (G.2.2 i3)), (4, .int v4)] [] x) (hk1 : KD G i1 6) (hk2 : KD G i2 7) (hk3 : KD G i3 11) (hf : fL_law_b643 k23 i1 i2 i3 L xs v4 x = some 1) {k nn : Nat} (hkb : k + 2 * N ≤ 601024) (hnb : nn + 12 * N ≤ 7293034) : WB p l e room_1 s m #[Value.ref b] below meth c 9 G (fun q => s.heap.size ≤ q) (lw_Z below #[Value.ref b] s) k nn 643 [(0, .ref b), (1, .ref (G.2.2 i1)), (2, .ref (G.2.2 i2)), (3, .ref (G.2.2 i3)), (4, .int v4)] [] x := by
  have hbA : ¬ ((fun q => s.heap.size ≤ q) b) := Nat.not_le.mpr hbl
  unfold fL_law_b643 at hf
  refine b_goto (tgt := 1402) C dL_law_643 (by decide) ?_
  exact wL_law_b1402 C T hl hX hbl h23 hk1 hk2 hk3 hf (by omega) (by omega)
set_option maxHeartbeats 40000000 in
set_option maxRecDepth 100000 in
theorem wL_law_b699 {b N : Nat} {k23 : Int32 → xS → Option Int32} {i1 : Nat} {i2 : Nat} {i3 : Nat} {L : Nat} {xs : Nat → Int32} (C : CT p s m #[Value.ref b] meth c cL_law 9 RL (some .boolean) G (fun q => s.heap.size ≤ q)) (T : TW (fun q => s.heap.size ≤ q) s s.heap) (hl : l.stackTraces = false) (hX : va_X b L xs s s.heap) (hbl : b < s.heap.size) {v4 : Int32} {x : xS} (h23 : ∀ (v4 : Int32) (x : xS), k23 v4 x = some 1 → ∀ k nn : Nat, k + 2 * N ≤ 601024 → nn + 12 * N ≤ 7293034 → WB p l e room_1 s m #[Value.ref b] below meth c 9 G (fun q => s.heap.size ≤ q) (lw_Z below #[Value.ref b] s) k nn 23 [(0, .ref b), (1, .ref (G.2.2 i1)), (2, .ref (G.2.2 i2)), (3, .ref (G.2.2 i3)), (4, .int v4)] [] x) (hk1 : KD G i1 6) (hk2 : KD G i2 7) (hk3 : KD G i3 11) (hf : fL_law_b699 k23 i1 i2 i3 L xs v4 x = some 1) {k nn : Nat} (hkb : k + 2 * N ≤ 601024) (hnb : nn + 12 * N ≤ 7293034) : WB p l e room_1 s m #[Value.ref b] below meth c 9 G (fun q => s.heap.size ≤ q) (lw_Z below #[Value.ref b] s) k nn 699 [(0, .ref b), (1, .ref (G.2.2 i1)), (2, .ref (G.2.2 i2)), (3, .ref (G.2.2 i3)), (4, .int v4)] [] x := by
  have hbA : ¬ ((fun q => s.heap.size ≤ q) b) := Nat.not_le.mpr hbl
  unfold fL_law_b699 at hf
  refine b_goto (tgt := 1402) C dL_law_699 (by decide) ?_
  exact wL_law_b1402 C T hl hX hbl h23 hk1 hk2 hk3 hf (by omega) (by omega)
set_option maxHeartbeats 40000000 in
set_option maxRecDepth 100000 in
theorem wL_law_b755 {b N : Nat} {k23 : Int32 → xS → Option Int32} {i1 : Nat} {i2 : Nat} {i3 : Nat} {L : Nat} {xs : Nat → Int32} (C : CT p s m #[Value.ref b] meth c cL_law 9 RL (some .boolean) G (fun q => s.heap.size ≤ q)) (T : TW (fun q => s.heap.size ≤ q) s s.heap) (hl : l.stackTraces = false) (hX : va_X b L xs s s.heap) (hbl : b < s.heap.size) {v4 : Int32} {x : xS} (h23 : ∀ (v4 : Int32) (x : xS), k23 v4 x = some 1 → ∀ k nn : Nat, k + 2 * N ≤ 601024 → nn + 12 * N ≤ 7293034 → WB p l e room_1 s m #[Value.ref b] below meth c 9 G (fun q => s.heap.size ≤ q) (lw_Z below #[Value.ref b] s) k nn 23 [(0, .ref b), (1, .ref (G.2.2 i1)), (2, .ref (G.2.2 i2)), (3, .ref (G.2.2 i3)), (4, .int v4)] [] x) (hk1 : KD G i1 6) (hk2 : KD G i2 7) (hk3 : KD G i3 11) (hf : fL_law_b755 k23 i1 i2 i3 L xs v4 x = some 1) {k nn : Nat} (hkb : k + 2 * N ≤ 601024) (hnb : nn + 12 * N ≤ 7293034) : WB p l e room_1 s m #[Value.ref b] below meth c 9 G (fun q => s.heap.size ≤ q) (lw_Z below #[Value.ref b] s) k nn 755 [(0, .ref b), (1, .ref (G.2.2 i1)), (2, .ref (G.2.2 i2)), (3, .ref (G.2.2 i3)), (4, .int v4)] [] x := by
  have hbA : ¬ ((fun q => s.heap.size ≤ q) b) := Nat.not_le.mpr hbl
  unfold fL_law_b755 at hf
  refine b_goto (tgt := 1402) C dL_law_755 (by decide) ?_
  exact wL_law_b1402 C T hl hX hbl h23 hk1 hk2 hk3 hf (by omega) (by omega)
set_option maxHeartbeats 40000000 in
set_option maxRecDepth 100000 in
theorem wL_law_b799 {b N : Nat} {k23 : Int32 → xS → Option Int32} {i1 : Nat} {i2 : Nat} {i3 : Nat} {L : Nat} {xs : Nat → Int32} (C : CT p s m #[Value.ref b] meth c cL_law 9 RL (some .boolean) G (fun q => s.heap.size ≤ q)) (T : TW (fun q => s.heap.size ≤ q) s s.heap) (hl : l.stackTraces = false) (hX : va_X b L xs s s.heap) (hbl : b < s.heap.size) {v4 : Int32} {x : xS} (h23 : ∀ (v4 : Int32) (x : xS), k23 v4 x = some 1 → ∀ k nn : Nat, k + 2 * N ≤ 601024 → nn + 12 * N ≤ 7293034 → WB p l e room_1 s m #[Value.ref b] below meth c 9 G (fun q => s.heap.size ≤ q) (lw_Z below #[Value.ref b] s) k nn 23 [(0, .ref b), (1, .ref (G.2.2 i1)), (2, .ref (G.2.2 i2)), (3, .ref (G.2.2 i3)), (4, .int v4)] [] x) (hk1 : KD G i1 6) (hk2 : KD G i2 7) (hk3 : KD G i3 11) (hf : fL_law_b799 k23 i1 i2 i3 L xs v4 x = some 1) {k nn : Nat} (hkb : k + 2 * N ≤ 601024) (hnb : nn + 12 * N ≤ 7293034) : WB p l e room_1 s m #[Value.ref b] below meth c 9 G (fun q => s.heap.size ≤ q) (lw_Z below #[Value.ref b] s) k nn 799 [(0, .ref b), (1, .ref (G.2.2 i1)), (2, .ref (G.2.2 i2)), (3, .ref (G.2.2 i3)), (4, .int v4)] [] x := by
  have hbA : ¬ ((fun q => s.heap.size ≤ q) b) := Nat.not_le.mpr hbl
  unfold fL_law_b799 at hf
  refine b_goto (tgt := 1402) C dL_law_799 (by decide) ?_
  exact wL_law_b1402 C T hl hX hbl h23 hk1 hk2 hk3 hf (by omega) (by omega)
set_option maxHeartbeats 40000000 in
set_option maxRecDepth 100000 in
theorem wL_law_b867 {b N : Nat} {k23 : Int32 → xS → Option Int32} {i1 : Nat} {i2 : Nat} {i3 : Nat} {L : Nat} {xs : Nat → Int32} (C : CT p s m #[Value.ref b] meth c cL_law 9 RL (some .boolean) G (fun q => s.heap.size ≤ q)) (T : TW (fun q => s.heap.size ≤ q) s s.heap) (hl : l.stackTraces = false) (hX : va_X b L xs s s.heap) (hbl : b < s.heap.size) {v4 : Int32} {x : xS} (h23 : ∀ (v4 : Int32) (x : xS), k23 v4 x = some 1 → ∀ k nn : Nat, k + 2 * N ≤ 601024 → nn + 12 * N ≤ 7293034 → WB p l e room_1 s m #[Value.ref b] below meth c 9 G (fun q => s.heap.size ≤ q) (lw_Z below #[Value.ref b] s) k nn 23 [(0, .ref b), (1, .ref (G.2.2 i1)), (2, .ref (G.2.2 i2)), (3, .ref (G.2.2 i3)), (4, .int v4)] [] x) (hk1 : KD G i1 6) (hk2 : KD G i2 7) (hk3 : KD G i3 11) (hf : fL_law_b867 k23 i1 i2 i3 L xs v4 x = some 1) {k nn : Nat} (hkb : k + 2 * N ≤ 601024) (hnb : nn + 12 * N ≤ 7293034) : WB p l e room_1 s m #[Value.ref b] below meth c 9 G (fun q => s.heap.size ≤ q) (lw_Z below #[Value.ref b] s) k nn 867 [(0, .ref b), (1, .ref (G.2.2 i1)), (2, .ref (G.2.2 i2)), (3, .ref (G.2.2 i3)), (4, .int v4)] [] x := by
  have hbA : ¬ ((fun q => s.heap.size ≤ q) b) := Nat.not_le.mpr hbl
  unfold fL_law_b867 at hf
  refine b_goto (tgt := 1402) C dL_law_867 (by decide) ?_
  exact wL_law_b1402 C T hl hX hbl h23 hk1 hk2 hk3 hf (by omega) (by omega)
set_option maxHeartbeats 40000000 in
set_option maxRecDepth 100000 in
theorem wL_law_b935 {b N : Nat} {k23 : Int32 → xS → Option Int32} {i1 : Nat} {i2 : Nat} {i3 : Nat} {L : Nat} {xs : Nat → Int32} (C : CT p s m #[Value.ref b] meth c cL_law 9 RL (some .boolean) G (fun q => s.heap.size ≤ q)) (T : TW (fun q => s.heap.size ≤ q) s s.heap) (hl : l.stackTraces = false) (hX : va_X b L xs s s.heap) (hbl : b < s.heap.size) {v4 : Int32} {x : xS} (h23 : ∀ (v4 : Int32) (x : xS), k23 v4 x = some 1 → ∀ k nn : Nat, k + 2 * N ≤ 601024 → nn + 12 * N ≤ 7293034 → WB p l e room_1 s m #[Value.ref b] below meth c 9 G (fun q => s.heap.size ≤ q) (lw_Z below #[Value.ref b] s) k nn 23 [(0, .ref b), (1, .ref (G.2.2 i1)), (2, .ref (G.2.2 i2)), (3, .ref (G.2.2 i3)), (4, .int v4)] [] x) (hk1 : KD G i1 6) (hk2 : KD G i2 7) (hk3 : KD G i3 11) (hf : fL_law_b935 k23 i1 i2 i3 L xs v4 x = some 1) {k nn : Nat} (hkb : k + 2 * N ≤ 601024) (hnb : nn + 12 * N ≤ 7293034) : WB p l e room_1 s m #[Value.ref b] below meth c 9 G (fun q => s.heap.size ≤ q) (lw_Z below #[Value.ref b] s) k nn 935 [(0, .ref b), (1, .ref (G.2.2 i1)), (2, .ref (G.2.2 i2)), (3, .ref (G.2.2 i3)), (4, .int v4)] [] x := by
  have hbA : ¬ ((fun q => s.heap.size ≤ q) b) := Nat.not_le.mpr hbl
  unfold fL_law_b935 at hf
  refine b_goto (tgt := 1402) C dL_law_935 (by decide) ?_
  exact wL_law_b1402 C T hl hX hbl h23 hk1 hk2 hk3 hf (by omega) (by omega)
set_option maxHeartbeats 40000000 in
set_option maxRecDepth 100000 in
theorem wL_law_b991 {b N : Nat} {k23 : Int32 → xS → Option Int32} {i1 : Nat} {i2 : Nat} {i3 : Nat} {L : Nat} {xs : Nat → Int32} (C : CT p s m #[Value.ref b] meth c cL_law 9 RL (some .boolean) G (fun q => s.heap.size ≤ q)) (T : TW (fun q => s.heap.size ≤ q) s s.heap) (hl : l.stackTraces = false) (hX : va_X b L xs s s.heap) (hbl : b < s.heap.size) {v4 : Int32} {x : xS} (h23 : ∀ (v4 : Int32) (x : xS), k23 v4 x = some 1 → ∀ k nn : Nat, k + 2 * N ≤ 601024 → nn + 12 * N ≤ 7293034 → WB p l e room_1 s m #[Value.ref b] below meth c 9 G (fun q => s.heap.size ≤ q) (lw_Z below #[Value.ref b] s) k nn 23 [(0, .ref b), (1, .ref (G.2.2 i1)), (2, .ref (G.2.2 i2)), (3, .ref (G.2.2 i3)), (4, .int v4)] [] x) (hk1 : KD G i1 6) (hk2 : KD G i2 7) (hk3 : KD G i3 11) (hf : fL_law_b991 k23 i1 i2 i3 L xs v4 x = some 1) {k nn : Nat} (hkb : k + 2 * N ≤ 601024) (hnb : nn + 12 * N ≤ 7293034) : WB p l e room_1 s m #[Value.ref b] below meth c 9 G (fun q => s.heap.size ≤ q) (lw_Z below #[Value.ref b] s) k nn 991 [(0, .ref b), (1, .ref (G.2.2 i1)), (2, .ref (G.2.2 i2)), (3, .ref (G.2.2 i3)), (4, .int v4)] [] x := by
  have hbA : ¬ ((fun q => s.heap.size ≤ q) b) := Nat.not_le.mpr hbl
  unfold fL_law_b991 at hf
  refine b_goto (tgt := 1402) C dL_law_991 (by decide) ?_
  exact wL_law_b1402 C T hl hX hbl h23 hk1 hk2 hk3 hf (by omega) (by omega)
set_option maxHeartbeats 40000000 in
set_option maxRecDepth 100000 in
theorem wL_law_b1047 {b N : Nat} {k23 : Int32 → xS → Option Int32} {i1 : Nat} {i2 : Nat} {i3 : Nat} {L : Nat} {xs : Nat → Int32} (C : CT p s m #[Value.ref b] meth c cL_law 9 RL (some .boolean) G (fun q => s.heap.size ≤ q)) (T : TW (fun q => s.heap.size ≤ q) s s.heap) (hl : l.stackTraces = false) (hX : va_X b L xs s s.heap) (hbl : b < s.heap.size) {v4 : Int32} {x : xS} (h23 : ∀ (v4 : Int32) (x : xS), k23 v4 x = some 1 → ∀ k nn : Nat, k + 2 * N ≤ 601024 → nn + 12 * N ≤ 7293034 → WB p l e room_1 s m #[Value.ref b] below meth c 9 G (fun q => s.heap.size ≤ q) (lw_Z below #[Value.ref b] s) k nn 23 [(0, .ref b), (1, .ref (G.2.2 i1)), (2, .ref (G.2.2 i2)), (3, .ref (G.2.2 i3)), (4, .int v4)] [] x) (hk1 : KD G i1 6) (hk2 : KD G i2 7) (hk3 : KD G i3 11) (hf : fL_law_b1047 k23 i1 i2 i3 L xs v4 x = some 1) {k nn : Nat} (hkb : k + 2 * N ≤ 601024) (hnb : nn + 12 * N ≤ 7293034) : WB p l e room_1 s m #[Value.ref b] below meth c 9 G (fun q => s.heap.size ≤ q) (lw_Z below #[Value.ref b] s) k nn 1047 [(0, .ref b), (1, .ref (G.2.2 i1)), (2, .ref (G.2.2 i2)), (3, .ref (G.2.2 i3)), (4, .int v4)] [] x := by
  have hbA : ¬ ((fun q => s.heap.size ≤ q) b) := Nat.not_le.mpr hbl
  unfold fL_law_b1047 at hf
  refine b_goto (tgt := 1402) C dL_law_1047 (by decide) ?_
  exact wL_law_b1402 C T hl hX hbl h23 hk1 hk2 hk3 hf (by omega) (by omega)
set_option maxHeartbeats 40000000 in
set_option maxRecDepth 100000 in
theorem wL_law_b1127 {b N : Nat} {k23 : Int32 → xS → Option Int32} {i1 : Nat} {i2 : Nat} {i3 : Nat} {L : Nat} {xs : Nat → Int32} (C : CT p s m #[Value.ref b] meth c cL_law 9 RL (some .boolean) G (fun q => s.heap.size ≤ q)) (T : TW (fun q => s.heap.size ≤ q) s s.heap) (hl : l.stackTraces = false) (hX : va_X b L xs s s.heap) (hbl : b < s.heap.size) {v4 : Int32} {x : xS} (h23 : ∀ (v4 : Int32) (x : xS), k23 v4 x = some 1 → ∀ k nn : Nat, k + 2 * N ≤ 601024 → nn + 12 * N ≤ 7293034 → WB p l e room_1 s m #[Value.ref b] below meth c 9 G (fun q => s.heap.size ≤ q) (lw_Z below #[Value.ref b] s) k nn 23 [(0, .ref b), (1, .ref (G.2.2 i1)), (2, .ref (G.2.2 i2)), (3, .ref (G.2.2 i3)), (4, .int v4)] [] x) (hk1 : KD G i1 6) (hk2 : KD G i2 7) (hk3 : KD G i3 11) (hf : fL_law_b1127 k23 i1 i2 i3 L xs v4 x = some 1) {k nn : Nat} (hkb : k + 2 * N ≤ 601024) (hnb : nn + 12 * N ≤ 7293034) : WB p l e room_1 s m #[Value.ref b] below meth c 9 G (fun q => s.heap.size ≤ q) (lw_Z below #[Value.ref b] s) k nn 1127 [(0, .ref b), (1, .ref (G.2.2 i1)), (2, .ref (G.2.2 i2)), (3, .ref (G.2.2 i3)), (4, .int v4)] [] x := by
  have hbA : ¬ ((fun q => s.heap.size ≤ q) b) := Nat.not_le.mpr hbl
  unfold fL_law_b1127 at hf
  refine b_goto (tgt := 1402) C dL_law_1127 (by decide) ?_
  exact wL_law_b1402 C T hl hX hbl h23 hk1 hk2 hk3 hf (by omega) (by omega)
set_option maxHeartbeats 40000000 in
set_option maxRecDepth 100000 in
theorem wL_law_b1207 {b N : Nat} {k23 : Int32 → xS → Option Int32} {i1 : Nat} {i2 : Nat} {i3 : Nat} {L : Nat} {xs : Nat → Int32} (C : CT p s m #[Value.ref b] meth c cL_law 9 RL (some .boolean) G (fun q => s.heap.size ≤ q)) (T : TW (fun q => s.heap.size ≤ q) s s.heap) (hl : l.stackTraces = false) (hX : va_X b L xs s s.heap) (hbl : b < s.heap.size) {v4 : Int32} {x : xS} (h23 : ∀ (v4 : Int32) (x : xS), k23 v4 x = some 1 → ∀ k nn : Nat, k + 2 * N ≤ 601024 → nn + 12 * N ≤ 7293034 → WB p l e room_1 s m #[Value.ref b] below meth c 9 G (fun q => s.heap.size ≤ q) (lw_Z below #[Value.ref b] s) k nn 23 [(0, .ref b), (1, .ref (G.2.2 i1)), (2, .ref (G.2.2 i2)), (3, .ref (G.2.2 i3)), (4, .int v4)] [] x) (hk1 : KD G i1 6) (hk2 : KD G i2 7) (hk3 : KD G i3 11) (hf : fL_law_b1207 k23 i1 i2 i3 L xs v4 x = some 1) {k nn : Nat} (hkb : k + 2 * N ≤ 601024) (hnb : nn + 12 * N ≤ 7293034) : WB p l e room_1 s m #[Value.ref b] below meth c 9 G (fun q => s.heap.size ≤ q) (lw_Z below #[Value.ref b] s) k nn 1207 [(0, .ref b), (1, .ref (G.2.2 i1)), (2, .ref (G.2.2 i2)), (3, .ref (G.2.2 i3)), (4, .int v4)] [] x := by
  have hbA : ¬ ((fun q => s.heap.size ≤ q) b) := Nat.not_le.mpr hbl
  unfold fL_law_b1207 at hf
  refine b_goto (tgt := 1402) C dL_law_1207 (by decide) ?_
  exact wL_law_b1402 C T hl hX hbl h23 hk1 hk2 hk3 hf (by omega) (by omega)
set_option maxHeartbeats 40000000 in
set_option maxRecDepth 100000 in
theorem wL_law_b1263 {b N : Nat} {k23 : Int32 → xS → Option Int32} {i1 : Nat} {i2 : Nat} {i3 : Nat} {L : Nat} {xs : Nat → Int32} (C : CT p s m #[Value.ref b] meth c cL_law 9 RL (some .boolean) G (fun q => s.heap.size ≤ q)) (T : TW (fun q => s.heap.size ≤ q) s s.heap) (hl : l.stackTraces = false) (hX : va_X b L xs s s.heap) (hbl : b < s.heap.size) {v4 : Int32} {x : xS} (h23 : ∀ (v4 : Int32) (x : xS), k23 v4 x = some 1 → ∀ k nn : Nat, k + 2 * N ≤ 601024 → nn + 12 * N ≤ 7293034 → WB p l e room_1 s m #[Value.ref b] below meth c 9 G (fun q => s.heap.size ≤ q) (lw_Z below #[Value.ref b] s) k nn 23 [(0, .ref b), (1, .ref (G.2.2 i1)), (2, .ref (G.2.2 i2)), (3, .ref (G.2.2 i3)), (4, .int v4)] [] x) (hk1 : KD G i1 6) (hk2 : KD G i2 7) (hk3 : KD G i3 11) (hf : fL_law_b1263 k23 i1 i2 i3 L xs v4 x = some 1) {k nn : Nat} (hkb : k + 2 * N ≤ 601024) (hnb : nn + 12 * N ≤ 7293034) : WB p l e room_1 s m #[Value.ref b] below meth c 9 G (fun q => s.heap.size ≤ q) (lw_Z below #[Value.ref b] s) k nn 1263 [(0, .ref b), (1, .ref (G.2.2 i1)), (2, .ref (G.2.2 i2)), (3, .ref (G.2.2 i3)), (4, .int v4)] [] x := by
  have hbA : ¬ ((fun q => s.heap.size ≤ q) b) := Nat.not_le.mpr hbl
  unfold fL_law_b1263 at hf
  refine b_goto (tgt := 1402) C dL_law_1263 (by decide) ?_
  exact wL_law_b1402 C T hl hX hbl h23 hk1 hk2 hk3 hf (by omega) (by omega)
set_option maxHeartbeats 40000000 in
set_option maxRecDepth 100000 in
theorem wL_law_b1331 {b N : Nat} {k23 : Int32 → xS → Option Int32} {i1 : Nat} {i2 : Nat} {i3 : Nat} {L : Nat} {xs : Nat → Int32} (C : CT p s m #[Value.ref b] meth c cL_law 9 RL (some .boolean) G (fun q => s.heap.size ≤ q)) (T : TW (fun q => s.heap.size ≤ q) s s.heap) (hl : l.stackTraces = false) (hX : va_X b L xs s s.heap) (hbl : b < s.heap.size) {v4 : Int32} {x : xS} (h23 : ∀ (v4 : Int32) (x : xS), k23 v4 x = some 1 → ∀ k nn : Nat, k + 2 * N ≤ 601024 → nn + 12 * N ≤ 7293034 → WB p l e room_1 s m #[Value.ref b] below meth c 9 G (fun q => s.heap.size ≤ q) (lw_Z below #[Value.ref b] s) k nn 23 [(0, .ref b), (1, .ref (G.2.2 i1)), (2, .ref (G.2.2 i2)), (3, .ref (G.2.2 i3)), (4, .int v4)] [] x) (hk1 : KD G i1 6) (hk2 : KD G i2 7) (hk3 : KD G i3 11) (hf : fL_law_b1331 k23 i1 i2 i3 L xs v4 x = some 1) {k nn : Nat} (hkb : k + 2 * N ≤ 601024) (hnb : nn + 12 * N ≤ 7293034) : WB p l e room_1 s m #[Value.ref b] below meth c 9 G (fun q => s.heap.size ≤ q) (lw_Z below #[Value.ref b] s) k nn 1331 [(0, .ref b), (1, .ref (G.2.2 i1)), (2, .ref (G.2.2 i2)), (3, .ref (G.2.2 i3)), (4, .int v4)] [] x := by
  have hbA : ¬ ((fun q => s.heap.size ≤ q) b) := Nat.not_le.mpr hbl
  unfold fL_law_b1331 at hf
  refine b_goto (tgt := 1402) C dL_law_1331 (by decide) ?_
  exact wL_law_b1402 C T hl hX hbl h23 hk1 hk2 hk3 hf (by omega) (by omega)
set_option maxHeartbeats 40000000 in
set_option maxRecDepth 100000 in
theorem wL_law_b1385 {b N : Nat} {k23 : Int32 → xS → Option Int32} {i1 : Nat} {i2 : Nat} {i3 : Nat} {L : Nat} {xs : Nat → Int32} (C : CT p s m #[Value.ref b] meth c cL_law 9 RL (some .boolean) G (fun q => s.heap.size ≤ q)) (T : TW (fun q => s.heap.size ≤ q) s s.heap) (hl : l.stackTraces = false) (hX : va_X b L xs s s.heap) (hbl : b < s.heap.size) {v4 : Int32} {x : xS} (h23 : ∀ (v4 : Int32) (x : xS), k23 v4 x = some 1 → ∀ k nn : Nat, k + 2 * N ≤ 601024 → nn + 12 * N ≤ 7293034 → WB p l e room_1 s m #[Value.ref b] below meth c 9 G (fun q => s.heap.size ≤ q) (lw_Z below #[Value.ref b] s) k nn 23 [(0, .ref b), (1, .ref (G.2.2 i1)), (2, .ref (G.2.2 i2)), (3, .ref (G.2.2 i3)), (4, .int v4)] [] x) (hk1 : KD G i1 6) (hk2 : KD G i2 7) (hk3 : KD G i3 11) (hf : fL_law_b1385 k23 i1 i2 i3 L xs v4 x = some 1) {k nn : Nat} (hkb : k + 2 * N ≤ 601024) (hnb : nn + 12 * N ≤ 7293034) : WB p l e room_1 s m #[Value.ref b] below meth c 9 G (fun q => s.heap.size ≤ q) (lw_Z below #[Value.ref b] s) k nn 1385 [(0, .ref b), (1, .ref (G.2.2 i1)), (2, .ref (G.2.2 i2)), (3, .ref (G.2.2 i3)), (4, .int v4)] [] x := by
  have hbA : ¬ ((fun q => s.heap.size ≤ q) b) := Nat.not_le.mpr hbl
  unfold fL_law_b1385 at hf
  refine b_goto (tgt := 1402) C dL_law_1385 (by decide) ?_
  exact wL_law_b1402 C T hl hX hbl h23 hk1 hk2 hk3 hf (by omega) (by omega)
set_option maxHeartbeats 40000000 in
set_option maxRecDepth 100000 in
theorem wL_law_b1383 {b N : Nat} {i1 : Nat} {i2 : Nat} {i3 : Nat} {L : Nat} {xs : Nat → Int32} (C : CT p s m #[Value.ref b] meth c cL_law 9 RL (some .boolean) G (fun q => s.heap.size ≤ q)) (T : TW (fun q => s.heap.size ≤ q) s s.heap) (hl : l.stackTraces = false) (hX : va_X b L xs s s.heap) (hbl : b < s.heap.size) {x : xS} (hk1 : KD G i1 6) (hk2 : KD G i2 7) (hk3 : KD G i3 11) (hf : fL_law_b1383 i1 i2 i3 L xs x = some 1) {k nn : Nat} (hkb : k + 2 * N ≤ 601024) (hnb : nn + 12 * N ≤ 7293034) : WB p l e room_1 s m #[Value.ref b] below meth c 9 G (fun q => s.heap.size ≤ q) (lw_Z below #[Value.ref b] s) k nn 1383 [(0, .ref b), (1, .ref (G.2.2 i1)), (2, .ref (G.2.2 i2)), (3, .ref (G.2.2 i3))] [] x := by
  have hbA : ¬ ((fun q => s.heap.size ≤ q) b) := Nat.not_le.mpr hbl
  unfold fL_law_b1383 at hf
  refine b_iconst (v := 0) C dL_law_1383 (by decide) ?_
  exact absurd (Option.some.inj hf) (by decide)
set_option maxHeartbeats 40000000 in
set_option maxRecDepth 100000 in
theorem wL_law_b23 {b : Nat} {i1 : Nat} {i2 : Nat} {i3 : Nat} {L : Nat} {xs : Nat → Int32} (C : CT p s m #[Value.ref b] meth c cL_law 9 RL (some .boolean) G (fun q => s.heap.size ≤ q)) (T : TW (fun q => s.heap.size ≤ q) s s.heap) (hl : l.stackTraces = false) (hX : va_X b L xs s s.heap) (hbl : b < s.heap.size) (hk1 : KD G i1 6) (hk2 : KD G i2 7) (hk3 : KD G i3 11) : ∀ (n : Nat) (v4 : Int32) (x : xS), fL_law_b23 i1 i2 i3 L xs n v4 x = some 1 → ∀ k nn : Nat, k + 2 * n ≤ 601024 → nn + 12 * n ≤ 7293034 → WB p l e room_1 s m #[Value.ref b] below meth c 9 G (fun q => s.heap.size ≤ q) (lw_Z below #[Value.ref b] s) k nn 23 [(0, .ref b), (1, .ref (G.2.2 i1)), (2, .ref (G.2.2 i2)), (3, .ref (G.2.2 i3)), (4, .int v4)] [] x := by
  intro n
  induction n with
  | zero =>
    intro v4 x hf
    cases hf
  | succ n ih =>
    intro v4 x hf k nn hkb hnb
    have hbA : ¬ ((fun q => s.heap.size ≤ q) b) := Nat.not_le.mpr hbl
    rw [fL_law_b23] at hf
    refine b_iload C dL_law_23 4 rfl ?_
    refine b_aload_n C dL_law_25 rfl 0 rfl ?_
    refine b_slen C hX hbl hbA dL_law_26 ?_
    refine b_iconst (v := 4) C dL_law_27 (by decide) ?_
    refine b_isub C dL_law_28 ?_
    refine b_icmp_gt (tgt := 1408) C dL_law_29 (by decide) (fun c29 => ?_) (fun c29 => ?_)
    · have hf := iT c29 hf
      refine b_iconst (v := 1) C dL_law_1408 (by decide) ?_
      exact b_law1 C dL_law_1409 (by omega) (by omega)
    · have hf := iF c29 hf
      refine b_aload_n C dL_law_32 rfl 0 rfl ?_
      refine b_iload C dL_law_33 4 rfl ?_
      obtain ⟨g35, hf⟩ := iN hf
      refine b_sld C hX hbl hbA g35 dL_law_35 ?_
      refine b_bipush (v := 31) C dL_law_36 (by decide) ?_
      refine b_iand C dL_law_38 ?_
      by_cases c39_0 : ((xs v4.toNatClampNeg) &&& 31) = 0
      · have hf := iT c39_0 hf
        refine b_tabIn (kc := 0) (tgt := 148) C (by rw [c39_0]; rfl) dL_law_39 (by decide) (by decide) rfl (by decide) ?_
        refine b_aload_n C dL_law_148 rfl 1 rfl ?_
        refine b_aload_n C dL_law_149 rfl 0 rfl ?_
        refine b_iload C dL_law_150 4 rfl ?_
        refine b_iconst (v := 1) C dL_law_152 (by decide) ?_
        refine b_iadd C dL_law_153 ?_
        obtain ⟨g154, hf⟩ := iN hf
        refine b_sld C hX hbl hbA g154 dL_law_154 ?_
        refine b_aload_n C dL_law_155 rfl 0 rfl ?_
        refine b_iload C dL_law_156 4 rfl ?_
        refine b_iconst (v := 2) C dL_law_158 (by decide) ?_
        refine b_iadd C dL_law_159 ?_
        obtain ⟨g160, hf⟩ := iN hf
        refine b_sld C hX hbl hbA g160 dL_law_160 ?_
        refine b_aload_n C dL_law_161 rfl 0 rfl ?_
        refine b_iload C dL_law_162 4 rfl ?_
        refine b_iconst (v := 3) C dL_law_164 (by decide) ?_
        refine b_iadd C dL_law_165 ?_
        obtain ⟨g166, hf⟩ := iN hf
        refine b_sld C hX hbl hbA g166 dL_law_166 ?_
        refine b_aload_n C dL_law_167 rfl 3 rfl ?_
        obtain ⟨r168, c168, hf⟩ := oB hf
        refine b_callW (As := [.ref (G.2.2 i1), .int (xs (v4 + 1).toNatClampNeg), .int (xs (v4 + 2).toNatClampNeg), .int (xs (v4 + 3).toNatClampNeg), .ref (G.2.2 i3)]) (res := r168) (mc1 := 2) C T (metL_ask l G _ _ _ _ _ _ _ hk1 hk3 c168 hl) gkL_80 ekL_80 rfl ⟨rfl, rfl⟩ ⟨Nat.le_of_ble_eq_true rfl, Nat.le_of_ble_eq_true rfl⟩ (by simp [Value.category]) ⟨by show k + 2 ≤ 601024; omega, by show nn + 6 * 2 ≤ 7293034; omega⟩ rfl dL_law_168 ?_
        refine b_istore (lv' := [(5, .int r168.1), (0, .ref b), (1, .ref (G.2.2 i1)), (2, .ref (G.2.2 i2)), (3, .ref (G.2.2 i3)), (4, .int v4)]) C dL_law_171 (by decide) rfl ?_
        refine b_aload_n C dL_law_173 rfl 3 rfl ?_
        refine b_aload_n C dL_law_174 rfl 1 rfl ?_
        refine b_iload C dL_law_175 5 rfl ?_
        refine b_iconst (v := 1) C dL_law_177 (by decide) ?_
        refine b_iadd C dL_law_178 ?_
        obtain ⟨g179, hf⟩ := iN hf
        refine b_sld C hX hbl hbA g179 dL_law_179 ?_
        refine b_aload_n C dL_law_180 rfl 1 rfl ?_
        refine b_iload C dL_law_181 5 rfl ?_
        refine b_iconst (v := 2) C dL_law_183 (by decide) ?_
        refine b_iadd C dL_law_184 ?_
        obtain ⟨g185, hf⟩ := iN hf
        refine b_sld C hX hbl hbA g185 dL_law_185 ?_
        refine b_aload_n C dL_law_186 rfl 1 rfl ?_
        refine b_iload C dL_law_187 5 rfl ?_
        refine b_iconst (v := 3) C dL_law_189 (by decide) ?_
        refine b_iadd C dL_law_190 ?_
        obtain ⟨g191, hf⟩ := iN hf
        refine b_sld C hX hbl hbA g191 dL_law_191 ?_
        obtain ⟨r192, c192, hf⟩ := oB hf
        refine b_callVi (K := 7) (As := [.int (xs (v4 + 1).toNatClampNeg), .int (xs (v4 + 2).toNatClampNeg), .int (xs (v4 + 3).toNatClampNeg)]) (res := r192) C (metX7_ask l G _ _ _ _ _ _ hk2 c192) hk2 (by decide) rfl gkL_85 ekL_85 rfl ⟨rfl, rfl⟩ ⟨Nat.le_of_ble_eq_true rfl, Nat.le_of_ble_eq_true rfl⟩ (by simp [Value.category]) ⟨by show k + 2 ≤ 601024; omega, by show nn + 6 * 2 ≤ 7293034; omega⟩ rfl dL_law_192 ?_
        refine b_istore (lv' := [(6, .int r192.1), (5, .int r168.1), (0, .ref b), (1, .ref (G.2.2 i1)), (2, .ref (G.2.2 i2)), (3, .ref (G.2.2 i3)), (4, .int v4)]) C dL_law_195 (by decide) rfl ?_
        refine b_aload_n C dL_law_197 rfl 4 rfl ?_
        obtain ⟨r198, c198, hf⟩ := oB hf
        refine b_callVi (K := 7) (As := []) (res := (r198, r192.2)) C (metX7_thrown l G _ _ _ hk2 c198) hk2 (by decide) rfl gkL_86 ekL_86 rfl ⟨rfl, rfl⟩ ⟨Nat.le_of_ble_eq_true rfl, Nat.le_of_ble_eq_true rfl⟩ (by simp [Value.category]) ⟨by show k + 2 ≤ 601024; omega, by show nn + 6 * 2 ≤ 7293034; omega⟩ rfl dL_law_198 ?_
        refine b_iload C dL_law_201 1 rfl ?_
        refine b_icmp_eq (tgt := 208) C dL_law_203 (by decide) (fun c203 => ?_) (fun c203 => ?_)
        · have hf := iT c203 hf
          refine b_iload C dL_law_208 1 rfl ?_
          refine b_if_ne (tgt := 225) C dL_law_210 (by decide) (fun c210 => ?_) (fun c210 => ?_)
          · have hf := iF c210 hf
            refine b_pm [2, 3, 4, 5, 6] (lv' := [(0, .ref b), (1, .ref (G.2.2 i1)), (2, .ref (G.2.2 i2)), (3, .ref (G.2.2 i3)), (4, .int v4)]) rfl ?_
            exact wL_law_b225 C T hl hX hbl ih hk1 hk2 hk3 hf (by omega) (by omega)
          · have hf := iT c210 hf
            refine b_aload_n C dL_law_213 rfl 5 rfl ?_
            refine b_iconst (v := 0) C dL_law_214 (by decide) ?_
            obtain ⟨g215, hf⟩ := iN hf
            refine b_lald C hk3 g215 dL_law_215 ?_
            refine b_iload C dL_law_216 0 rfl ?_
            refine b_i2l C dL_law_218 ?_
            refine b_lcmp C dL_law_219 ?_
            refine b_if_eq (tgt := 225) C dL_law_220 (by decide) (fun c220 => ?_) (fun c220 => ?_)
            · have hf := iT c220 hf
              refine b_pm [2, 3, 4, 5, 6] (lv' := [(0, .ref b), (1, .ref (G.2.2 i1)), (2, .ref (G.2.2 i2)), (3, .ref (G.2.2 i3)), (4, .int v4)]) rfl ?_
              exact wL_law_b225 C T hl hX hbl ih hk1 hk2 hk3 hf (by omega) (by omega)
            · have hf := iF c220 hf
              refine b_iconst (v := 0) C dL_law_223 (by decide) ?_
              exact absurd (Option.some.inj hf) (by decide)
        · have hf := iF c203 hf
          refine b_iconst (v := 0) C dL_law_206 (by decide) ?_
          exact absurd (Option.some.inj hf) (by decide)
      have hf := iF c39_0 hf
      by_cases c39_1 : ((xs v4.toNatClampNeg) &&& 31) = 1
      · have hf := iT c39_1 hf
        refine b_tabIn (kc := 1) (tgt := 228) C (by rw [c39_1]; rfl) dL_law_39 (by decide) (by decide) rfl (by decide) ?_
        refine b_aload_n C dL_law_228 rfl 1 rfl ?_
        refine b_aload_n C dL_law_229 rfl 0 rfl ?_
        refine b_iload C dL_law_230 4 rfl ?_
        refine b_iconst (v := 1) C dL_law_232 (by decide) ?_
        refine b_iadd C dL_law_233 ?_
        obtain ⟨g234, hf⟩ := iN hf
        refine b_sld C hX hbl hbA g234 dL_law_234 ?_
        refine b_aload_n C dL_law_235 rfl 0 rfl ?_
        refine b_iload C dL_law_236 4 rfl ?_
        refine b_iconst (v := 2) C dL_law_238 (by decide) ?_
        refine b_iadd C dL_law_239 ?_
        obtain ⟨g240, hf⟩ := iN hf
        refine b_sld C hX hbl hbA g240 dL_law_240 ?_
        refine b_aload_n C dL_law_241 rfl 3 rfl ?_
        obtain ⟨r242, c242, hf⟩ := oB hf
        refine b_callW (As := [.ref (G.2.2 i1), .int (xs (v4 + 1).toNatClampNeg), .int (xs (v4 + 2).toNatClampNeg), .ref (G.2.2 i3)]) (res := r242) (mc1 := 2) C T (metL_giveBack l G _ _ _ _ _ _ hk1 hk3 c242 hl) gkL_89 ekL_89 rfl ⟨rfl, rfl⟩ ⟨Nat.le_of_ble_eq_true rfl, Nat.le_of_ble_eq_true rfl⟩ (by simp [Value.category]) ⟨by show k + 2 ≤ 601024; omega, by show nn + 6 * 2 ≤ 7293034; omega⟩ rfl dL_law_242 ?_
        refine b_istore (lv' := [(5, .int r242.1), (0, .ref b), (1, .ref (G.2.2 i1)), (2, .ref (G.2.2 i2)), (3, .ref (G.2.2 i3)), (4, .int v4)]) C dL_law_245 (by decide) rfl ?_
        refine b_aload_n C dL_law_247 rfl 3 rfl ?_
        refine b_aload_n C dL_law_248 rfl 1 rfl ?_
        refine b_iload C dL_law_249 5 rfl ?_
        refine b_iconst (v := 1) C dL_law_251 (by decide) ?_
        refine b_iadd C dL_law_252 ?_
        obtain ⟨g253, hf⟩ := iN hf
        refine b_sld C hX hbl hbA g253 dL_law_253 ?_
        refine b_aload_n C dL_law_254 rfl 1 rfl ?_
        refine b_iload C dL_law_255 5 rfl ?_
        refine b_iconst (v := 2) C dL_law_257 (by decide) ?_
        refine b_iadd C dL_law_258 ?_
        obtain ⟨g259, hf⟩ := iN hf
        refine b_sld C hX hbl hbA g259 dL_law_259 ?_
        obtain ⟨r260, c260, hf⟩ := oB hf
        refine b_callVi (K := 7) (As := [.int (xs (v4 + 1).toNatClampNeg), .int (xs (v4 + 2).toNatClampNeg)]) (res := r260) C (metX7_giveBack l G _ _ _ _ _ hk2 c260) hk2 (by decide) rfl gkL_92 ekL_92 rfl ⟨rfl, rfl⟩ ⟨Nat.le_of_ble_eq_true rfl, Nat.le_of_ble_eq_true rfl⟩ (by simp [Value.category]) ⟨by show k + 2 ≤ 601024; omega, by show nn + 6 * 2 ≤ 7293034; omega⟩ rfl dL_law_260 ?_
        refine b_istore (lv' := [(6, .int r260.1), (5, .int r242.1), (0, .ref b), (1, .ref (G.2.2 i1)), (2, .ref (G.2.2 i2)), (3, .ref (G.2.2 i3)), (4, .int v4)]) C dL_law_263 (by decide) rfl ?_
        refine b_aload_n C dL_law_265 rfl 4 rfl ?_
        obtain ⟨r266, c266, hf⟩ := oB hf
        refine b_callVi (K := 7) (As := []) (res := (r266, r260.2)) C (metX7_thrown l G _ _ _ hk2 c266) hk2 (by decide) rfl gkL_86 ekL_86 rfl ⟨rfl, rfl⟩ ⟨Nat.le_of_ble_eq_true rfl, Nat.le_of_ble_eq_true rfl⟩ (by simp [Value.category]) ⟨by show k + 2 ≤ 601024; omega, by show nn + 6 * 2 ≤ 7293034; omega⟩ rfl dL_law_266 ?_
        refine b_iload C dL_law_269 1 rfl ?_
        refine b_icmp_eq (tgt := 276) C dL_law_271 (by decide) (fun c271 => ?_) (fun c271 => ?_)
        · have hf := iT c271 hf
          refine b_iload C dL_law_276 1 rfl ?_
          refine b_if_ne (tgt := 293) C dL_law_278 (by decide) (fun c278 => ?_) (fun c278 => ?_)
          · have hf := iF c278 hf
            refine b_pm [2, 3, 4, 5, 6] (lv' := [(0, .ref b), (1, .ref (G.2.2 i1)), (2, .ref (G.2.2 i2)), (3, .ref (G.2.2 i3)), (4, .int v4)]) rfl ?_
            exact wL_law_b293 C T hl hX hbl ih hk1 hk2 hk3 hf (by omega) (by omega)
          · have hf := iT c278 hf
            refine b_aload_n C dL_law_281 rfl 5 rfl ?_
            refine b_iconst (v := 0) C dL_law_282 (by decide) ?_
            obtain ⟨g283, hf⟩ := iN hf
            refine b_lald C hk3 g283 dL_law_283 ?_
            refine b_iload C dL_law_284 0 rfl ?_
            refine b_i2l C dL_law_286 ?_
            refine b_lcmp C dL_law_287 ?_
            refine b_if_eq (tgt := 293) C dL_law_288 (by decide) (fun c288 => ?_) (fun c288 => ?_)
            · have hf := iT c288 hf
              refine b_pm [2, 3, 4, 5, 6] (lv' := [(0, .ref b), (1, .ref (G.2.2 i1)), (2, .ref (G.2.2 i2)), (3, .ref (G.2.2 i3)), (4, .int v4)]) rfl ?_
              exact wL_law_b293 C T hl hX hbl ih hk1 hk2 hk3 hf (by omega) (by omega)
            · have hf := iF c288 hf
              refine b_iconst (v := 0) C dL_law_291 (by decide) ?_
              exact absurd (Option.some.inj hf) (by decide)
        · have hf := iF c271 hf
          refine b_iconst (v := 0) C dL_law_274 (by decide) ?_
          exact absurd (Option.some.inj hf) (by decide)
      have hf := iF c39_1 hf
      by_cases c39_2 : ((xs v4.toNatClampNeg) &&& 31) = 2
      · have hf := iT c39_2 hf
        refine b_tabIn (kc := 2) (tgt := 296) C (by rw [c39_2]; rfl) dL_law_39 (by decide) (by decide) rfl (by decide) ?_
        refine b_aload_n C dL_law_296 rfl 1 rfl ?_
        refine b_aload_n C dL_law_297 rfl 0 rfl ?_
        refine b_iload C dL_law_298 4 rfl ?_
        refine b_iconst (v := 1) C dL_law_300 (by decide) ?_
        refine b_iadd C dL_law_301 ?_
        obtain ⟨g302, hf⟩ := iN hf
        refine b_sld C hX hbl hbA g302 dL_law_302 ?_
        refine b_aload_n C dL_law_303 rfl 3 rfl ?_
        obtain ⟨r304, c304, hf⟩ := oB hf
        refine b_callW (As := [.ref (G.2.2 i1), .int (xs (v4 + 1).toNatClampNeg), .ref (G.2.2 i3)]) (res := r304) (mc1 := 1) C T (metL_favour l G _ _ _ _ _ hk1 hk3 c304 hl) gkL_93 ekL_93 rfl ⟨rfl, rfl⟩ ⟨Nat.le_of_ble_eq_true rfl, Nat.le_of_ble_eq_true rfl⟩ (by simp [Value.category]) ⟨by show k + 1 ≤ 601024; omega, by show nn + 6 * 1 ≤ 7293034; omega⟩ rfl dL_law_304 ?_
        refine b_istore (lv' := [(5, .int r304.1), (0, .ref b), (1, .ref (G.2.2 i1)), (2, .ref (G.2.2 i2)), (3, .ref (G.2.2 i3)), (4, .int v4)]) C dL_law_307 (by decide) rfl ?_
        refine b_aload_n C dL_law_309 rfl 3 rfl ?_
        refine b_aload_n C dL_law_310 rfl 1 rfl ?_
        refine b_iload C dL_law_311 5 rfl ?_
        refine b_iconst (v := 1) C dL_law_313 (by decide) ?_
        refine b_iadd C dL_law_314 ?_
        obtain ⟨g315, hf⟩ := iN hf
        refine b_sld C hX hbl hbA g315 dL_law_315 ?_
        obtain ⟨r316, c316, hf⟩ := oB hf
        refine b_callVi (K := 7) (As := [.int (xs (v4 + 1).toNatClampNeg)]) (res := r316) C (metX7_favour l G _ _ _ _ hk2 c316) hk2 (by decide) rfl gkL_96 ekL_96 rfl ⟨rfl, rfl⟩ ⟨Nat.le_of_ble_eq_true rfl, Nat.le_of_ble_eq_true rfl⟩ (by simp [Value.category]) ⟨by show k + 1 ≤ 601024; omega, by show nn + 6 * 1 ≤ 7293034; omega⟩ rfl dL_law_316 ?_
        refine b_istore (lv' := [(6, .int r316.1), (5, .int r304.1), (0, .ref b), (1, .ref (G.2.2 i1)), (2, .ref (G.2.2 i2)), (3, .ref (G.2.2 i3)), (4, .int v4)]) C dL_law_319 (by decide) rfl ?_
        refine b_aload_n C dL_law_321 rfl 4 rfl ?_
        obtain ⟨r322, c322, hf⟩ := oB hf
        refine b_callVi (K := 7) (As := []) (res := (r322, r316.2)) C (metX7_thrown l G _ _ _ hk2 c322) hk2 (by decide) rfl gkL_86 ekL_86 rfl ⟨rfl, rfl⟩ ⟨Nat.le_of_ble_eq_true rfl, Nat.le_of_ble_eq_true rfl⟩ (by simp [Value.category]) ⟨by show k + 1 ≤ 601024; omega, by show nn + 6 * 1 ≤ 7293034; omega⟩ rfl dL_law_322 ?_
        refine b_iload C dL_law_325 1 rfl ?_
        refine b_icmp_eq (tgt := 332) C dL_law_327 (by decide) (fun c327 => ?_) (fun c327 => ?_)
        · have hf := iT c327 hf
          refine b_iload C dL_law_332 1 rfl ?_
          refine b_if_ne (tgt := 349) C dL_law_334 (by decide) (fun c334 => ?_) (fun c334 => ?_)
          · have hf := iF c334 hf
            refine b_pm [2, 3, 4, 5, 6] (lv' := [(0, .ref b), (1, .ref (G.2.2 i1)), (2, .ref (G.2.2 i2)), (3, .ref (G.2.2 i3)), (4, .int v4)]) rfl ?_
            exact wL_law_b349 C T hl hX hbl ih hk1 hk2 hk3 hf (by omega) (by omega)
          · have hf := iT c334 hf
            refine b_aload_n C dL_law_337 rfl 5 rfl ?_
            refine b_iconst (v := 0) C dL_law_338 (by decide) ?_
            obtain ⟨g339, hf⟩ := iN hf
            refine b_lald C hk3 g339 dL_law_339 ?_
            refine b_iload C dL_law_340 0 rfl ?_
            refine b_i2l C dL_law_342 ?_
            refine b_lcmp C dL_law_343 ?_
            refine b_if_eq (tgt := 349) C dL_law_344 (by decide) (fun c344 => ?_) (fun c344 => ?_)
            · have hf := iT c344 hf
              refine b_pm [2, 3, 4, 5, 6] (lv' := [(0, .ref b), (1, .ref (G.2.2 i1)), (2, .ref (G.2.2 i2)), (3, .ref (G.2.2 i3)), (4, .int v4)]) rfl ?_
              exact wL_law_b349 C T hl hX hbl ih hk1 hk2 hk3 hf (by omega) (by omega)
            · have hf := iF c344 hf
              refine b_iconst (v := 0) C dL_law_347 (by decide) ?_
              exact absurd (Option.some.inj hf) (by decide)
        · have hf := iF c327 hf
          refine b_iconst (v := 0) C dL_law_330 (by decide) ?_
          exact absurd (Option.some.inj hf) (by decide)
      have hf := iF c39_2 hf
      by_cases c39_3 : ((xs v4.toNatClampNeg) &&& 31) = 3
      · have hf := iT c39_3 hf
        refine b_tabIn (kc := 3) (tgt := 352) C (by rw [c39_3]; rfl) dL_law_39 (by decide) (by decide) rfl (by decide) ?_
        refine b_aload_n C dL_law_352 rfl 1 rfl ?_
        refine b_aload_n C dL_law_353 rfl 0 rfl ?_
        refine b_iload C dL_law_354 4 rfl ?_
        refine b_iconst (v := 1) C dL_law_356 (by decide) ?_
        refine b_iadd C dL_law_357 ?_
        obtain ⟨g358, hf⟩ := iN hf
        refine b_sld C hX hbl hbA g358 dL_law_358 ?_
        refine b_aload_n C dL_law_359 rfl 0 rfl ?_
        refine b_iload C dL_law_360 4 rfl ?_
        refine b_iconst (v := 2) C dL_law_362 (by decide) ?_
        refine b_iadd C dL_law_363 ?_
        obtain ⟨g364, hf⟩ := iN hf
        refine b_sld C hX hbl hbA g364 dL_law_364 ?_
        refine b_aload_n C dL_law_365 rfl 3 rfl ?_
        obtain ⟨r366, c366, hf⟩ := oB hf
        refine b_callW (As := [.ref (G.2.2 i1), .int (xs (v4 + 1).toNatClampNeg), .int (xs (v4 + 2).toNatClampNeg), .ref (G.2.2 i3)]) (res := r366) (mc1 := 2) C T (metL_need l G _ _ _ _ _ _ hk1 hk3 c366 hl) gkL_97 ekL_97 rfl ⟨rfl, rfl⟩ ⟨Nat.le_of_ble_eq_true rfl, Nat.le_of_ble_eq_true rfl⟩ (by simp [Value.category]) ⟨by show k + 2 ≤ 601024; omega, by show nn + 6 * 2 ≤ 7293034; omega⟩ rfl dL_law_366 ?_
        refine b_istore (lv' := [(5, .int r366.1), (0, .ref b), (1, .ref (G.2.2 i1)), (2, .ref (G.2.2 i2)), (3, .ref (G.2.2 i3)), (4, .int v4)]) C dL_law_369 (by decide) rfl ?_
        refine b_aload_n C dL_law_371 rfl 3 rfl ?_
        refine b_aload_n C dL_law_372 rfl 1 rfl ?_
        refine b_iload C dL_law_373 5 rfl ?_
        refine b_iconst (v := 1) C dL_law_375 (by decide) ?_
        refine b_iadd C dL_law_376 ?_
        obtain ⟨g377, hf⟩ := iN hf
        refine b_sld C hX hbl hbA g377 dL_law_377 ?_
        refine b_aload_n C dL_law_378 rfl 1 rfl ?_
        refine b_iload C dL_law_379 5 rfl ?_
        refine b_iconst (v := 2) C dL_law_381 (by decide) ?_
        refine b_iadd C dL_law_382 ?_
        obtain ⟨g383, hf⟩ := iN hf
        refine b_sld C hX hbl hbA g383 dL_law_383 ?_
        obtain ⟨r384, c384, hf⟩ := oB hf
        refine b_callVi (K := 7) (As := [.int (xs (v4 + 1).toNatClampNeg), .int (xs (v4 + 2).toNatClampNeg)]) (res := r384) C (metX7_need l G _ _ _ _ _ hk2 c384) hk2 (by decide) rfl gkL_99 ekL_99 rfl ⟨rfl, rfl⟩ ⟨Nat.le_of_ble_eq_true rfl, Nat.le_of_ble_eq_true rfl⟩ (by simp [Value.category]) ⟨by show k + 2 ≤ 601024; omega, by show nn + 6 * 2 ≤ 7293034; omega⟩ rfl dL_law_384 ?_
        refine b_istore (lv' := [(6, .int r384.1), (5, .int r366.1), (0, .ref b), (1, .ref (G.2.2 i1)), (2, .ref (G.2.2 i2)), (3, .ref (G.2.2 i3)), (4, .int v4)]) C dL_law_387 (by decide) rfl ?_
        refine b_aload_n C dL_law_389 rfl 4 rfl ?_
        obtain ⟨r390, c390, hf⟩ := oB hf
        refine b_callVi (K := 7) (As := []) (res := (r390, r384.2)) C (metX7_thrown l G _ _ _ hk2 c390) hk2 (by decide) rfl gkL_86 ekL_86 rfl ⟨rfl, rfl⟩ ⟨Nat.le_of_ble_eq_true rfl, Nat.le_of_ble_eq_true rfl⟩ (by simp [Value.category]) ⟨by show k + 2 ≤ 601024; omega, by show nn + 6 * 2 ≤ 7293034; omega⟩ rfl dL_law_390 ?_
        refine b_iload C dL_law_393 1 rfl ?_
        refine b_icmp_eq (tgt := 400) C dL_law_395 (by decide) (fun c395 => ?_) (fun c395 => ?_)
        · have hf := iT c395 hf
          refine b_iload C dL_law_400 1 rfl ?_
          refine b_if_ne (tgt := 417) C dL_law_402 (by decide) (fun c402 => ?_) (fun c402 => ?_)
          · have hf := iF c402 hf
            refine b_pm [2, 3, 4, 5, 6] (lv' := [(0, .ref b), (1, .ref (G.2.2 i1)), (2, .ref (G.2.2 i2)), (3, .ref (G.2.2 i3)), (4, .int v4)]) rfl ?_
            exact wL_law_b417 C T hl hX hbl ih hk1 hk2 hk3 hf (by omega) (by omega)
          · have hf := iT c402 hf
            refine b_aload_n C dL_law_405 rfl 5 rfl ?_
            refine b_iconst (v := 0) C dL_law_406 (by decide) ?_
            obtain ⟨g407, hf⟩ := iN hf
            refine b_lald C hk3 g407 dL_law_407 ?_
            refine b_iload C dL_law_408 0 rfl ?_
            refine b_i2l C dL_law_410 ?_
            refine b_lcmp C dL_law_411 ?_
            refine b_if_eq (tgt := 417) C dL_law_412 (by decide) (fun c412 => ?_) (fun c412 => ?_)
            · have hf := iT c412 hf
              refine b_pm [2, 3, 4, 5, 6] (lv' := [(0, .ref b), (1, .ref (G.2.2 i1)), (2, .ref (G.2.2 i2)), (3, .ref (G.2.2 i3)), (4, .int v4)]) rfl ?_
              exact wL_law_b417 C T hl hX hbl ih hk1 hk2 hk3 hf (by omega) (by omega)
            · have hf := iF c412 hf
              refine b_iconst (v := 0) C dL_law_415 (by decide) ?_
              exact absurd (Option.some.inj hf) (by decide)
        · have hf := iF c395 hf
          refine b_iconst (v := 0) C dL_law_398 (by decide) ?_
          exact absurd (Option.some.inj hf) (by decide)
      have hf := iF c39_3 hf
      by_cases c39_4 : ((xs v4.toNatClampNeg) &&& 31) = 4
      · have hf := iT c39_4 hf
        refine b_tabIn (kc := 4) (tgt := 420) C (by rw [c39_4]; rfl) dL_law_39 (by decide) (by decide) rfl (by decide) ?_
        refine b_aload_n C dL_law_420 rfl 1 rfl ?_
        refine b_aload_n C dL_law_421 rfl 3 rfl ?_
        obtain ⟨r422, c422, hf⟩ := oB hf
        refine b_callW (As := [.ref (G.2.2 i1), .ref (G.2.2 i3)]) (res := r422) (mc1 := 1) C T (metL_pass l G _ _ _ _ hk1 hk3 c422 hl) gkL_100 ekL_100 rfl ⟨rfl, rfl⟩ ⟨Nat.le_of_ble_eq_true rfl, Nat.le_of_ble_eq_true rfl⟩ (by simp [Value.category]) ⟨by show k + 1 ≤ 601024; omega, by show nn + 6 * 1 ≤ 7293034; omega⟩ rfl dL_law_422 ?_
        refine b_istore (lv' := [(5, .int r422.1), (0, .ref b), (1, .ref (G.2.2 i1)), (2, .ref (G.2.2 i2)), (3, .ref (G.2.2 i3)), (4, .int v4)]) C dL_law_425 (by decide) rfl ?_
        refine b_aload_n C dL_law_427 rfl 3 rfl ?_
        obtain ⟨r428, c428, hf⟩ := oB hf
        refine b_callVi (K := 7) (As := []) (res := r428) C (metX7_pass l G _ _ _ hk2 c428) hk2 (by decide) rfl gkL_103 ekL_103 rfl ⟨rfl, rfl⟩ ⟨Nat.le_of_ble_eq_true rfl, Nat.le_of_ble_eq_true rfl⟩ (by simp [Value.category]) ⟨by show k + 1 ≤ 601024; omega, by show nn + 6 * 1 ≤ 7293034; omega⟩ rfl dL_law_428 ?_
        refine b_istore (lv' := [(6, .int r428.1), (5, .int r422.1), (0, .ref b), (1, .ref (G.2.2 i1)), (2, .ref (G.2.2 i2)), (3, .ref (G.2.2 i3)), (4, .int v4)]) C dL_law_431 (by decide) rfl ?_
        refine b_aload_n C dL_law_433 rfl 4 rfl ?_
        obtain ⟨r434, c434, hf⟩ := oB hf
        refine b_callVi (K := 7) (As := []) (res := (r434, r428.2)) C (metX7_thrown l G _ _ _ hk2 c434) hk2 (by decide) rfl gkL_86 ekL_86 rfl ⟨rfl, rfl⟩ ⟨Nat.le_of_ble_eq_true rfl, Nat.le_of_ble_eq_true rfl⟩ (by simp [Value.category]) ⟨by show k + 1 ≤ 601024; omega, by show nn + 6 * 1 ≤ 7293034; omega⟩ rfl dL_law_434 ?_
        refine b_iload C dL_law_437 1 rfl ?_
        refine b_icmp_eq (tgt := 444) C dL_law_439 (by decide) (fun c439 => ?_) (fun c439 => ?_)
        · have hf := iT c439 hf
          refine b_iload C dL_law_444 1 rfl ?_
          refine b_if_ne (tgt := 461) C dL_law_446 (by decide) (fun c446 => ?_) (fun c446 => ?_)
          · have hf := iF c446 hf
            refine b_pm [2, 3, 4, 5, 6] (lv' := [(0, .ref b), (1, .ref (G.2.2 i1)), (2, .ref (G.2.2 i2)), (3, .ref (G.2.2 i3)), (4, .int v4)]) rfl ?_
            exact wL_law_b461 C T hl hX hbl ih hk1 hk2 hk3 hf (by omega) (by omega)
          · have hf := iT c446 hf
            refine b_aload_n C dL_law_449 rfl 5 rfl ?_
            refine b_iconst (v := 0) C dL_law_450 (by decide) ?_
            obtain ⟨g451, hf⟩ := iN hf
            refine b_lald C hk3 g451 dL_law_451 ?_
            refine b_iload C dL_law_452 0 rfl ?_
            refine b_i2l C dL_law_454 ?_
            refine b_lcmp C dL_law_455 ?_
            refine b_if_eq (tgt := 461) C dL_law_456 (by decide) (fun c456 => ?_) (fun c456 => ?_)
            · have hf := iT c456 hf
              refine b_pm [2, 3, 4, 5, 6] (lv' := [(0, .ref b), (1, .ref (G.2.2 i1)), (2, .ref (G.2.2 i2)), (3, .ref (G.2.2 i3)), (4, .int v4)]) rfl ?_
              exact wL_law_b461 C T hl hX hbl ih hk1 hk2 hk3 hf (by omega) (by omega)
            · have hf := iF c456 hf
              refine b_iconst (v := 0) C dL_law_459 (by decide) ?_
              exact absurd (Option.some.inj hf) (by decide)
        · have hf := iF c439 hf
          refine b_iconst (v := 0) C dL_law_442 (by decide) ?_
          exact absurd (Option.some.inj hf) (by decide)
      have hf := iF c39_4 hf
      by_cases c39_5 : ((xs v4.toNatClampNeg) &&& 31) = 5
      · have hf := iT c39_5 hf
        refine b_tabIn (kc := 5) (tgt := 464) C (by rw [c39_5]; rfl) dL_law_39 (by decide) (by decide) rfl (by decide) ?_
        refine b_aload_n C dL_law_464 rfl 1 rfl ?_
        refine b_aload_n C dL_law_465 rfl 0 rfl ?_
        refine b_iload C dL_law_466 4 rfl ?_
        refine b_iconst (v := 1) C dL_law_468 (by decide) ?_
        refine b_iadd C dL_law_469 ?_
        obtain ⟨g470, hf⟩ := iN hf
        refine b_sld C hX hbl hbA g470 dL_law_470 ?_
        refine b_aload_n C dL_law_471 rfl 3 rfl ?_
        obtain ⟨r472, c472, hf⟩ := oB hf
        refine b_callW (As := [.ref (G.2.2 i1), .int (xs (v4 + 1).toNatClampNeg), .ref (G.2.2 i3)]) (res := r472) (mc1 := 1) C T (metL_set l G _ _ _ _ _ hk1 hk3 c472 hl) gkL_104 ekL_104 rfl ⟨rfl, rfl⟩ ⟨Nat.le_of_ble_eq_true rfl, Nat.le_of_ble_eq_true rfl⟩ (by simp [Value.category]) ⟨by show k + 1 ≤ 601024; omega, by show nn + 6 * 1 ≤ 7293034; omega⟩ rfl dL_law_472 ?_
        refine b_istore (lv' := [(5, .int r472.1), (0, .ref b), (1, .ref (G.2.2 i1)), (2, .ref (G.2.2 i2)), (3, .ref (G.2.2 i3)), (4, .int v4)]) C dL_law_475 (by decide) rfl ?_
        refine b_aload_n C dL_law_477 rfl 3 rfl ?_
        refine b_aload_n C dL_law_478 rfl 1 rfl ?_
        refine b_iload C dL_law_479 5 rfl ?_
        refine b_iconst (v := 1) C dL_law_481 (by decide) ?_
        refine b_iadd C dL_law_482 ?_
        obtain ⟨g483, hf⟩ := iN hf
        refine b_sld C hX hbl hbA g483 dL_law_483 ?_
        obtain ⟨r484, c484, hf⟩ := oB hf
        refine b_callVi (K := 7) (As := [.int (xs (v4 + 1).toNatClampNeg)]) (res := r484) C (metX7_set l G _ _ _ _ hk2 c484) hk2 (by decide) rfl gkL_106 ekL_106 rfl ⟨rfl, rfl⟩ ⟨Nat.le_of_ble_eq_true rfl, Nat.le_of_ble_eq_true rfl⟩ (by simp [Value.category]) ⟨by show k + 1 ≤ 601024; omega, by show nn + 6 * 1 ≤ 7293034; omega⟩ rfl dL_law_484 ?_
        refine b_istore (lv' := [(6, .int r484.1), (5, .int r472.1), (0, .ref b), (1, .ref (G.2.2 i1)), (2, .ref (G.2.2 i2)), (3, .ref (G.2.2 i3)), (4, .int v4)]) C dL_law_487 (by decide) rfl ?_
        refine b_aload_n C dL_law_489 rfl 4 rfl ?_
        obtain ⟨r490, c490, hf⟩ := oB hf
        refine b_callVi (K := 7) (As := []) (res := (r490, r484.2)) C (metX7_thrown l G _ _ _ hk2 c490) hk2 (by decide) rfl gkL_86 ekL_86 rfl ⟨rfl, rfl⟩ ⟨Nat.le_of_ble_eq_true rfl, Nat.le_of_ble_eq_true rfl⟩ (by simp [Value.category]) ⟨by show k + 1 ≤ 601024; omega, by show nn + 6 * 1 ≤ 7293034; omega⟩ rfl dL_law_490 ?_
        refine b_iload C dL_law_493 1 rfl ?_
        refine b_icmp_eq (tgt := 500) C dL_law_495 (by decide) (fun c495 => ?_) (fun c495 => ?_)
        · have hf := iT c495 hf
          refine b_iload C dL_law_500 1 rfl ?_
          refine b_if_ne (tgt := 517) C dL_law_502 (by decide) (fun c502 => ?_) (fun c502 => ?_)
          · have hf := iF c502 hf
            refine b_pm [2, 3, 4, 5, 6] (lv' := [(0, .ref b), (1, .ref (G.2.2 i1)), (2, .ref (G.2.2 i2)), (3, .ref (G.2.2 i3)), (4, .int v4)]) rfl ?_
            exact wL_law_b517 C T hl hX hbl ih hk1 hk2 hk3 hf (by omega) (by omega)
          · have hf := iT c502 hf
            refine b_aload_n C dL_law_505 rfl 5 rfl ?_
            refine b_iconst (v := 0) C dL_law_506 (by decide) ?_
            obtain ⟨g507, hf⟩ := iN hf
            refine b_lald C hk3 g507 dL_law_507 ?_
            refine b_iload C dL_law_508 0 rfl ?_
            refine b_i2l C dL_law_510 ?_
            refine b_lcmp C dL_law_511 ?_
            refine b_if_eq (tgt := 517) C dL_law_512 (by decide) (fun c512 => ?_) (fun c512 => ?_)
            · have hf := iT c512 hf
              refine b_pm [2, 3, 4, 5, 6] (lv' := [(0, .ref b), (1, .ref (G.2.2 i1)), (2, .ref (G.2.2 i2)), (3, .ref (G.2.2 i3)), (4, .int v4)]) rfl ?_
              exact wL_law_b517 C T hl hX hbl ih hk1 hk2 hk3 hf (by omega) (by omega)
            · have hf := iF c512 hf
              refine b_iconst (v := 0) C dL_law_515 (by decide) ?_
              exact absurd (Option.some.inj hf) (by decide)
        · have hf := iF c495 hf
          refine b_iconst (v := 0) C dL_law_498 (by decide) ?_
          exact absurd (Option.some.inj hf) (by decide)
      have hf := iF c39_5 hf
      by_cases c39_6 : ((xs v4.toNatClampNeg) &&& 31) = 6
      · have hf := iT c39_6 hf
        refine b_tabIn (kc := 6) (tgt := 520) C (by rw [c39_6]; rfl) dL_law_39 (by decide) (by decide) rfl (by decide) ?_
        refine b_aload_n C dL_law_520 rfl 1 rfl ?_
        refine b_aload_n C dL_law_521 rfl 0 rfl ?_
        refine b_iload C dL_law_522 4 rfl ?_
        refine b_iconst (v := 1) C dL_law_524 (by decide) ?_
        refine b_iadd C dL_law_525 ?_
        obtain ⟨g526, hf⟩ := iN hf
        refine b_sld C hX hbl hbA g526 dL_law_526 ?_
        refine b_aload_n C dL_law_527 rfl 3 rfl ?_
        obtain ⟨r528, c528, hf⟩ := oB hf
        refine b_callW (As := [.ref (G.2.2 i1), .int (xs (v4 + 1).toNatClampNeg), .ref (G.2.2 i3)]) (res := r528) (mc1 := 1) C T (metL_append l G _ _ _ _ _ hk1 hk3 c528 hl) gkL_107 ekL_107 rfl ⟨rfl, rfl⟩ ⟨Nat.le_of_ble_eq_true rfl, Nat.le_of_ble_eq_true rfl⟩ (by simp [Value.category]) ⟨by show k + 1 ≤ 601024; omega, by show nn + 6 * 1 ≤ 7293034; omega⟩ rfl dL_law_528 ?_
        refine b_istore (lv' := [(5, .int r528.1), (0, .ref b), (1, .ref (G.2.2 i1)), (2, .ref (G.2.2 i2)), (3, .ref (G.2.2 i3)), (4, .int v4)]) C dL_law_531 (by decide) rfl ?_
        refine b_aload_n C dL_law_533 rfl 3 rfl ?_
        refine b_aload_n C dL_law_534 rfl 1 rfl ?_
        refine b_iload C dL_law_535 5 rfl ?_
        refine b_iconst (v := 1) C dL_law_537 (by decide) ?_
        refine b_iadd C dL_law_538 ?_
        obtain ⟨g539, hf⟩ := iN hf
        refine b_sld C hX hbl hbA g539 dL_law_539 ?_
        obtain ⟨r540, c540, hf⟩ := oB hf
        refine b_callVi (K := 7) (As := [.int (xs (v4 + 1).toNatClampNeg)]) (res := r540) C (metX7_append l G _ _ _ _ hk2 c540) hk2 (by decide) rfl gkL_109 ekL_109 rfl ⟨rfl, rfl⟩ ⟨Nat.le_of_ble_eq_true rfl, Nat.le_of_ble_eq_true rfl⟩ (by simp [Value.category]) ⟨by show k + 1 ≤ 601024; omega, by show nn + 6 * 1 ≤ 7293034; omega⟩ rfl dL_law_540 ?_
        refine b_istore (lv' := [(6, .int r540.1), (5, .int r528.1), (0, .ref b), (1, .ref (G.2.2 i1)), (2, .ref (G.2.2 i2)), (3, .ref (G.2.2 i3)), (4, .int v4)]) C dL_law_543 (by decide) rfl ?_
        refine b_aload_n C dL_law_545 rfl 4 rfl ?_
        obtain ⟨r546, c546, hf⟩ := oB hf
        refine b_callVi (K := 7) (As := []) (res := (r546, r540.2)) C (metX7_thrown l G _ _ _ hk2 c546) hk2 (by decide) rfl gkL_86 ekL_86 rfl ⟨rfl, rfl⟩ ⟨Nat.le_of_ble_eq_true rfl, Nat.le_of_ble_eq_true rfl⟩ (by simp [Value.category]) ⟨by show k + 1 ≤ 601024; omega, by show nn + 6 * 1 ≤ 7293034; omega⟩ rfl dL_law_546 ?_
        refine b_iload C dL_law_549 1 rfl ?_
        refine b_icmp_eq (tgt := 556) C dL_law_551 (by decide) (fun c551 => ?_) (fun c551 => ?_)
        · have hf := iT c551 hf
          refine b_iload C dL_law_556 1 rfl ?_
          refine b_if_ne (tgt := 573) C dL_law_558 (by decide) (fun c558 => ?_) (fun c558 => ?_)
          · have hf := iF c558 hf
            refine b_pm [2, 3, 4, 5, 6] (lv' := [(0, .ref b), (1, .ref (G.2.2 i1)), (2, .ref (G.2.2 i2)), (3, .ref (G.2.2 i3)), (4, .int v4)]) rfl ?_
            exact wL_law_b573 C T hl hX hbl ih hk1 hk2 hk3 hf (by omega) (by omega)
          · have hf := iT c558 hf
            refine b_aload_n C dL_law_561 rfl 5 rfl ?_
            refine b_iconst (v := 0) C dL_law_562 (by decide) ?_
            obtain ⟨g563, hf⟩ := iN hf
            refine b_lald C hk3 g563 dL_law_563 ?_
            refine b_iload C dL_law_564 0 rfl ?_
            refine b_i2l C dL_law_566 ?_
            refine b_lcmp C dL_law_567 ?_
            refine b_if_eq (tgt := 573) C dL_law_568 (by decide) (fun c568 => ?_) (fun c568 => ?_)
            · have hf := iT c568 hf
              refine b_pm [2, 3, 4, 5, 6] (lv' := [(0, .ref b), (1, .ref (G.2.2 i1)), (2, .ref (G.2.2 i2)), (3, .ref (G.2.2 i3)), (4, .int v4)]) rfl ?_
              exact wL_law_b573 C T hl hX hbl ih hk1 hk2 hk3 hf (by omega) (by omega)
            · have hf := iF c568 hf
              refine b_iconst (v := 0) C dL_law_571 (by decide) ?_
              exact absurd (Option.some.inj hf) (by decide)
        · have hf := iF c551 hf
          refine b_iconst (v := 0) C dL_law_554 (by decide) ?_
          exact absurd (Option.some.inj hf) (by decide)
      have hf := iF c39_6 hf
      by_cases c39_7 : ((xs v4.toNatClampNeg) &&& 31) = 7
      · have hf := iT c39_7 hf
        refine b_tabIn (kc := 7) (tgt := 576) C (by rw [c39_7]; rfl) dL_law_39 (by decide) (by decide) rfl (by decide) ?_
        refine b_aload_n C dL_law_576 rfl 1 rfl ?_
        obtain ⟨r577, c577, hf⟩ := oB hf
        refine b_callVi (K := 6) (As := []) (res := r577) C (metX6_clearBuffer l G _ _ _ hk1 c577) hk1 (by decide) rfl gkL_110 ekL_110 rfl ⟨rfl, rfl⟩ ⟨Nat.le_of_ble_eq_true rfl, Nat.le_of_ble_eq_true rfl⟩ (by simp [Value.category]) ⟨by show k ≤ 601024; omega, by show nn ≤ 7293034; omega⟩ rfl dL_law_577 ?_
        refine b_aload_n C dL_law_580 rfl 2 rfl ?_
        obtain ⟨r581, c581, hf⟩ := oB hf
        refine b_callVi (K := 7) (As := []) (res := r581) C (metX7_clearBuffer l G _ _ _ hk2 c581) hk2 (by decide) rfl gkL_113 ekL_113 rfl ⟨rfl, rfl⟩ ⟨Nat.le_of_ble_eq_true rfl, Nat.le_of_ble_eq_true rfl⟩ (by simp [Value.category]) ⟨by show k ≤ 601024; omega, by show nn ≤ 7293034; omega⟩ rfl dL_law_581 ?_
        refine b_icmp_eq (tgt := 1402) C dL_law_584 (by decide) (fun c584 => ?_) (fun c584 => ?_)
        · have hf := iT c584 hf
          exact wL_law_b1402 C T hl hX hbl ih hk1 hk2 hk3 hf (by omega) (by omega)
        · have hf := iF c584 hf
          refine b_iconst (v := 0) C dL_law_587 (by decide) ?_
          exact absurd (Option.some.inj hf) (by decide)
      have hf := iF c39_7 hf
      by_cases c39_8 : ((xs v4.toNatClampNeg) &&& 31) = 8
      · have hf := iT c39_8 hf
        refine b_tabIn (kc := 8) (tgt := 589) C (by rw [c39_8]; rfl) dL_law_39 (by decide) (by decide) rfl (by decide) ?_
        refine b_aload_n C dL_law_589 rfl 1 rfl ?_
        obtain ⟨r590, c590, hf⟩ := oB hf
        refine b_callVi (K := 6) (As := []) (res := (r590, x)) C (metX6_firstError l G _ _ _ hk1 c590) hk1 (by decide) rfl gkL_114 ekL_114 rfl ⟨rfl, rfl⟩ ⟨Nat.le_of_ble_eq_true rfl, Nat.le_of_ble_eq_true rfl⟩ (by simp [Value.category]) ⟨by show k ≤ 601024; omega, by show nn ≤ 7293034; omega⟩ rfl dL_law_590 ?_
        refine b_aload_n C dL_law_593 rfl 2 rfl ?_
        obtain ⟨r594, c594, hf⟩ := oB hf
        refine b_callVi (K := 7) (As := []) (res := r594) C (metX7_firstError l G _ _ _ hk2 c594) hk2 (by decide) rfl gkL_117 ekL_117 rfl ⟨rfl, rfl⟩ ⟨Nat.le_of_ble_eq_true rfl, Nat.le_of_ble_eq_true rfl⟩ (by simp [Value.category]) ⟨by show k ≤ 601024; omega, by show nn ≤ 7293034; omega⟩ rfl dL_law_594 ?_
        refine b_icmp_eq (tgt := 1402) C dL_law_597 (by decide) (fun c597 => ?_) (fun c597 => ?_)
        · have hf := iT c597 hf
          exact wL_law_b1402 C T hl hX hbl ih hk1 hk2 hk3 hf (by omega) (by omega)
        · have hf := iF c597 hf
          refine b_iconst (v := 0) C dL_law_600 (by decide) ?_
          exact absurd (Option.some.inj hf) (by decide)
      have hf := iF c39_8 hf
      by_cases c39_9 : ((xs v4.toNatClampNeg) &&& 31) = 9
      · have hf := iT c39_9 hf
        refine b_tabIn (kc := 9) (tgt := 602) C (by rw [c39_9]; rfl) dL_law_39 (by decide) (by decide) rfl (by decide) ?_
        refine b_aload_n C dL_law_602 rfl 1 rfl ?_
        refine b_aload_n C dL_law_603 rfl 3 rfl ?_
        obtain ⟨r604, c604, hf⟩ := oB hf
        refine b_callW (As := [.ref (G.2.2 i1), .ref (G.2.2 i3)]) (res := r604) (mc1 := 1) C T (metL_run l G _ _ _ _ hk1 hk3 c604 hl) gkL_118 ekL_118 rfl ⟨rfl, rfl⟩ ⟨Nat.le_of_ble_eq_true rfl, Nat.le_of_ble_eq_true rfl⟩ (by simp [Value.category]) ⟨by show k + 1 ≤ 601024; omega, by show nn + 6 * 1 ≤ 7293034; omega⟩ rfl dL_law_604 ?_
        refine b_istore (lv' := [(5, .int r604.1), (0, .ref b), (1, .ref (G.2.2 i1)), (2, .ref (G.2.2 i2)), (3, .ref (G.2.2 i3)), (4, .int v4)]) C dL_law_607 (by decide) rfl ?_
        refine b_aload_n C dL_law_609 rfl 3 rfl ?_
        obtain ⟨r610, c610, hf⟩ := oB hf
        refine b_callVi (K := 7) (As := []) (res := r610) C (metX7_run l G _ _ _ hk2 c610) hk2 (by decide) rfl gkL_120 ekL_120 rfl ⟨rfl, rfl⟩ ⟨Nat.le_of_ble_eq_true rfl, Nat.le_of_ble_eq_true rfl⟩ (by simp [Value.category]) ⟨by show k + 1 ≤ 601024; omega, by show nn + 6 * 1 ≤ 7293034; omega⟩ rfl dL_law_610 ?_
        refine b_istore (lv' := [(6, .int r610.1), (5, .int r604.1), (0, .ref b), (1, .ref (G.2.2 i1)), (2, .ref (G.2.2 i2)), (3, .ref (G.2.2 i3)), (4, .int v4)]) C dL_law_613 (by decide) rfl ?_
        refine b_aload_n C dL_law_615 rfl 4 rfl ?_
        obtain ⟨r616, c616, hf⟩ := oB hf
        refine b_callVi (K := 7) (As := []) (res := (r616, r610.2)) C (metX7_thrown l G _ _ _ hk2 c616) hk2 (by decide) rfl gkL_86 ekL_86 rfl ⟨rfl, rfl⟩ ⟨Nat.le_of_ble_eq_true rfl, Nat.le_of_ble_eq_true rfl⟩ (by simp [Value.category]) ⟨by show k + 1 ≤ 601024; omega, by show nn + 6 * 1 ≤ 7293034; omega⟩ rfl dL_law_616 ?_
        refine b_iload C dL_law_619 1 rfl ?_
        refine b_icmp_eq (tgt := 626) C dL_law_621 (by decide) (fun c621 => ?_) (fun c621 => ?_)
        · have hf := iT c621 hf
          refine b_iload C dL_law_626 1 rfl ?_
          refine b_if_ne (tgt := 643) C dL_law_628 (by decide) (fun c628 => ?_) (fun c628 => ?_)
          · have hf := iF c628 hf
            refine b_pm [2, 3, 4, 5, 6] (lv' := [(0, .ref b), (1, .ref (G.2.2 i1)), (2, .ref (G.2.2 i2)), (3, .ref (G.2.2 i3)), (4, .int v4)]) rfl ?_
            exact wL_law_b643 C T hl hX hbl ih hk1 hk2 hk3 hf (by omega) (by omega)
          · have hf := iT c628 hf
            refine b_aload_n C dL_law_631 rfl 5 rfl ?_
            refine b_iconst (v := 0) C dL_law_632 (by decide) ?_
            obtain ⟨g633, hf⟩ := iN hf
            refine b_lald C hk3 g633 dL_law_633 ?_
            refine b_iload C dL_law_634 0 rfl ?_
            refine b_i2l C dL_law_636 ?_
            refine b_lcmp C dL_law_637 ?_
            refine b_if_eq (tgt := 643) C dL_law_638 (by decide) (fun c638 => ?_) (fun c638 => ?_)
            · have hf := iT c638 hf
              refine b_pm [2, 3, 4, 5, 6] (lv' := [(0, .ref b), (1, .ref (G.2.2 i1)), (2, .ref (G.2.2 i2)), (3, .ref (G.2.2 i3)), (4, .int v4)]) rfl ?_
              exact wL_law_b643 C T hl hX hbl ih hk1 hk2 hk3 hf (by omega) (by omega)
            · have hf := iF c638 hf
              refine b_iconst (v := 0) C dL_law_641 (by decide) ?_
              exact absurd (Option.some.inj hf) (by decide)
        · have hf := iF c621 hf
          refine b_iconst (v := 0) C dL_law_624 (by decide) ?_
          exact absurd (Option.some.inj hf) (by decide)
      have hf := iF c39_9 hf
      by_cases c39_10 : ((xs v4.toNatClampNeg) &&& 31) = 10
      · have hf := iT c39_10 hf
        refine b_tabIn (kc := 10) (tgt := 646) C (by rw [c39_10]; rfl) dL_law_39 (by decide) (by decide) rfl (by decide) ?_
        refine b_aload_n C dL_law_646 rfl 1 rfl ?_
        refine b_aload_n C dL_law_647 rfl 0 rfl ?_
        refine b_iload C dL_law_648 4 rfl ?_
        refine b_iconst (v := 1) C dL_law_650 (by decide) ?_
        refine b_iadd C dL_law_651 ?_
        obtain ⟨g652, hf⟩ := iN hf
        refine b_sld C hX hbl hbA g652 dL_law_652 ?_
        refine b_aload_n C dL_law_653 rfl 3 rfl ?_
        obtain ⟨r654, c654, hf⟩ := oB hf
        refine b_callW (As := [.ref (G.2.2 i1), .int (xs (v4 + 1).toNatClampNeg), .ref (G.2.2 i3)]) (res := r654) (mc1 := 1) C T (metL_keep l G _ _ _ _ _ hk1 hk3 c654 hl) gkL_121 ekL_121 rfl ⟨rfl, rfl⟩ ⟨Nat.le_of_ble_eq_true rfl, Nat.le_of_ble_eq_true rfl⟩ (by simp [Value.category]) ⟨by show k + 1 ≤ 601024; omega, by show nn + 6 * 1 ≤ 7293034; omega⟩ rfl dL_law_654 ?_
        refine b_istore (lv' := [(5, .int r654.1), (0, .ref b), (1, .ref (G.2.2 i1)), (2, .ref (G.2.2 i2)), (3, .ref (G.2.2 i3)), (4, .int v4)]) C dL_law_657 (by decide) rfl ?_
        refine b_aload_n C dL_law_659 rfl 3 rfl ?_
        refine b_aload_n C dL_law_660 rfl 1 rfl ?_
        refine b_iload C dL_law_661 5 rfl ?_
        refine b_iconst (v := 1) C dL_law_663 (by decide) ?_
        refine b_iadd C dL_law_664 ?_
        obtain ⟨g665, hf⟩ := iN hf
        refine b_sld C hX hbl hbA g665 dL_law_665 ?_
        obtain ⟨r666, c666, hf⟩ := oB hf
        refine b_callVi (K := 7) (As := [.int (xs (v4 + 1).toNatClampNeg)]) (res := r666) C (metX7_keep l G _ _ _ _ hk2 c666) hk2 (by decide) rfl gkL_123 ekL_123 rfl ⟨rfl, rfl⟩ ⟨Nat.le_of_ble_eq_true rfl, Nat.le_of_ble_eq_true rfl⟩ (by simp [Value.category]) ⟨by show k + 1 ≤ 601024; omega, by show nn + 6 * 1 ≤ 7293034; omega⟩ rfl dL_law_666 ?_
        refine b_istore (lv' := [(6, .int r666.1), (5, .int r654.1), (0, .ref b), (1, .ref (G.2.2 i1)), (2, .ref (G.2.2 i2)), (3, .ref (G.2.2 i3)), (4, .int v4)]) C dL_law_669 (by decide) rfl ?_
        refine b_aload_n C dL_law_671 rfl 4 rfl ?_
        obtain ⟨r672, c672, hf⟩ := oB hf
        refine b_callVi (K := 7) (As := []) (res := (r672, r666.2)) C (metX7_thrown l G _ _ _ hk2 c672) hk2 (by decide) rfl gkL_86 ekL_86 rfl ⟨rfl, rfl⟩ ⟨Nat.le_of_ble_eq_true rfl, Nat.le_of_ble_eq_true rfl⟩ (by simp [Value.category]) ⟨by show k + 1 ≤ 601024; omega, by show nn + 6 * 1 ≤ 7293034; omega⟩ rfl dL_law_672 ?_
        refine b_iload C dL_law_675 1 rfl ?_
        refine b_icmp_eq (tgt := 682) C dL_law_677 (by decide) (fun c677 => ?_) (fun c677 => ?_)
        · have hf := iT c677 hf
          refine b_iload C dL_law_682 1 rfl ?_
          refine b_if_ne (tgt := 699) C dL_law_684 (by decide) (fun c684 => ?_) (fun c684 => ?_)
          · have hf := iF c684 hf
            refine b_pm [2, 3, 4, 5, 6] (lv' := [(0, .ref b), (1, .ref (G.2.2 i1)), (2, .ref (G.2.2 i2)), (3, .ref (G.2.2 i3)), (4, .int v4)]) rfl ?_
            exact wL_law_b699 C T hl hX hbl ih hk1 hk2 hk3 hf (by omega) (by omega)
          · have hf := iT c684 hf
            refine b_aload_n C dL_law_687 rfl 5 rfl ?_
            refine b_iconst (v := 0) C dL_law_688 (by decide) ?_
            obtain ⟨g689, hf⟩ := iN hf
            refine b_lald C hk3 g689 dL_law_689 ?_
            refine b_iload C dL_law_690 0 rfl ?_
            refine b_i2l C dL_law_692 ?_
            refine b_lcmp C dL_law_693 ?_
            refine b_if_eq (tgt := 699) C dL_law_694 (by decide) (fun c694 => ?_) (fun c694 => ?_)
            · have hf := iT c694 hf
              refine b_pm [2, 3, 4, 5, 6] (lv' := [(0, .ref b), (1, .ref (G.2.2 i1)), (2, .ref (G.2.2 i2)), (3, .ref (G.2.2 i3)), (4, .int v4)]) rfl ?_
              exact wL_law_b699 C T hl hX hbl ih hk1 hk2 hk3 hf (by omega) (by omega)
            · have hf := iF c694 hf
              refine b_iconst (v := 0) C dL_law_697 (by decide) ?_
              exact absurd (Option.some.inj hf) (by decide)
        · have hf := iF c677 hf
          refine b_iconst (v := 0) C dL_law_680 (by decide) ?_
          exact absurd (Option.some.inj hf) (by decide)
      have hf := iF c39_10 hf
      by_cases c39_11 : ((xs v4.toNatClampNeg) &&& 31) = 11
      · have hf := iT c39_11 hf
        refine b_tabIn (kc := 11) (tgt := 702) C (by rw [c39_11]; rfl) dL_law_39 (by decide) (by decide) rfl (by decide) ?_
        refine b_aload_n C dL_law_702 rfl 1 rfl ?_
        refine b_aload_n C dL_law_703 rfl 0 rfl ?_
        refine b_iload C dL_law_704 4 rfl ?_
        refine b_iconst (v := 1) C dL_law_706 (by decide) ?_
        refine b_iadd C dL_law_707 ?_
        obtain ⟨g708, hf⟩ := iN hf
        refine b_sld C hX hbl hbA g708 dL_law_708 ?_
        refine b_aload_n C dL_law_709 rfl 3 rfl ?_
        obtain ⟨r710, c710, hf⟩ := oB hf
        refine b_callW (As := [.ref (G.2.2 i1), .int (xs (v4 + 1).toNatClampNeg), .ref (G.2.2 i3)]) (res := r710) (mc1 := 2) C T (metL_goBack l G _ _ _ _ _ hk1 hk3 c710 hl) gkL_124 ekL_124 rfl ⟨rfl, rfl⟩ ⟨Nat.le_of_ble_eq_true rfl, Nat.le_of_ble_eq_true rfl⟩ (by simp [Value.category]) ⟨by show k + 2 ≤ 601024; omega, by show nn + 6 * 2 ≤ 7293034; omega⟩ rfl dL_law_710 ?_
        refine b_istore (lv' := [(5, .int r710.1), (0, .ref b), (1, .ref (G.2.2 i1)), (2, .ref (G.2.2 i2)), (3, .ref (G.2.2 i3)), (4, .int v4)]) C dL_law_713 (by decide) rfl ?_
        refine b_aload_n C dL_law_715 rfl 3 rfl ?_
        refine b_aload_n C dL_law_716 rfl 1 rfl ?_
        refine b_iload C dL_law_717 5 rfl ?_
        refine b_iconst (v := 1) C dL_law_719 (by decide) ?_
        refine b_iadd C dL_law_720 ?_
        obtain ⟨g721, hf⟩ := iN hf
        refine b_sld C hX hbl hbA g721 dL_law_721 ?_
        obtain ⟨r722, c722, hf⟩ := oB hf
        refine b_callVi (K := 7) (As := [.int (xs (v4 + 1).toNatClampNeg)]) (res := r722) C (metX7_goBack l G _ _ _ _ hk2 c722) hk2 (by decide) rfl gkL_126 ekL_126 rfl ⟨rfl, rfl⟩ ⟨Nat.le_of_ble_eq_true rfl, Nat.le_of_ble_eq_true rfl⟩ (by simp [Value.category]) ⟨by show k + 2 ≤ 601024; omega, by show nn + 6 * 2 ≤ 7293034; omega⟩ rfl dL_law_722 ?_
        refine b_istore (lv' := [(6, .int r722.1), (5, .int r710.1), (0, .ref b), (1, .ref (G.2.2 i1)), (2, .ref (G.2.2 i2)), (3, .ref (G.2.2 i3)), (4, .int v4)]) C dL_law_725 (by decide) rfl ?_
        refine b_aload_n C dL_law_727 rfl 4 rfl ?_
        obtain ⟨r728, c728, hf⟩ := oB hf
        refine b_callVi (K := 7) (As := []) (res := (r728, r722.2)) C (metX7_thrown l G _ _ _ hk2 c728) hk2 (by decide) rfl gkL_86 ekL_86 rfl ⟨rfl, rfl⟩ ⟨Nat.le_of_ble_eq_true rfl, Nat.le_of_ble_eq_true rfl⟩ (by simp [Value.category]) ⟨by show k + 2 ≤ 601024; omega, by show nn + 6 * 2 ≤ 7293034; omega⟩ rfl dL_law_728 ?_
        refine b_iload C dL_law_731 1 rfl ?_
        refine b_icmp_eq (tgt := 738) C dL_law_733 (by decide) (fun c733 => ?_) (fun c733 => ?_)
        · have hf := iT c733 hf
          refine b_iload C dL_law_738 1 rfl ?_
          refine b_if_ne (tgt := 755) C dL_law_740 (by decide) (fun c740 => ?_) (fun c740 => ?_)
          · have hf := iF c740 hf
            refine b_pm [2, 3, 4, 5, 6] (lv' := [(0, .ref b), (1, .ref (G.2.2 i1)), (2, .ref (G.2.2 i2)), (3, .ref (G.2.2 i3)), (4, .int v4)]) rfl ?_
            exact wL_law_b755 C T hl hX hbl ih hk1 hk2 hk3 hf (by omega) (by omega)
          · have hf := iT c740 hf
            refine b_aload_n C dL_law_743 rfl 5 rfl ?_
            refine b_iconst (v := 0) C dL_law_744 (by decide) ?_
            obtain ⟨g745, hf⟩ := iN hf
            refine b_lald C hk3 g745 dL_law_745 ?_
            refine b_iload C dL_law_746 0 rfl ?_
            refine b_i2l C dL_law_748 ?_
            refine b_lcmp C dL_law_749 ?_
            refine b_if_eq (tgt := 755) C dL_law_750 (by decide) (fun c750 => ?_) (fun c750 => ?_)
            · have hf := iT c750 hf
              refine b_pm [2, 3, 4, 5, 6] (lv' := [(0, .ref b), (1, .ref (G.2.2 i1)), (2, .ref (G.2.2 i2)), (3, .ref (G.2.2 i3)), (4, .int v4)]) rfl ?_
              exact wL_law_b755 C T hl hX hbl ih hk1 hk2 hk3 hf (by omega) (by omega)
            · have hf := iF c750 hf
              refine b_iconst (v := 0) C dL_law_753 (by decide) ?_
              exact absurd (Option.some.inj hf) (by decide)
        · have hf := iF c733 hf
          refine b_iconst (v := 0) C dL_law_736 (by decide) ?_
          exact absurd (Option.some.inj hf) (by decide)
      have hf := iF c39_11 hf
      by_cases c39_12 : ((xs v4.toNatClampNeg) &&& 31) = 12
      · have hf := iT c39_12 hf
        refine b_tabIn (kc := 12) (tgt := 758) C (by rw [c39_12]; rfl) dL_law_39 (by decide) (by decide) rfl (by decide) ?_
        refine b_aload_n C dL_law_758 rfl 1 rfl ?_
        refine b_aload_n C dL_law_759 rfl 3 rfl ?_
        obtain ⟨r760, c760, hf⟩ := oB hf
        refine b_callW (As := [.ref (G.2.2 i1), .ref (G.2.2 i3)]) (res := r760) (mc1 := 1) C T (metL_undo l G _ _ _ _ hk1 hk3 c760 hl) gkL_127 ekL_127 rfl ⟨rfl, rfl⟩ ⟨Nat.le_of_ble_eq_true rfl, Nat.le_of_ble_eq_true rfl⟩ (by simp [Value.category]) ⟨by show k + 1 ≤ 601024; omega, by show nn + 6 * 1 ≤ 7293034; omega⟩ rfl dL_law_760 ?_
        refine b_istore (lv' := [(5, .int r760.1), (0, .ref b), (1, .ref (G.2.2 i1)), (2, .ref (G.2.2 i2)), (3, .ref (G.2.2 i3)), (4, .int v4)]) C dL_law_763 (by decide) rfl ?_
        refine b_aload_n C dL_law_765 rfl 3 rfl ?_
        obtain ⟨r766, c766, hf⟩ := oB hf
        refine b_callVi (K := 7) (As := []) (res := r766) C (metX7_undo l G _ _ _ hk2 c766) hk2 (by decide) rfl gkL_129 ekL_129 rfl ⟨rfl, rfl⟩ ⟨Nat.le_of_ble_eq_true rfl, Nat.le_of_ble_eq_true rfl⟩ (by simp [Value.category]) ⟨by show k + 1 ≤ 601024; omega, by show nn + 6 * 1 ≤ 7293034; omega⟩ rfl dL_law_766 ?_
        refine b_istore (lv' := [(6, .int r766.1), (5, .int r760.1), (0, .ref b), (1, .ref (G.2.2 i1)), (2, .ref (G.2.2 i2)), (3, .ref (G.2.2 i3)), (4, .int v4)]) C dL_law_769 (by decide) rfl ?_
        refine b_aload_n C dL_law_771 rfl 4 rfl ?_
        obtain ⟨r772, c772, hf⟩ := oB hf
        refine b_callVi (K := 7) (As := []) (res := (r772, r766.2)) C (metX7_thrown l G _ _ _ hk2 c772) hk2 (by decide) rfl gkL_86 ekL_86 rfl ⟨rfl, rfl⟩ ⟨Nat.le_of_ble_eq_true rfl, Nat.le_of_ble_eq_true rfl⟩ (by simp [Value.category]) ⟨by show k + 1 ≤ 601024; omega, by show nn + 6 * 1 ≤ 7293034; omega⟩ rfl dL_law_772 ?_
        refine b_iload C dL_law_775 1 rfl ?_
        refine b_icmp_eq (tgt := 782) C dL_law_777 (by decide) (fun c777 => ?_) (fun c777 => ?_)
        · have hf := iT c777 hf
          refine b_iload C dL_law_782 1 rfl ?_
          refine b_if_ne (tgt := 799) C dL_law_784 (by decide) (fun c784 => ?_) (fun c784 => ?_)
          · have hf := iF c784 hf
            refine b_pm [2, 3, 4, 5, 6] (lv' := [(0, .ref b), (1, .ref (G.2.2 i1)), (2, .ref (G.2.2 i2)), (3, .ref (G.2.2 i3)), (4, .int v4)]) rfl ?_
            exact wL_law_b799 C T hl hX hbl ih hk1 hk2 hk3 hf (by omega) (by omega)
          · have hf := iT c784 hf
            refine b_aload_n C dL_law_787 rfl 5 rfl ?_
            refine b_iconst (v := 0) C dL_law_788 (by decide) ?_
            obtain ⟨g789, hf⟩ := iN hf
            refine b_lald C hk3 g789 dL_law_789 ?_
            refine b_iload C dL_law_790 0 rfl ?_
            refine b_i2l C dL_law_792 ?_
            refine b_lcmp C dL_law_793 ?_
            refine b_if_eq (tgt := 799) C dL_law_794 (by decide) (fun c794 => ?_) (fun c794 => ?_)
            · have hf := iT c794 hf
              refine b_pm [2, 3, 4, 5, 6] (lv' := [(0, .ref b), (1, .ref (G.2.2 i1)), (2, .ref (G.2.2 i2)), (3, .ref (G.2.2 i3)), (4, .int v4)]) rfl ?_
              exact wL_law_b799 C T hl hX hbl ih hk1 hk2 hk3 hf (by omega) (by omega)
            · have hf := iF c794 hf
              refine b_iconst (v := 0) C dL_law_797 (by decide) ?_
              exact absurd (Option.some.inj hf) (by decide)
        · have hf := iF c777 hf
          refine b_iconst (v := 0) C dL_law_780 (by decide) ?_
          exact absurd (Option.some.inj hf) (by decide)
      have hf := iF c39_12 hf
      by_cases c39_13 : ((xs v4.toNatClampNeg) &&& 31) = 13
      · have hf := iT c39_13 hf
        refine b_tabIn (kc := 13) (tgt := 802) C (by rw [c39_13]; rfl) dL_law_39 (by decide) (by decide) rfl (by decide) ?_
        refine b_aload_n C dL_law_802 rfl 1 rfl ?_
        refine b_aload_n C dL_law_803 rfl 0 rfl ?_
        refine b_iload C dL_law_804 4 rfl ?_
        refine b_iconst (v := 1) C dL_law_806 (by decide) ?_
        refine b_iadd C dL_law_807 ?_
        obtain ⟨g808, hf⟩ := iN hf
        refine b_sld C hX hbl hbA g808 dL_law_808 ?_
        refine b_aload_n C dL_law_809 rfl 0 rfl ?_
        refine b_iload C dL_law_810 4 rfl ?_
        refine b_iconst (v := 2) C dL_law_812 (by decide) ?_
        refine b_iadd C dL_law_813 ?_
        obtain ⟨g814, hf⟩ := iN hf
        refine b_sld C hX hbl hbA g814 dL_law_814 ?_
        refine b_aload_n C dL_law_815 rfl 3 rfl ?_
        obtain ⟨r816, c816, hf⟩ := oB hf
        refine b_callW (As := [.ref (G.2.2 i1), .int (xs (v4 + 1).toNatClampNeg), .int (xs (v4 + 2).toNatClampNeg), .ref (G.2.2 i3)]) (res := r816) (mc1 := 2) C T (metL_at l G _ _ _ _ _ _ hk1 hk3 c816 hl) gkL_130 ekL_130 rfl ⟨rfl, rfl⟩ ⟨Nat.le_of_ble_eq_true rfl, Nat.le_of_ble_eq_true rfl⟩ (by simp [Value.category]) ⟨by show k + 2 ≤ 601024; omega, by show nn + 6 * 2 ≤ 7293034; omega⟩ rfl dL_law_816 ?_
        refine b_istore (lv' := [(5, .int r816.1), (0, .ref b), (1, .ref (G.2.2 i1)), (2, .ref (G.2.2 i2)), (3, .ref (G.2.2 i3)), (4, .int v4)]) C dL_law_819 (by decide) rfl ?_
        refine b_aload_n C dL_law_821 rfl 3 rfl ?_
        refine b_aload_n C dL_law_822 rfl 1 rfl ?_
        refine b_iload C dL_law_823 5 rfl ?_
        refine b_iconst (v := 1) C dL_law_825 (by decide) ?_
        refine b_iadd C dL_law_826 ?_
        obtain ⟨g827, hf⟩ := iN hf
        refine b_sld C hX hbl hbA g827 dL_law_827 ?_
        refine b_aload_n C dL_law_828 rfl 1 rfl ?_
        refine b_iload C dL_law_829 5 rfl ?_
        refine b_iconst (v := 2) C dL_law_831 (by decide) ?_
        refine b_iadd C dL_law_832 ?_
        obtain ⟨g833, hf⟩ := iN hf
        refine b_sld C hX hbl hbA g833 dL_law_833 ?_
        obtain ⟨r834, c834, hf⟩ := oB hf
        refine b_callVi (K := 7) (As := [.int (xs (v4 + 1).toNatClampNeg), .int (xs (v4 + 2).toNatClampNeg)]) (res := r834) C (metX7_at l G _ _ _ _ _ hk2 c834) hk2 (by decide) rfl gkL_132 ekL_132 rfl ⟨rfl, rfl⟩ ⟨Nat.le_of_ble_eq_true rfl, Nat.le_of_ble_eq_true rfl⟩ (by simp [Value.category]) ⟨by show k + 2 ≤ 601024; omega, by show nn + 6 * 2 ≤ 7293034; omega⟩ rfl dL_law_834 ?_
        refine b_istore (lv' := [(6, .int r834.1), (5, .int r816.1), (0, .ref b), (1, .ref (G.2.2 i1)), (2, .ref (G.2.2 i2)), (3, .ref (G.2.2 i3)), (4, .int v4)]) C dL_law_837 (by decide) rfl ?_
        refine b_aload_n C dL_law_839 rfl 4 rfl ?_
        obtain ⟨r840, c840, hf⟩ := oB hf
        refine b_callVi (K := 7) (As := []) (res := (r840, r834.2)) C (metX7_thrown l G _ _ _ hk2 c840) hk2 (by decide) rfl gkL_86 ekL_86 rfl ⟨rfl, rfl⟩ ⟨Nat.le_of_ble_eq_true rfl, Nat.le_of_ble_eq_true rfl⟩ (by simp [Value.category]) ⟨by show k + 2 ≤ 601024; omega, by show nn + 6 * 2 ≤ 7293034; omega⟩ rfl dL_law_840 ?_
        refine b_iload C dL_law_843 1 rfl ?_
        refine b_icmp_eq (tgt := 850) C dL_law_845 (by decide) (fun c845 => ?_) (fun c845 => ?_)
        · have hf := iT c845 hf
          refine b_iload C dL_law_850 1 rfl ?_
          refine b_if_ne (tgt := 867) C dL_law_852 (by decide) (fun c852 => ?_) (fun c852 => ?_)
          · have hf := iF c852 hf
            refine b_pm [2, 3, 4, 5, 6] (lv' := [(0, .ref b), (1, .ref (G.2.2 i1)), (2, .ref (G.2.2 i2)), (3, .ref (G.2.2 i3)), (4, .int v4)]) rfl ?_
            exact wL_law_b867 C T hl hX hbl ih hk1 hk2 hk3 hf (by omega) (by omega)
          · have hf := iT c852 hf
            refine b_aload_n C dL_law_855 rfl 5 rfl ?_
            refine b_iconst (v := 0) C dL_law_856 (by decide) ?_
            obtain ⟨g857, hf⟩ := iN hf
            refine b_lald C hk3 g857 dL_law_857 ?_
            refine b_iload C dL_law_858 0 rfl ?_
            refine b_i2l C dL_law_860 ?_
            refine b_lcmp C dL_law_861 ?_
            refine b_if_eq (tgt := 867) C dL_law_862 (by decide) (fun c862 => ?_) (fun c862 => ?_)
            · have hf := iT c862 hf
              refine b_pm [2, 3, 4, 5, 6] (lv' := [(0, .ref b), (1, .ref (G.2.2 i1)), (2, .ref (G.2.2 i2)), (3, .ref (G.2.2 i3)), (4, .int v4)]) rfl ?_
              exact wL_law_b867 C T hl hX hbl ih hk1 hk2 hk3 hf (by omega) (by omega)
            · have hf := iF c862 hf
              refine b_iconst (v := 0) C dL_law_865 (by decide) ?_
              exact absurd (Option.some.inj hf) (by decide)
        · have hf := iF c845 hf
          refine b_iconst (v := 0) C dL_law_848 (by decide) ?_
          exact absurd (Option.some.inj hf) (by decide)
      have hf := iF c39_13 hf
      by_cases c39_14 : ((xs v4.toNatClampNeg) &&& 31) = 14
      · have hf := iT c39_14 hf
        refine b_tabIn (kc := 14) (tgt := 870) C (by rw [c39_14]; rfl) dL_law_39 (by decide) (by decide) rfl (by decide) ?_
        refine b_aload_n C dL_law_870 rfl 1 rfl ?_
        refine b_aload_n C dL_law_871 rfl 0 rfl ?_
        refine b_iload C dL_law_872 4 rfl ?_
        refine b_iconst (v := 1) C dL_law_874 (by decide) ?_
        refine b_iadd C dL_law_875 ?_
        obtain ⟨g876, hf⟩ := iN hf
        refine b_sld C hX hbl hbA g876 dL_law_876 ?_
        refine b_aload_n C dL_law_877 rfl 0 rfl ?_
        refine b_iload C dL_law_878 4 rfl ?_
        refine b_iconst (v := 2) C dL_law_880 (by decide) ?_
        refine b_iadd C dL_law_881 ?_
        obtain ⟨g882, hf⟩ := iN hf
        refine b_sld C hX hbl hbA g882 dL_law_882 ?_
        refine b_aload_n C dL_law_883 rfl 3 rfl ?_
        obtain ⟨r884, c884, hf⟩ := oB hf
        refine b_callW (As := [.ref (G.2.2 i1), .int (xs (v4 + 1).toNatClampNeg), .int (xs (v4 + 2).toNatClampNeg), .ref (G.2.2 i3)]) (res := r884) (mc1 := 2) C T (metL_lodgerOf l G _ _ _ _ _ _ hk1 hk3 c884 hl) gkL_133 ekL_133 rfl ⟨rfl, rfl⟩ ⟨Nat.le_of_ble_eq_true rfl, Nat.le_of_ble_eq_true rfl⟩ (by simp [Value.category]) ⟨by show k + 2 ≤ 601024; omega, by show nn + 6 * 2 ≤ 7293034; omega⟩ rfl dL_law_884 ?_
        refine b_istore (lv' := [(5, .int r884.1), (0, .ref b), (1, .ref (G.2.2 i1)), (2, .ref (G.2.2 i2)), (3, .ref (G.2.2 i3)), (4, .int v4)]) C dL_law_887 (by decide) rfl ?_
        refine b_aload_n C dL_law_889 rfl 3 rfl ?_
        refine b_aload_n C dL_law_890 rfl 1 rfl ?_
        refine b_iload C dL_law_891 5 rfl ?_
        refine b_iconst (v := 1) C dL_law_893 (by decide) ?_
        refine b_iadd C dL_law_894 ?_
        obtain ⟨g895, hf⟩ := iN hf
        refine b_sld C hX hbl hbA g895 dL_law_895 ?_
        refine b_aload_n C dL_law_896 rfl 1 rfl ?_
        refine b_iload C dL_law_897 5 rfl ?_
        refine b_iconst (v := 2) C dL_law_899 (by decide) ?_
        refine b_iadd C dL_law_900 ?_
        obtain ⟨g901, hf⟩ := iN hf
        refine b_sld C hX hbl hbA g901 dL_law_901 ?_
        obtain ⟨r902, c902, hf⟩ := oB hf
        refine b_callVi (K := 7) (As := [.int (xs (v4 + 1).toNatClampNeg), .int (xs (v4 + 2).toNatClampNeg)]) (res := r902) C (metX7_lodgerOf l G _ _ _ _ _ hk2 c902) hk2 (by decide) rfl gkL_135 ekL_135 rfl ⟨rfl, rfl⟩ ⟨Nat.le_of_ble_eq_true rfl, Nat.le_of_ble_eq_true rfl⟩ (by simp [Value.category]) ⟨by show k + 2 ≤ 601024; omega, by show nn + 6 * 2 ≤ 7293034; omega⟩ rfl dL_law_902 ?_
        refine b_istore (lv' := [(6, .int r902.1), (5, .int r884.1), (0, .ref b), (1, .ref (G.2.2 i1)), (2, .ref (G.2.2 i2)), (3, .ref (G.2.2 i3)), (4, .int v4)]) C dL_law_905 (by decide) rfl ?_
        refine b_aload_n C dL_law_907 rfl 4 rfl ?_
        obtain ⟨r908, c908, hf⟩ := oB hf
        refine b_callVi (K := 7) (As := []) (res := (r908, r902.2)) C (metX7_thrown l G _ _ _ hk2 c908) hk2 (by decide) rfl gkL_86 ekL_86 rfl ⟨rfl, rfl⟩ ⟨Nat.le_of_ble_eq_true rfl, Nat.le_of_ble_eq_true rfl⟩ (by simp [Value.category]) ⟨by show k + 2 ≤ 601024; omega, by show nn + 6 * 2 ≤ 7293034; omega⟩ rfl dL_law_908 ?_
        refine b_iload C dL_law_911 1 rfl ?_
        refine b_icmp_eq (tgt := 918) C dL_law_913 (by decide) (fun c913 => ?_) (fun c913 => ?_)
        · have hf := iT c913 hf
          refine b_iload C dL_law_918 1 rfl ?_
          refine b_if_ne (tgt := 935) C dL_law_920 (by decide) (fun c920 => ?_) (fun c920 => ?_)
          · have hf := iF c920 hf
            refine b_pm [2, 3, 4, 5, 6] (lv' := [(0, .ref b), (1, .ref (G.2.2 i1)), (2, .ref (G.2.2 i2)), (3, .ref (G.2.2 i3)), (4, .int v4)]) rfl ?_
            exact wL_law_b935 C T hl hX hbl ih hk1 hk2 hk3 hf (by omega) (by omega)
          · have hf := iT c920 hf
            refine b_aload_n C dL_law_923 rfl 5 rfl ?_
            refine b_iconst (v := 0) C dL_law_924 (by decide) ?_
            obtain ⟨g925, hf⟩ := iN hf
            refine b_lald C hk3 g925 dL_law_925 ?_
            refine b_iload C dL_law_926 0 rfl ?_
            refine b_i2l C dL_law_928 ?_
            refine b_lcmp C dL_law_929 ?_
            refine b_if_eq (tgt := 935) C dL_law_930 (by decide) (fun c930 => ?_) (fun c930 => ?_)
            · have hf := iT c930 hf
              refine b_pm [2, 3, 4, 5, 6] (lv' := [(0, .ref b), (1, .ref (G.2.2 i1)), (2, .ref (G.2.2 i2)), (3, .ref (G.2.2 i3)), (4, .int v4)]) rfl ?_
              exact wL_law_b935 C T hl hX hbl ih hk1 hk2 hk3 hf (by omega) (by omega)
            · have hf := iF c930 hf
              refine b_iconst (v := 0) C dL_law_933 (by decide) ?_
              exact absurd (Option.some.inj hf) (by decide)
        · have hf := iF c913 hf
          refine b_iconst (v := 0) C dL_law_916 (by decide) ?_
          exact absurd (Option.some.inj hf) (by decide)
      have hf := iF c39_14 hf
      by_cases c39_15 : ((xs v4.toNatClampNeg) &&& 31) = 15
      · have hf := iT c39_15 hf
        refine b_tabIn (kc := 15) (tgt := 938) C (by rw [c39_15]; rfl) dL_law_39 (by decide) (by decide) rfl (by decide) ?_
        refine b_aload_n C dL_law_938 rfl 1 rfl ?_
        refine b_aload_n C dL_law_939 rfl 0 rfl ?_
        refine b_iload C dL_law_940 4 rfl ?_
        refine b_iconst (v := 1) C dL_law_942 (by decide) ?_
        refine b_iadd C dL_law_943 ?_
        obtain ⟨g944, hf⟩ := iN hf
        refine b_sld C hX hbl hbA g944 dL_law_944 ?_
        refine b_aload_n C dL_law_945 rfl 3 rfl ?_
        obtain ⟨r946, c946, hf⟩ := oB hf
        refine b_callW (As := [.ref (G.2.2 i1), .int (xs (v4 + 1).toNatClampNeg), .ref (G.2.2 i3)]) (res := r946) (mc1 := 1) C T (metL_count l G _ _ _ _ _ hk1 hk3 c946 hl) gkL_136 ekL_136 rfl ⟨rfl, rfl⟩ ⟨Nat.le_of_ble_eq_true rfl, Nat.le_of_ble_eq_true rfl⟩ (by simp [Value.category]) ⟨by show k + 1 ≤ 601024; omega, by show nn + 6 * 1 ≤ 7293034; omega⟩ rfl dL_law_946 ?_
        refine b_istore (lv' := [(5, .int r946.1), (0, .ref b), (1, .ref (G.2.2 i1)), (2, .ref (G.2.2 i2)), (3, .ref (G.2.2 i3)), (4, .int v4)]) C dL_law_949 (by decide) rfl ?_
        refine b_aload_n C dL_law_951 rfl 3 rfl ?_
        refine b_aload_n C dL_law_952 rfl 1 rfl ?_
        refine b_iload C dL_law_953 5 rfl ?_
        refine b_iconst (v := 1) C dL_law_955 (by decide) ?_
        refine b_iadd C dL_law_956 ?_
        obtain ⟨g957, hf⟩ := iN hf
        refine b_sld C hX hbl hbA g957 dL_law_957 ?_
        obtain ⟨r958, c958, hf⟩ := oB hf
        refine b_callVi (K := 7) (As := [.int (xs (v4 + 1).toNatClampNeg)]) (res := r958) C (metX7_count l G _ _ _ _ hk2 c958) hk2 (by decide) rfl gkL_138 ekL_138 rfl ⟨rfl, rfl⟩ ⟨Nat.le_of_ble_eq_true rfl, Nat.le_of_ble_eq_true rfl⟩ (by simp [Value.category]) ⟨by show k + 1 ≤ 601024; omega, by show nn + 6 * 1 ≤ 7293034; omega⟩ rfl dL_law_958 ?_
        refine b_istore (lv' := [(6, .int r958.1), (5, .int r946.1), (0, .ref b), (1, .ref (G.2.2 i1)), (2, .ref (G.2.2 i2)), (3, .ref (G.2.2 i3)), (4, .int v4)]) C dL_law_961 (by decide) rfl ?_
        refine b_aload_n C dL_law_963 rfl 4 rfl ?_
        obtain ⟨r964, c964, hf⟩ := oB hf
        refine b_callVi (K := 7) (As := []) (res := (r964, r958.2)) C (metX7_thrown l G _ _ _ hk2 c964) hk2 (by decide) rfl gkL_86 ekL_86 rfl ⟨rfl, rfl⟩ ⟨Nat.le_of_ble_eq_true rfl, Nat.le_of_ble_eq_true rfl⟩ (by simp [Value.category]) ⟨by show k + 1 ≤ 601024; omega, by show nn + 6 * 1 ≤ 7293034; omega⟩ rfl dL_law_964 ?_
        refine b_iload C dL_law_967 1 rfl ?_
        refine b_icmp_eq (tgt := 974) C dL_law_969 (by decide) (fun c969 => ?_) (fun c969 => ?_)
        · have hf := iT c969 hf
          refine b_iload C dL_law_974 1 rfl ?_
          refine b_if_ne (tgt := 991) C dL_law_976 (by decide) (fun c976 => ?_) (fun c976 => ?_)
          · have hf := iF c976 hf
            refine b_pm [2, 3, 4, 5, 6] (lv' := [(0, .ref b), (1, .ref (G.2.2 i1)), (2, .ref (G.2.2 i2)), (3, .ref (G.2.2 i3)), (4, .int v4)]) rfl ?_
            exact wL_law_b991 C T hl hX hbl ih hk1 hk2 hk3 hf (by omega) (by omega)
          · have hf := iT c976 hf
            refine b_aload_n C dL_law_979 rfl 5 rfl ?_
            refine b_iconst (v := 0) C dL_law_980 (by decide) ?_
            obtain ⟨g981, hf⟩ := iN hf
            refine b_lald C hk3 g981 dL_law_981 ?_
            refine b_iload C dL_law_982 0 rfl ?_
            refine b_i2l C dL_law_984 ?_
            refine b_lcmp C dL_law_985 ?_
            refine b_if_eq (tgt := 991) C dL_law_986 (by decide) (fun c986 => ?_) (fun c986 => ?_)
            · have hf := iT c986 hf
              refine b_pm [2, 3, 4, 5, 6] (lv' := [(0, .ref b), (1, .ref (G.2.2 i1)), (2, .ref (G.2.2 i2)), (3, .ref (G.2.2 i3)), (4, .int v4)]) rfl ?_
              exact wL_law_b991 C T hl hX hbl ih hk1 hk2 hk3 hf (by omega) (by omega)
            · have hf := iF c986 hf
              refine b_iconst (v := 0) C dL_law_989 (by decide) ?_
              exact absurd (Option.some.inj hf) (by decide)
        · have hf := iF c969 hf
          refine b_iconst (v := 0) C dL_law_972 (by decide) ?_
          exact absurd (Option.some.inj hf) (by decide)
      have hf := iF c39_15 hf
      by_cases c39_16 : ((xs v4.toNatClampNeg) &&& 31) = 16
      · have hf := iT c39_16 hf
        refine b_tabIn (kc := 16) (tgt := 994) C (by rw [c39_16]; rfl) dL_law_39 (by decide) (by decide) rfl (by decide) ?_
        refine b_aload_n C dL_law_994 rfl 1 rfl ?_
        refine b_aload_n C dL_law_995 rfl 0 rfl ?_
        refine b_iload C dL_law_996 4 rfl ?_
        refine b_iconst (v := 1) C dL_law_998 (by decide) ?_
        refine b_iadd C dL_law_999 ?_
        obtain ⟨g1000, hf⟩ := iN hf
        refine b_sld C hX hbl hbA g1000 dL_law_1000 ?_
        refine b_aload_n C dL_law_1001 rfl 3 rfl ?_
        obtain ⟨r1002, c1002, hf⟩ := oB hf
        refine b_callW (As := [.ref (G.2.2 i1), .int (xs (v4 + 1).toNatClampNeg), .ref (G.2.2 i3)]) (res := r1002) (mc1 := 1) C T (metL_refused l G _ _ _ _ _ hk1 hk3 c1002 hl) gkL_139 ekL_139 rfl ⟨rfl, rfl⟩ ⟨Nat.le_of_ble_eq_true rfl, Nat.le_of_ble_eq_true rfl⟩ (by simp [Value.category]) ⟨by show k + 1 ≤ 601024; omega, by show nn + 6 * 1 ≤ 7293034; omega⟩ rfl dL_law_1002 ?_
        refine b_istore (lv' := [(5, .int r1002.1), (0, .ref b), (1, .ref (G.2.2 i1)), (2, .ref (G.2.2 i2)), (3, .ref (G.2.2 i3)), (4, .int v4)]) C dL_law_1005 (by decide) rfl ?_
        refine b_aload_n C dL_law_1007 rfl 3 rfl ?_
        refine b_aload_n C dL_law_1008 rfl 1 rfl ?_
        refine b_iload C dL_law_1009 5 rfl ?_
        refine b_iconst (v := 1) C dL_law_1011 (by decide) ?_
        refine b_iadd C dL_law_1012 ?_
        obtain ⟨g1013, hf⟩ := iN hf
        refine b_sld C hX hbl hbA g1013 dL_law_1013 ?_
        obtain ⟨r1014, c1014, hf⟩ := oB hf
        refine b_callVi (K := 7) (As := [.int (xs (v4 + 1).toNatClampNeg)]) (res := r1014) C (metX7_refused l G _ _ _ _ hk2 c1014) hk2 (by decide) rfl gkL_141 ekL_141 rfl ⟨rfl, rfl⟩ ⟨Nat.le_of_ble_eq_true rfl, Nat.le_of_ble_eq_true rfl⟩ (by simp [Value.category]) ⟨by show k + 1 ≤ 601024; omega, by show nn + 6 * 1 ≤ 7293034; omega⟩ rfl dL_law_1014 ?_
        refine b_istore (lv' := [(6, .int r1014.1), (5, .int r1002.1), (0, .ref b), (1, .ref (G.2.2 i1)), (2, .ref (G.2.2 i2)), (3, .ref (G.2.2 i3)), (4, .int v4)]) C dL_law_1017 (by decide) rfl ?_
        refine b_aload_n C dL_law_1019 rfl 4 rfl ?_
        obtain ⟨r1020, c1020, hf⟩ := oB hf
        refine b_callVi (K := 7) (As := []) (res := (r1020, r1014.2)) C (metX7_thrown l G _ _ _ hk2 c1020) hk2 (by decide) rfl gkL_86 ekL_86 rfl ⟨rfl, rfl⟩ ⟨Nat.le_of_ble_eq_true rfl, Nat.le_of_ble_eq_true rfl⟩ (by simp [Value.category]) ⟨by show k + 1 ≤ 601024; omega, by show nn + 6 * 1 ≤ 7293034; omega⟩ rfl dL_law_1020 ?_
        refine b_iload C dL_law_1023 1 rfl ?_
        refine b_icmp_eq (tgt := 1030) C dL_law_1025 (by decide) (fun c1025 => ?_) (fun c1025 => ?_)
        · have hf := iT c1025 hf
          refine b_iload C dL_law_1030 1 rfl ?_
          refine b_if_ne (tgt := 1047) C dL_law_1032 (by decide) (fun c1032 => ?_) (fun c1032 => ?_)
          · have hf := iF c1032 hf
            refine b_pm [2, 3, 4, 5, 6] (lv' := [(0, .ref b), (1, .ref (G.2.2 i1)), (2, .ref (G.2.2 i2)), (3, .ref (G.2.2 i3)), (4, .int v4)]) rfl ?_
            exact wL_law_b1047 C T hl hX hbl ih hk1 hk2 hk3 hf (by omega) (by omega)
          · have hf := iT c1032 hf
            refine b_aload_n C dL_law_1035 rfl 5 rfl ?_
            refine b_iconst (v := 0) C dL_law_1036 (by decide) ?_
            obtain ⟨g1037, hf⟩ := iN hf
            refine b_lald C hk3 g1037 dL_law_1037 ?_
            refine b_iload C dL_law_1038 0 rfl ?_
            refine b_i2l C dL_law_1040 ?_
            refine b_lcmp C dL_law_1041 ?_
            refine b_if_eq (tgt := 1047) C dL_law_1042 (by decide) (fun c1042 => ?_) (fun c1042 => ?_)
            · have hf := iT c1042 hf
              refine b_pm [2, 3, 4, 5, 6] (lv' := [(0, .ref b), (1, .ref (G.2.2 i1)), (2, .ref (G.2.2 i2)), (3, .ref (G.2.2 i3)), (4, .int v4)]) rfl ?_
              exact wL_law_b1047 C T hl hX hbl ih hk1 hk2 hk3 hf (by omega) (by omega)
            · have hf := iF c1042 hf
              refine b_iconst (v := 0) C dL_law_1045 (by decide) ?_
              exact absurd (Option.some.inj hf) (by decide)
        · have hf := iF c1025 hf
          refine b_iconst (v := 0) C dL_law_1028 (by decide) ?_
          exact absurd (Option.some.inj hf) (by decide)
      have hf := iF c39_16 hf
      by_cases c39_17 : ((xs v4.toNatClampNeg) &&& 31) = 17
      · have hf := iT c39_17 hf
        refine b_tabIn (kc := 17) (tgt := 1050) C (by rw [c39_17]; rfl) dL_law_39 (by decide) (by decide) rfl (by decide) ?_
        refine b_aload_n C dL_law_1050 rfl 1 rfl ?_
        refine b_aload_n C dL_law_1051 rfl 0 rfl ?_
        refine b_iload C dL_law_1052 4 rfl ?_
        refine b_iconst (v := 1) C dL_law_1054 (by decide) ?_
        refine b_iadd C dL_law_1055 ?_
        obtain ⟨g1056, hf⟩ := iN hf
        refine b_sld C hX hbl hbA g1056 dL_law_1056 ?_
        refine b_aload_n C dL_law_1057 rfl 0 rfl ?_
        refine b_iload C dL_law_1058 4 rfl ?_
        refine b_iconst (v := 2) C dL_law_1060 (by decide) ?_
        refine b_iadd C dL_law_1061 ?_
        obtain ⟨g1062, hf⟩ := iN hf
        refine b_sld C hX hbl hbA g1062 dL_law_1062 ?_
        refine b_aload_n C dL_law_1063 rfl 0 rfl ?_
        refine b_iload C dL_law_1064 4 rfl ?_
        refine b_iconst (v := 3) C dL_law_1066 (by decide) ?_
        refine b_iadd C dL_law_1067 ?_
        obtain ⟨g1068, hf⟩ := iN hf
        refine b_sld C hX hbl hbA g1068 dL_law_1068 ?_
        refine b_aload_n C dL_law_1069 rfl 3 rfl ?_
        obtain ⟨r1070, c1070, hf⟩ := oB hf
        refine b_callW (As := [.ref (G.2.2 i1), .int (xs (v4 + 1).toNatClampNeg), .int (xs (v4 + 2).toNatClampNeg), .int (xs (v4 + 3).toNatClampNeg), .ref (G.2.2 i3)]) (res := r1070) (mc1 := 2) C T (metL_ifAsked l G _ _ _ _ _ _ _ hk1 hk3 c1070 hl) gkL_142 ekL_142 rfl ⟨rfl, rfl⟩ ⟨Nat.le_of_ble_eq_true rfl, Nat.le_of_ble_eq_true rfl⟩ (by simp [Value.category]) ⟨by show k + 2 ≤ 601024; omega, by show nn + 6 * 2 ≤ 7293034; omega⟩ rfl dL_law_1070 ?_
        refine b_istore (lv' := [(5, .int r1070.1), (0, .ref b), (1, .ref (G.2.2 i1)), (2, .ref (G.2.2 i2)), (3, .ref (G.2.2 i3)), (4, .int v4)]) C dL_law_1073 (by decide) rfl ?_
        refine b_aload_n C dL_law_1075 rfl 3 rfl ?_
        refine b_aload_n C dL_law_1076 rfl 1 rfl ?_
        refine b_iload C dL_law_1077 5 rfl ?_
        refine b_iconst (v := 1) C dL_law_1079 (by decide) ?_
        refine b_iadd C dL_law_1080 ?_
        obtain ⟨g1081, hf⟩ := iN hf
        refine b_sld C hX hbl hbA g1081 dL_law_1081 ?_
        refine b_aload_n C dL_law_1082 rfl 1 rfl ?_
        refine b_iload C dL_law_1083 5 rfl ?_
        refine b_iconst (v := 2) C dL_law_1085 (by decide) ?_
        refine b_iadd C dL_law_1086 ?_
        obtain ⟨g1087, hf⟩ := iN hf
        refine b_sld C hX hbl hbA g1087 dL_law_1087 ?_
        refine b_aload_n C dL_law_1088 rfl 1 rfl ?_
        refine b_iload C dL_law_1089 5 rfl ?_
        refine b_iconst (v := 3) C dL_law_1091 (by decide) ?_
        refine b_iadd C dL_law_1092 ?_
        obtain ⟨g1093, hf⟩ := iN hf
        refine b_sld C hX hbl hbA g1093 dL_law_1093 ?_
        obtain ⟨r1094, c1094, hf⟩ := oB hf
        refine b_callVi (K := 7) (As := [.int (xs (v4 + 1).toNatClampNeg), .int (xs (v4 + 2).toNatClampNeg), .int (xs (v4 + 3).toNatClampNeg)]) (res := r1094) C (metX7_ifAsked l G _ _ _ _ _ _ hk2 c1094) hk2 (by decide) rfl gkL_144 ekL_144 rfl ⟨rfl, rfl⟩ ⟨Nat.le_of_ble_eq_true rfl, Nat.le_of_ble_eq_true rfl⟩ (by simp [Value.category]) ⟨by show k + 2 ≤ 601024; omega, by show nn + 6 * 2 ≤ 7293034; omega⟩ rfl dL_law_1094 ?_
        refine b_istore (lv' := [(6, .int r1094.1), (5, .int r1070.1), (0, .ref b), (1, .ref (G.2.2 i1)), (2, .ref (G.2.2 i2)), (3, .ref (G.2.2 i3)), (4, .int v4)]) C dL_law_1097 (by decide) rfl ?_
        refine b_aload_n C dL_law_1099 rfl 4 rfl ?_
        obtain ⟨r1100, c1100, hf⟩ := oB hf
        refine b_callVi (K := 7) (As := []) (res := (r1100, r1094.2)) C (metX7_thrown l G _ _ _ hk2 c1100) hk2 (by decide) rfl gkL_86 ekL_86 rfl ⟨rfl, rfl⟩ ⟨Nat.le_of_ble_eq_true rfl, Nat.le_of_ble_eq_true rfl⟩ (by simp [Value.category]) ⟨by show k + 2 ≤ 601024; omega, by show nn + 6 * 2 ≤ 7293034; omega⟩ rfl dL_law_1100 ?_
        refine b_iload C dL_law_1103 1 rfl ?_
        refine b_icmp_eq (tgt := 1110) C dL_law_1105 (by decide) (fun c1105 => ?_) (fun c1105 => ?_)
        · have hf := iT c1105 hf
          refine b_iload C dL_law_1110 1 rfl ?_
          refine b_if_ne (tgt := 1127) C dL_law_1112 (by decide) (fun c1112 => ?_) (fun c1112 => ?_)
          · have hf := iF c1112 hf
            refine b_pm [2, 3, 4, 5, 6] (lv' := [(0, .ref b), (1, .ref (G.2.2 i1)), (2, .ref (G.2.2 i2)), (3, .ref (G.2.2 i3)), (4, .int v4)]) rfl ?_
            exact wL_law_b1127 C T hl hX hbl ih hk1 hk2 hk3 hf (by omega) (by omega)
          · have hf := iT c1112 hf
            refine b_aload_n C dL_law_1115 rfl 5 rfl ?_
            refine b_iconst (v := 0) C dL_law_1116 (by decide) ?_
            obtain ⟨g1117, hf⟩ := iN hf
            refine b_lald C hk3 g1117 dL_law_1117 ?_
            refine b_iload C dL_law_1118 0 rfl ?_
            refine b_i2l C dL_law_1120 ?_
            refine b_lcmp C dL_law_1121 ?_
            refine b_if_eq (tgt := 1127) C dL_law_1122 (by decide) (fun c1122 => ?_) (fun c1122 => ?_)
            · have hf := iT c1122 hf
              refine b_pm [2, 3, 4, 5, 6] (lv' := [(0, .ref b), (1, .ref (G.2.2 i1)), (2, .ref (G.2.2 i2)), (3, .ref (G.2.2 i3)), (4, .int v4)]) rfl ?_
              exact wL_law_b1127 C T hl hX hbl ih hk1 hk2 hk3 hf (by omega) (by omega)
            · have hf := iF c1122 hf
              refine b_iconst (v := 0) C dL_law_1125 (by decide) ?_
              exact absurd (Option.some.inj hf) (by decide)
        · have hf := iF c1105 hf
          refine b_iconst (v := 0) C dL_law_1108 (by decide) ?_
          exact absurd (Option.some.inj hf) (by decide)
      have hf := iF c39_17 hf
      by_cases c39_18 : ((xs v4.toNatClampNeg) &&& 31) = 18
      · have hf := iT c39_18 hf
        refine b_tabIn (kc := 18) (tgt := 1130) C (by rw [c39_18]; rfl) dL_law_39 (by decide) (by decide) rfl (by decide) ?_
        refine b_aload_n C dL_law_1130 rfl 1 rfl ?_
        refine b_aload_n C dL_law_1131 rfl 0 rfl ?_
        refine b_iload C dL_law_1132 4 rfl ?_
        refine b_iconst (v := 1) C dL_law_1134 (by decide) ?_
        refine b_iadd C dL_law_1135 ?_
        obtain ⟨g1136, hf⟩ := iN hf
        refine b_sld C hX hbl hbA g1136 dL_law_1136 ?_
        refine b_aload_n C dL_law_1137 rfl 0 rfl ?_
        refine b_iload C dL_law_1138 4 rfl ?_
        refine b_iconst (v := 2) C dL_law_1140 (by decide) ?_
        refine b_iadd C dL_law_1141 ?_
        obtain ⟨g1142, hf⟩ := iN hf
        refine b_sld C hX hbl hbA g1142 dL_law_1142 ?_
        refine b_aload_n C dL_law_1143 rfl 0 rfl ?_
        refine b_iload C dL_law_1144 4 rfl ?_
        refine b_iconst (v := 3) C dL_law_1146 (by decide) ?_
        refine b_iadd C dL_law_1147 ?_
        obtain ⟨g1148, hf⟩ := iN hf
        refine b_sld C hX hbl hbA g1148 dL_law_1148 ?_
        refine b_aload_n C dL_law_1149 rfl 3 rfl ?_
        obtain ⟨r1150, c1150, hf⟩ := oB hf
        refine b_callW (As := [.ref (G.2.2 i1), .int (xs (v4 + 1).toNatClampNeg), .int (xs (v4 + 2).toNatClampNeg), .int (xs (v4 + 3).toNatClampNeg), .ref (G.2.2 i3)]) (res := r1150) (mc1 := 2) C T (metL_ifPutOut l G _ _ _ _ _ _ _ hk1 hk3 c1150 hl) gkL_145 ekL_145 rfl ⟨rfl, rfl⟩ ⟨Nat.le_of_ble_eq_true rfl, Nat.le_of_ble_eq_true rfl⟩ (by simp [Value.category]) ⟨by show k + 2 ≤ 601024; omega, by show nn + 6 * 2 ≤ 7293034; omega⟩ rfl dL_law_1150 ?_
        refine b_istore (lv' := [(5, .int r1150.1), (0, .ref b), (1, .ref (G.2.2 i1)), (2, .ref (G.2.2 i2)), (3, .ref (G.2.2 i3)), (4, .int v4)]) C dL_law_1153 (by decide) rfl ?_
        refine b_aload_n C dL_law_1155 rfl 3 rfl ?_
        refine b_aload_n C dL_law_1156 rfl 1 rfl ?_
        refine b_iload C dL_law_1157 5 rfl ?_
        refine b_iconst (v := 1) C dL_law_1159 (by decide) ?_
        refine b_iadd C dL_law_1160 ?_
        obtain ⟨g1161, hf⟩ := iN hf
        refine b_sld C hX hbl hbA g1161 dL_law_1161 ?_
        refine b_aload_n C dL_law_1162 rfl 1 rfl ?_
        refine b_iload C dL_law_1163 5 rfl ?_
        refine b_iconst (v := 2) C dL_law_1165 (by decide) ?_
        refine b_iadd C dL_law_1166 ?_
        obtain ⟨g1167, hf⟩ := iN hf
        refine b_sld C hX hbl hbA g1167 dL_law_1167 ?_
        refine b_aload_n C dL_law_1168 rfl 1 rfl ?_
        refine b_iload C dL_law_1169 5 rfl ?_
        refine b_iconst (v := 3) C dL_law_1171 (by decide) ?_
        refine b_iadd C dL_law_1172 ?_
        obtain ⟨g1173, hf⟩ := iN hf
        refine b_sld C hX hbl hbA g1173 dL_law_1173 ?_
        obtain ⟨r1174, c1174, hf⟩ := oB hf
        refine b_callVi (K := 7) (As := [.int (xs (v4 + 1).toNatClampNeg), .int (xs (v4 + 2).toNatClampNeg), .int (xs (v4 + 3).toNatClampNeg)]) (res := r1174) C (metX7_ifPutOut l G _ _ _ _ _ _ hk2 c1174) hk2 (by decide) rfl gkL_147 ekL_147 rfl ⟨rfl, rfl⟩ ⟨Nat.le_of_ble_eq_true rfl, Nat.le_of_ble_eq_true rfl⟩ (by simp [Value.category]) ⟨by show k + 2 ≤ 601024; omega, by show nn + 6 * 2 ≤ 7293034; omega⟩ rfl dL_law_1174 ?_
        refine b_istore (lv' := [(6, .int r1174.1), (5, .int r1150.1), (0, .ref b), (1, .ref (G.2.2 i1)), (2, .ref (G.2.2 i2)), (3, .ref (G.2.2 i3)), (4, .int v4)]) C dL_law_1177 (by decide) rfl ?_
        refine b_aload_n C dL_law_1179 rfl 4 rfl ?_
        obtain ⟨r1180, c1180, hf⟩ := oB hf
        refine b_callVi (K := 7) (As := []) (res := (r1180, r1174.2)) C (metX7_thrown l G _ _ _ hk2 c1180) hk2 (by decide) rfl gkL_86 ekL_86 rfl ⟨rfl, rfl⟩ ⟨Nat.le_of_ble_eq_true rfl, Nat.le_of_ble_eq_true rfl⟩ (by simp [Value.category]) ⟨by show k + 2 ≤ 601024; omega, by show nn + 6 * 2 ≤ 7293034; omega⟩ rfl dL_law_1180 ?_
        refine b_iload C dL_law_1183 1 rfl ?_
        refine b_icmp_eq (tgt := 1190) C dL_law_1185 (by decide) (fun c1185 => ?_) (fun c1185 => ?_)
        · have hf := iT c1185 hf
          refine b_iload C dL_law_1190 1 rfl ?_
          refine b_if_ne (tgt := 1207) C dL_law_1192 (by decide) (fun c1192 => ?_) (fun c1192 => ?_)
          · have hf := iF c1192 hf
            refine b_pm [2, 3, 4, 5, 6] (lv' := [(0, .ref b), (1, .ref (G.2.2 i1)), (2, .ref (G.2.2 i2)), (3, .ref (G.2.2 i3)), (4, .int v4)]) rfl ?_
            exact wL_law_b1207 C T hl hX hbl ih hk1 hk2 hk3 hf (by omega) (by omega)
          · have hf := iT c1192 hf
            refine b_aload_n C dL_law_1195 rfl 5 rfl ?_
            refine b_iconst (v := 0) C dL_law_1196 (by decide) ?_
            obtain ⟨g1197, hf⟩ := iN hf
            refine b_lald C hk3 g1197 dL_law_1197 ?_
            refine b_iload C dL_law_1198 0 rfl ?_
            refine b_i2l C dL_law_1200 ?_
            refine b_lcmp C dL_law_1201 ?_
            refine b_if_eq (tgt := 1207) C dL_law_1202 (by decide) (fun c1202 => ?_) (fun c1202 => ?_)
            · have hf := iT c1202 hf
              refine b_pm [2, 3, 4, 5, 6] (lv' := [(0, .ref b), (1, .ref (G.2.2 i1)), (2, .ref (G.2.2 i2)), (3, .ref (G.2.2 i3)), (4, .int v4)]) rfl ?_
              exact wL_law_b1207 C T hl hX hbl ih hk1 hk2 hk3 hf (by omega) (by omega)
            · have hf := iF c1202 hf
              refine b_iconst (v := 0) C dL_law_1205 (by decide) ?_
              exact absurd (Option.some.inj hf) (by decide)
        · have hf := iF c1185 hf
          refine b_iconst (v := 0) C dL_law_1188 (by decide) ?_
          exact absurd (Option.some.inj hf) (by decide)
      have hf := iF c39_18 hf
      by_cases c39_19 : ((xs v4.toNatClampNeg) &&& 31) = 19
      · have hf := iT c39_19 hf
        refine b_tabIn (kc := 19) (tgt := 1210) C (by rw [c39_19]; rfl) dL_law_39 (by decide) (by decide) rfl (by decide) ?_
        refine b_aload_n C dL_law_1210 rfl 1 rfl ?_
        refine b_aload_n C dL_law_1211 rfl 0 rfl ?_
        refine b_iload C dL_law_1212 4 rfl ?_
        refine b_iconst (v := 1) C dL_law_1214 (by decide) ?_
        refine b_iadd C dL_law_1215 ?_
        obtain ⟨g1216, hf⟩ := iN hf
        refine b_sld C hX hbl hbA g1216 dL_law_1216 ?_
        refine b_aload_n C dL_law_1217 rfl 3 rfl ?_
        obtain ⟨r1218, c1218, hf⟩ := oB hf
        refine b_callW (As := [.ref (G.2.2 i1), .int (xs (v4 + 1).toNatClampNeg), .ref (G.2.2 i3)]) (res := r1218) (mc1 := 1) C T (metL_fewestBeds l G _ _ _ _ _ hk1 hk3 c1218 hl) gkL_148 ekL_148 rfl ⟨rfl, rfl⟩ ⟨Nat.le_of_ble_eq_true rfl, Nat.le_of_ble_eq_true rfl⟩ (by simp [Value.category]) ⟨by show k + 1 ≤ 601024; omega, by show nn + 6 * 1 ≤ 7293034; omega⟩ rfl dL_law_1218 ?_
        refine b_istore (lv' := [(5, .int r1218.1), (0, .ref b), (1, .ref (G.2.2 i1)), (2, .ref (G.2.2 i2)), (3, .ref (G.2.2 i3)), (4, .int v4)]) C dL_law_1221 (by decide) rfl ?_
        refine b_aload_n C dL_law_1223 rfl 3 rfl ?_
        refine b_aload_n C dL_law_1224 rfl 1 rfl ?_
        refine b_iload C dL_law_1225 5 rfl ?_
        refine b_iconst (v := 1) C dL_law_1227 (by decide) ?_
        refine b_iadd C dL_law_1228 ?_
        obtain ⟨g1229, hf⟩ := iN hf
        refine b_sld C hX hbl hbA g1229 dL_law_1229 ?_
        obtain ⟨r1230, c1230, hf⟩ := oB hf
        refine b_callVi (K := 7) (As := [.int (xs (v4 + 1).toNatClampNeg)]) (res := r1230) C (metX7_fewestBeds l G _ _ _ _ hk2 c1230) hk2 (by decide) rfl gkL_150 ekL_150 rfl ⟨rfl, rfl⟩ ⟨Nat.le_of_ble_eq_true rfl, Nat.le_of_ble_eq_true rfl⟩ (by simp [Value.category]) ⟨by show k + 1 ≤ 601024; omega, by show nn + 6 * 1 ≤ 7293034; omega⟩ rfl dL_law_1230 ?_
        refine b_istore (lv' := [(6, .int r1230.1), (5, .int r1218.1), (0, .ref b), (1, .ref (G.2.2 i1)), (2, .ref (G.2.2 i2)), (3, .ref (G.2.2 i3)), (4, .int v4)]) C dL_law_1233 (by decide) rfl ?_
        refine b_aload_n C dL_law_1235 rfl 4 rfl ?_
        obtain ⟨r1236, c1236, hf⟩ := oB hf
        refine b_callVi (K := 7) (As := []) (res := (r1236, r1230.2)) C (metX7_thrown l G _ _ _ hk2 c1236) hk2 (by decide) rfl gkL_86 ekL_86 rfl ⟨rfl, rfl⟩ ⟨Nat.le_of_ble_eq_true rfl, Nat.le_of_ble_eq_true rfl⟩ (by simp [Value.category]) ⟨by show k + 1 ≤ 601024; omega, by show nn + 6 * 1 ≤ 7293034; omega⟩ rfl dL_law_1236 ?_
        refine b_iload C dL_law_1239 1 rfl ?_
        refine b_icmp_eq (tgt := 1246) C dL_law_1241 (by decide) (fun c1241 => ?_) (fun c1241 => ?_)
        · have hf := iT c1241 hf
          refine b_iload C dL_law_1246 1 rfl ?_
          refine b_if_ne (tgt := 1263) C dL_law_1248 (by decide) (fun c1248 => ?_) (fun c1248 => ?_)
          · have hf := iF c1248 hf
            refine b_pm [2, 3, 4, 5, 6] (lv' := [(0, .ref b), (1, .ref (G.2.2 i1)), (2, .ref (G.2.2 i2)), (3, .ref (G.2.2 i3)), (4, .int v4)]) rfl ?_
            exact wL_law_b1263 C T hl hX hbl ih hk1 hk2 hk3 hf (by omega) (by omega)
          · have hf := iT c1248 hf
            refine b_aload_n C dL_law_1251 rfl 5 rfl ?_
            refine b_iconst (v := 0) C dL_law_1252 (by decide) ?_
            obtain ⟨g1253, hf⟩ := iN hf
            refine b_lald C hk3 g1253 dL_law_1253 ?_
            refine b_iload C dL_law_1254 0 rfl ?_
            refine b_i2l C dL_law_1256 ?_
            refine b_lcmp C dL_law_1257 ?_
            refine b_if_eq (tgt := 1263) C dL_law_1258 (by decide) (fun c1258 => ?_) (fun c1258 => ?_)
            · have hf := iT c1258 hf
              refine b_pm [2, 3, 4, 5, 6] (lv' := [(0, .ref b), (1, .ref (G.2.2 i1)), (2, .ref (G.2.2 i2)), (3, .ref (G.2.2 i3)), (4, .int v4)]) rfl ?_
              exact wL_law_b1263 C T hl hX hbl ih hk1 hk2 hk3 hf (by omega) (by omega)
            · have hf := iF c1258 hf
              refine b_iconst (v := 0) C dL_law_1261 (by decide) ?_
              exact absurd (Option.some.inj hf) (by decide)
        · have hf := iF c1241 hf
          refine b_iconst (v := 0) C dL_law_1244 (by decide) ?_
          exact absurd (Option.some.inj hf) (by decide)
      have hf := iF c39_19 hf
      by_cases c39_20 : ((xs v4.toNatClampNeg) &&& 31) = 20
      · have hf := iT c39_20 hf
        refine b_tabIn (kc := 20) (tgt := 1266) C (by rw [c39_20]; rfl) dL_law_39 (by decide) (by decide) rfl (by decide) ?_
        refine b_aload_n C dL_law_1266 rfl 1 rfl ?_
        refine b_aload_n C dL_law_1267 rfl 0 rfl ?_
        refine b_iload C dL_law_1268 4 rfl ?_
        refine b_iconst (v := 1) C dL_law_1270 (by decide) ?_
        refine b_iadd C dL_law_1271 ?_
        obtain ⟨g1272, hf⟩ := iN hf
        refine b_sld C hX hbl hbA g1272 dL_law_1272 ?_
        refine b_aload_n C dL_law_1273 rfl 0 rfl ?_
        refine b_iload C dL_law_1274 4 rfl ?_
        refine b_iconst (v := 2) C dL_law_1276 (by decide) ?_
        refine b_iadd C dL_law_1277 ?_
        obtain ⟨g1278, hf⟩ := iN hf
        refine b_sld C hX hbl hbA g1278 dL_law_1278 ?_
        refine b_aload_n C dL_law_1279 rfl 3 rfl ?_
        obtain ⟨r1280, c1280, hf⟩ := oB hf
        refine b_callW (As := [.ref (G.2.2 i1), .int (xs (v4 + 1).toNatClampNeg), .int (xs (v4 + 2).toNatClampNeg), .ref (G.2.2 i3)]) (res := r1280) (mc1 := 2) C T (metL_longest l G _ _ _ _ _ _ hk1 hk3 c1280 hl) gkL_151 ekL_151 rfl ⟨rfl, rfl⟩ ⟨Nat.le_of_ble_eq_true rfl, Nat.le_of_ble_eq_true rfl⟩ (by simp [Value.category]) ⟨by show k + 2 ≤ 601024; omega, by show nn + 6 * 2 ≤ 7293034; omega⟩ rfl dL_law_1280 ?_
        refine b_istore (lv' := [(5, .int r1280.1), (0, .ref b), (1, .ref (G.2.2 i1)), (2, .ref (G.2.2 i2)), (3, .ref (G.2.2 i3)), (4, .int v4)]) C dL_law_1283 (by decide) rfl ?_
        refine b_aload_n C dL_law_1285 rfl 3 rfl ?_
        refine b_aload_n C dL_law_1286 rfl 1 rfl ?_
        refine b_iload C dL_law_1287 5 rfl ?_
        refine b_iconst (v := 1) C dL_law_1289 (by decide) ?_
        refine b_iadd C dL_law_1290 ?_
        obtain ⟨g1291, hf⟩ := iN hf
        refine b_sld C hX hbl hbA g1291 dL_law_1291 ?_
        refine b_aload_n C dL_law_1292 rfl 1 rfl ?_
        refine b_iload C dL_law_1293 5 rfl ?_
        refine b_iconst (v := 2) C dL_law_1295 (by decide) ?_
        refine b_iadd C dL_law_1296 ?_
        obtain ⟨g1297, hf⟩ := iN hf
        refine b_sld C hX hbl hbA g1297 dL_law_1297 ?_
        obtain ⟨r1298, c1298, hf⟩ := oB hf
        refine b_callVi (K := 7) (As := [.int (xs (v4 + 1).toNatClampNeg), .int (xs (v4 + 2).toNatClampNeg)]) (res := r1298) C (metX7_longest l G _ _ _ _ _ hk2 c1298) hk2 (by decide) rfl gkL_153 ekL_153 rfl ⟨rfl, rfl⟩ ⟨Nat.le_of_ble_eq_true rfl, Nat.le_of_ble_eq_true rfl⟩ (by simp [Value.category]) ⟨by show k + 2 ≤ 601024; omega, by show nn + 6 * 2 ≤ 7293034; omega⟩ rfl dL_law_1298 ?_
        refine b_istore (lv' := [(6, .int r1298.1), (5, .int r1280.1), (0, .ref b), (1, .ref (G.2.2 i1)), (2, .ref (G.2.2 i2)), (3, .ref (G.2.2 i3)), (4, .int v4)]) C dL_law_1301 (by decide) rfl ?_
        refine b_aload_n C dL_law_1303 rfl 4 rfl ?_
        obtain ⟨r1304, c1304, hf⟩ := oB hf
        refine b_callVi (K := 7) (As := []) (res := (r1304, r1298.2)) C (metX7_thrown l G _ _ _ hk2 c1304) hk2 (by decide) rfl gkL_86 ekL_86 rfl ⟨rfl, rfl⟩ ⟨Nat.le_of_ble_eq_true rfl, Nat.le_of_ble_eq_true rfl⟩ (by simp [Value.category]) ⟨by show k + 2 ≤ 601024; omega, by show nn + 6 * 2 ≤ 7293034; omega⟩ rfl dL_law_1304 ?_
        refine b_iload C dL_law_1307 1 rfl ?_
        refine b_icmp_eq (tgt := 1314) C dL_law_1309 (by decide) (fun c1309 => ?_) (fun c1309 => ?_)
        · have hf := iT c1309 hf
          refine b_iload C dL_law_1314 1 rfl ?_
          refine b_if_ne (tgt := 1331) C dL_law_1316 (by decide) (fun c1316 => ?_) (fun c1316 => ?_)
          · have hf := iF c1316 hf
            refine b_pm [2, 3, 4, 5, 6] (lv' := [(0, .ref b), (1, .ref (G.2.2 i1)), (2, .ref (G.2.2 i2)), (3, .ref (G.2.2 i3)), (4, .int v4)]) rfl ?_
            exact wL_law_b1331 C T hl hX hbl ih hk1 hk2 hk3 hf (by omega) (by omega)
          · have hf := iT c1316 hf
            refine b_aload_n C dL_law_1319 rfl 5 rfl ?_
            refine b_iconst (v := 0) C dL_law_1320 (by decide) ?_
            obtain ⟨g1321, hf⟩ := iN hf
            refine b_lald C hk3 g1321 dL_law_1321 ?_
            refine b_iload C dL_law_1322 0 rfl ?_
            refine b_i2l C dL_law_1324 ?_
            refine b_lcmp C dL_law_1325 ?_
            refine b_if_eq (tgt := 1331) C dL_law_1326 (by decide) (fun c1326 => ?_) (fun c1326 => ?_)
            · have hf := iT c1326 hf
              refine b_pm [2, 3, 4, 5, 6] (lv' := [(0, .ref b), (1, .ref (G.2.2 i1)), (2, .ref (G.2.2 i2)), (3, .ref (G.2.2 i3)), (4, .int v4)]) rfl ?_
              exact wL_law_b1331 C T hl hX hbl ih hk1 hk2 hk3 hf (by omega) (by omega)
            · have hf := iF c1326 hf
              refine b_iconst (v := 0) C dL_law_1329 (by decide) ?_
              exact absurd (Option.some.inj hf) (by decide)
        · have hf := iF c1309 hf
          refine b_iconst (v := 0) C dL_law_1312 (by decide) ?_
          exact absurd (Option.some.inj hf) (by decide)
      have hf := iF c39_20 hf
      by_cases c39_21 : ((xs v4.toNatClampNeg) &&& 31) = 21
      · have hf := iT c39_21 hf
        refine b_tabIn (kc := 21) (tgt := 1334) C (by rw [c39_21]; rfl) dL_law_39 (by decide) (by decide) rfl (by decide) ?_
        refine b_aload_n C dL_law_1334 rfl 1 rfl ?_
        obtain ⟨r1335, c1335, hf⟩ := oB hf
        refine b_callVi (K := 6) (As := []) (res := (r1335, x)) C (metX6_poorest l G _ _ _ hk1 c1335) hk1 (by decide) rfl gkL_154 ekL_154 rfl ⟨rfl, rfl⟩ ⟨Nat.le_of_ble_eq_true rfl, Nat.le_of_ble_eq_true rfl⟩ (by simp [Value.category]) ⟨by show k ≤ 601024; omega, by show nn ≤ 7293034; omega⟩ rfl dL_law_1335 ?_
        refine b_aload_n C dL_law_1338 rfl 2 rfl ?_
        obtain ⟨r1339, c1339, hf⟩ := oB hf
        refine b_callVi (K := 7) (As := []) (res := r1339) C (metX7_poorest l G _ _ _ hk2 c1339) hk2 (by decide) rfl gkL_157 ekL_157 rfl ⟨rfl, rfl⟩ ⟨Nat.le_of_ble_eq_true rfl, Nat.le_of_ble_eq_true rfl⟩ (by simp [Value.category]) ⟨by show k ≤ 601024; omega, by show nn ≤ 7293034; omega⟩ rfl dL_law_1339 ?_
        refine b_icmp_eq (tgt := 1402) C dL_law_1342 (by decide) (fun c1342 => ?_) (fun c1342 => ?_)
        · have hf := iT c1342 hf
          exact wL_law_b1402 C T hl hX hbl ih hk1 hk2 hk3 hf (by omega) (by omega)
        · have hf := iF c1342 hf
          refine b_iconst (v := 0) C dL_law_1345 (by decide) ?_
          exact absurd (Option.some.inj hf) (by decide)
      have hf := iF c39_21 hf
      by_cases c39_22 : ((xs v4.toNatClampNeg) &&& 31) = 22
      · have hf := iT c39_22 hf
        refine b_tabIn (kc := 22) (tgt := 1347) C (by rw [c39_22]; rfl) dL_law_39 (by decide) (by decide) rfl (by decide) ?_
        refine b_aload_n C dL_law_1347 rfl 1 rfl ?_
        obtain ⟨r1348, c1348, hf⟩ := oB hf
        refine b_callVd (K := 6) (As := []) (res := (r1348, x)) C (metX6_fullness l G _ _ _ hk1 c1348) hk1 (by decide) rfl gkL_158 ekL_158 rfl ⟨rfl, rfl⟩ ⟨Nat.le_of_ble_eq_true rfl, Nat.le_of_ble_eq_true rfl⟩ (by simp [Value.category]) ⟨by show k ≤ 601024; omega, by show nn ≤ 7293034; omega⟩ rfl dL_law_1348 ?_
        refine b_dstore (lv' := [(5, .double r1348), (0, .ref b), (1, .ref (G.2.2 i1)), (2, .ref (G.2.2 i2)), (3, .ref (G.2.2 i3)), (4, .int v4)]) C dL_law_1351 (by decide) rfl ?_
        refine b_aload_n C dL_law_1353 rfl 3 rfl ?_
        obtain ⟨r1354, c1354, hf⟩ := oB hf
        refine b_callVd (K := 7) (As := []) (res := r1354) C (metX7_fullness l G _ _ _ hk2 c1354) hk2 (by decide) rfl gkL_162 ekL_162 rfl ⟨rfl, rfl⟩ ⟨Nat.le_of_ble_eq_true rfl, Nat.le_of_ble_eq_true rfl⟩ (by simp [Value.category]) ⟨by show k ≤ 601024; omega, by show nn ≤ 7293034; omega⟩ rfl dL_law_1354 ?_
        refine b_dstore (lv' := [(7, .double r1354.1), (5, .double r1348), (0, .ref b), (1, .ref (G.2.2 i1)), (2, .ref (G.2.2 i2)), (3, .ref (G.2.2 i3)), (4, .int v4)]) C dL_law_1357 (by decide) rfl ?_
        refine b_dload C dL_law_1359 1 rfl ?_
        refine b_dload C dL_law_1361 0 rfl ?_
        refine b_dcmp C dL_law_1363 ?_
        refine b_if_eq (tgt := 1385) C dL_law_1364 (by decide) (fun c1364 => ?_) (fun c1364 => ?_)
        · have hf := iT c1364 hf
          refine b_pm [2, 3, 4, 5, 6] (lv' := [(0, .ref b), (1, .ref (G.2.2 i1)), (2, .ref (G.2.2 i2)), (3, .ref (G.2.2 i3)), (4, .int v4)]) rfl ?_
          exact wL_law_b1385 C T hl hX hbl ih hk1 hk2 hk3 hf (by omega) (by omega)
        · have hf := iF c1364 hf
          refine b_dload C dL_law_1367 1 rfl ?_
          refine b_dload C dL_law_1369 1 rfl ?_
          refine b_dcmp C dL_law_1371 ?_
          refine b_if_eq (tgt := 1383) C dL_law_1372 (by decide) (fun c1372 => ?_) (fun c1372 => ?_)
          · have hf := iT c1372 hf
            refine b_pm [2, 3, 4, 5] (lv' := [(0, .ref b), (1, .ref (G.2.2 i1)), (2, .ref (G.2.2 i2)), (3, .ref (G.2.2 i3))]) rfl ?_
            exact wL_law_b1383 C T hl hX hbl  hk1 hk2 hk3 hf (by omega) (by omega)
          · have hf := iF c1372 hf
            refine b_dload C dL_law_1375 0 rfl ?_
            refine b_dload C dL_law_1377 0 rfl ?_
            refine b_dcmp C dL_law_1379 ?_
            refine b_if_ne (tgt := 1385) C dL_law_1380 (by decide) (fun c1380 => ?_) (fun c1380 => ?_)
            · have hf := iF c1380 hf
              refine b_pm [2, 3, 4, 5, 6] (lv' := [(0, .ref b), (1, .ref (G.2.2 i1)), (2, .ref (G.2.2 i2)), (3, .ref (G.2.2 i3)), (4, .int v4)]) rfl ?_
              exact wL_law_b1385 C T hl hX hbl ih hk1 hk2 hk3 hf (by omega) (by omega)
            · have hf := iT c1380 hf
              refine b_pm [2, 3, 4, 5] (lv' := [(0, .ref b), (1, .ref (G.2.2 i1)), (2, .ref (G.2.2 i2)), (3, .ref (G.2.2 i3))]) rfl ?_
              exact wL_law_b1383 C T hl hX hbl  hk1 hk2 hk3 hf (by omega) (by omega)
      have hf := iF c39_22 hf
      by_cases c39_23 : ((xs v4.toNatClampNeg) &&& 31) = 23
      · have hf := iT c39_23 hf
        refine b_tabIn (kc := 23) (tgt := 1388) C (by rw [c39_23]; rfl) dL_law_39 (by decide) (by decide) rfl (by decide) ?_
        refine b_aload_n C dL_law_1388 rfl 1 rfl ?_
        obtain ⟨r1389, c1389, hf⟩ := oB hf
        refine b_callVl (K := 6) (As := []) (res := r1389) C (metX6_digest l G _ _ _ hk1 c1389) hk1 (by decide) rfl gkL_163 ekL_163 rfl ⟨rfl, rfl⟩ ⟨Nat.le_of_ble_eq_true rfl, Nat.le_of_ble_eq_true rfl⟩ (by simp [Value.category]) ⟨by show k ≤ 601024; omega, by show nn ≤ 7293034; omega⟩ rfl dL_law_1389 ?_
        refine b_aload_n C dL_law_1392 rfl 2 rfl ?_
        obtain ⟨r1393, c1393, hf⟩ := oB hf
        refine b_callVl (K := 7) (As := []) (res := r1393) C (metX7_digest l G _ _ _ hk2 c1393) hk2 (by decide) rfl gkL_167 ekL_167 rfl ⟨rfl, rfl⟩ ⟨Nat.le_of_ble_eq_true rfl, Nat.le_of_ble_eq_true rfl⟩ (by simp [Value.category]) ⟨by show k ≤ 601024; omega, by show nn ≤ 7293034; omega⟩ rfl dL_law_1393 ?_
        refine b_lcmp C dL_law_1396 ?_
        refine b_if_eq (tgt := 1402) C dL_law_1397 (by decide) (fun c1397 => ?_) (fun c1397 => ?_)
        · have hf := iT c1397 hf
          exact wL_law_b1402 C T hl hX hbl ih hk1 hk2 hk3 hf (by omega) (by omega)
        · have hf := iF c1397 hf
          refine b_iconst (v := 0) C dL_law_1400 (by decide) ?_
          exact absurd (Option.some.inj hf) (by decide)
      have hf := iF c39_23 hf
      refine b_tabOut (tgt := 1402) C (tsw24 c39_0 c39_1 c39_2 c39_3 c39_4 c39_5 c39_6 c39_7 c39_8 c39_9 c39_10 c39_11 c39_12 c39_13 c39_14 c39_15 c39_16 c39_17 c39_18 c39_19 c39_20 c39_21 c39_22 c39_23) dL_law_39 (by decide) ?_
      exact wL_law_b1402 C T hl hX hbl ih hk1 hk2 hk3 hf (by omega) (by omega)
end
