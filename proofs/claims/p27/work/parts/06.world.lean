/-! the words that every method of the walk may use: those of the tables that a callee may take over -/
def AW : List Cond := lw_tbl.filter goodWord
theorem AW_good : GoodIn AW AW := fun _ h => ⟨h, good_of_word (List.mem_filter.mp h).2⟩
theorem AW_of {w : Cond} (h : w ∈ lw_tbl) (g : goodWord w = true) : w ∈ AW := List.mem_filter.mpr ⟨h, g⟩
theorem AW_tbl {w : Cond} (h : w ∈ AW) : w ∈ lw_tbl := (List.mem_filter.mp h).1
abbrev ws_ (y : MethodName) (b : ByteArray) (n : Nat) (r : Option FieldType) : List Cond := Cond.code y b n r :: AW
theorem gw_ws {y : MethodName} {b : ByteArray} {n : Nat} {r : Option FieldType} (h4 : Cond.code y b n r ∈ AW) : GoodIn AW (ws_ y b n r) := by
  intro w hw
  rcases List.mem_cons.mp hw with rfl | hw
  · exact AW_good _ h4
  · exact AW_good _ hw
theorem gw_S {own : String} {idx : Nat} {y : MethodName} {b : ByteArray} {n : Nat} {r : Option FieldType} (h1 : Cond.methodLink own idx y ∈ AW) (h2 : Cond.static y ∈ AW) (h3 : Cond.initialized y.cls ∈ AW) (h4 : Cond.code y b n r ∈ AW) : GoodIn AW (va_wsS own idx y (ws_ y b n r)) := by
  intro w hw
  rcases List.mem_append.mp hw with hw | hw
  · simp only [List.mem_cons, List.not_mem_nil, or_false] at hw
    rcases hw with rfl | rfl | rfl
    · exact AW_good _ h1
    · exact AW_good _ h2
    · exact AW_good _ h3
  · exact gw_ws h4 _ hw
theorem gw_V {own C : String} {idx : Nat} {y : MethodName} {b : ByteArray} {n : Nat} {r : Option FieldType} (h1 : Cond.methodLink own idx y ∈ AW) (h2 : Cond.instanceMethod y ∈ AW) (h0 : Cond.selects C y y ∈ AW) (h3 : Cond.initialized C ∈ AW) (h4 : Cond.code y b n r ∈ AW) : GoodIn AW (wsV own idx C y (ws_ y b n r)) := by
  intro w hw
  rcases List.mem_append.mp hw with hw | hw
  · simp only [List.mem_cons, List.not_mem_nil, or_false] at hw
    rcases hw with rfl | rfl | rfl | rfl
    · exact AW_good _ h1
    · exact AW_good _ h2
    · exact AW_good _ h0
    · exact AW_good _ h3
  · exact gw_ws h4 _ hw
/-! the pool: 203 things, by number; what changes is a number in x.1 (ints, by thing and place) or x.2 (longs) -/
abbrev xS : Type := (Nat → Nat → Int32) × (Nat → Nat → Int64)
/-- the machine's numbers: classes and slots; array classes, the list of things that are there; addresses -/
abbrev gT : Type := va_G × ((Nat → ClassId) × List Nat) × (Nat → Nat)
def kdT : List Nat := [6, 3, 4, 2, 8, 2, 8, 2, 8, 2, 8, 5, 10, 9, 3, 4, 2, 8, 2, 8, 2, 8, 2, 8, 3, 4, 2, 8, 2, 8, 2, 8, 2, 8, 5, 10, 9, 3, 4, 2, 8, 2, 8, 2, 8, 2, 8, 3, 4, 2, 8, 2, 8, 2, 8, 2, 8, 3, 4, 2, 8, 2, 8, 2, 8, 2, 8, 3, 4, 2, 8, 2, 8, 2, 8, 2, 8, 3, 4, 2, 8, 2, 8, 2, 8, 2, 8, 3, 4, 2, 8, 2, 8, 2, 8, 2, 8, 1, 8, 0, 8, 6, 3, 4, 2, 8, 2, 8, 2, 8, 2, 8, 5, 10, 9, 3, 4, 2, 8, 2, 8, 2, 8, 2, 8, 3, 4, 2, 8, 2, 8, 2, 8, 2, 8, 5, 10, 9, 3, 4, 2, 8, 2, 8, 2, 8, 2, 8, 3, 4, 2, 8, 2, 8, 2, 8, 2, 8, 3, 4, 2, 8, 2, 8, 2, 8, 2, 8, 3, 4, 2, 8, 2, 8, 2, 8, 2, 8, 3, 4, 2, 8, 2, 8, 2, 8, 2, 8, 3, 4, 2, 8, 2, 8, 2, 8, 2, 8, 1, 8, 0, 8, 8]
def lnT : List Nat := [0, 0, 0, 0, 48, 0, 70, 0, 12, 0, 5, 0, 2, 2, 0, 0, 0, 48, 0, 70, 0, 12, 0, 5, 0, 0, 0, 48, 0, 70, 0, 12, 0, 5, 0, 6, 6, 0, 0, 0, 48, 0, 70, 0, 12, 0, 5, 0, 0, 0, 48, 0, 70, 0, 12, 0, 5, 0, 0, 0, 48, 0, 70, 0, 12, 0, 5, 0, 0, 0, 48, 0, 70, 0, 12, 0, 5, 0, 0, 0, 48, 0, 70, 0, 12, 0, 5, 0, 0, 0, 48, 0, 70, 0, 12, 0, 5, 0, 4, 0, 60, 0, 0, 0, 0, 48, 0, 70, 0, 12, 0, 5, 0, 2, 2, 0, 0, 0, 48, 0, 70, 0, 12, 0, 5, 0, 0, 0, 48, 0, 70, 0, 12, 0, 5, 0, 6, 6, 0, 0, 0, 48, 0, 70, 0, 12, 0, 5, 0, 0, 0, 48, 0, 70, 0, 12, 0, 5, 0, 0, 0, 48, 0, 70, 0, 12, 0, 5, 0, 0, 0, 48, 0, 70, 0, 12, 0, 5, 0, 0, 0, 48, 0, 70, 0, 12, 0, 5, 0, 0, 0, 48, 0, 70, 0, 12, 0, 5, 0, 4, 0, 60, 1]
def rrT : List Int32 := [0, 0, 0, 4, 0, 10, 0, 1, 0, 1, 0, 0, 0, 0, 0, 0, 4, 0, 10, 0, 1, 0, 1, 0, 0, 0, 4, 0, 10, 0, 1, 0, 1, 0, 0, 0, 0, 0, 0, 4, 0, 10, 0, 1, 0, 1, 0, 0, 0, 4, 0, 10, 0, 1, 0, 1, 0, 0, 0, 4, 0, 10, 0, 1, 0, 1, 0, 0, 0, 4, 0, 10, 0, 1, 0, 1, 0, 0, 0, 4, 0, 10, 0, 1, 0, 1, 0, 0, 0, 4, 0, 10, 0, 1, 0, 1, 0, 0, 0, 0, 0, 0, 0, 0, 4, 0, 10, 0, 1, 0, 1, 0, 0, 0, 0, 0, 0, 4, 0, 10, 0, 1, 0, 1, 0, 0, 0, 4, 0, 10, 0, 1, 0, 1, 0, 0, 0, 0, 0, 0, 4, 0, 10, 0, 1, 0, 1, 0, 0, 0, 4, 0, 10, 0, 1, 0, 1, 0, 0, 0, 4, 0, 10, 0, 1, 0, 1, 0, 0, 0, 4, 0, 10, 0, 1, 0, 1, 0, 0, 0, 4, 0, 10, 0, 1, 0, 1, 0, 0, 0, 4, 0, 10, 0, 1, 0, 1, 0, 0, 0, 0, 0, 0]
def ccT : List Int32 := [0, 0, 0, 12, 0, 7, 0, 12, 0, 5, 0, 0, 0, 0, 0, 0, 12, 0, 7, 0, 12, 0, 5, 0, 0, 0, 12, 0, 7, 0, 12, 0, 5, 0, 0, 0, 0, 0, 0, 12, 0, 7, 0, 12, 0, 5, 0, 0, 0, 12, 0, 7, 0, 12, 0, 5, 0, 0, 0, 12, 0, 7, 0, 12, 0, 5, 0, 0, 0, 12, 0, 7, 0, 12, 0, 5, 0, 0, 0, 12, 0, 7, 0, 12, 0, 5, 0, 0, 0, 12, 0, 7, 0, 12, 0, 5, 0, 0, 0, 0, 0, 0, 0, 0, 12, 0, 7, 0, 12, 0, 5, 0, 0, 0, 0, 0, 0, 12, 0, 7, 0, 12, 0, 5, 0, 0, 0, 12, 0, 7, 0, 12, 0, 5, 0, 0, 0, 0, 0, 0, 12, 0, 7, 0, 12, 0, 5, 0, 0, 0, 12, 0, 7, 0, 12, 0, 5, 0, 0, 0, 12, 0, 7, 0, 12, 0, 5, 0, 0, 0, 12, 0, 7, 0, 12, 0, 5, 0, 0, 0, 12, 0, 7, 0, 12, 0, 5, 0, 0, 0, 12, 0, 7, 0, 12, 0, 5, 0, 0, 0, 0, 0, 0]
def kd (i : Nat) : Nat := kdT.getD i 99
def ln (i : Nat) : Nat := lnT.getD i 0
def gR (i : Nat) : Int32 := rrT.getD i 0
def gC (i : Nat) : Int32 := ccT.getD i 0
/-- a thing that is there, of a kind -/
def KD (G : gT) (i K : Nat) : Prop := i ∈ G.2.1.2 ∧ kd i = K
/-- with a thing all is there that it leads to -/
def CL (G : gT) : Prop := ∀ i, i ∈ G.2.1.2 → i < 203 ∧ (kd i = 0 → i + 1 ∈ G.2.1.2) ∧ (kd i = 1 → i + 1 ∈ G.2.1.2) ∧ (kd i = 2 → i + 1 ∈ G.2.1.2) ∧ (kd i = 3 → i + 1 ∈ G.2.1.2 ∧ i + 4 ∈ G.2.1.2 ∧ i + 6 ∈ G.2.1.2 ∧ i + 8 ∈ G.2.1.2) ∧ (kd i = 4 → i + 1 ∈ G.2.1.2) ∧ (kd i = 5 → i + 1 ∈ G.2.1.2 ∧ i + 2 ∈ G.2.1.2) ∧ (kd i = 6 → i + 1 ∈ G.2.1.2 ∧ i + 11 ∈ G.2.1.2 ∧ i + 34 ∈ G.2.1.2 ∧ i + 97 ∈ G.2.1.2 ∧ i + 99 ∈ G.2.1.2) ∧ (kd i = 7 → True) ∧ (kd i = 10 → ∀ k, k < ln i → i + 2 + 10 * k ∈ G.2.1.2)
/-- the fields of an object -/
def gF (G : gT) (x : xS) (i K : Nat) : List Value := match K with
  | 0 => [.ref (G.2.2 (i + 1)), .int (x.1 i 1)]
  | 1 => [.ref (G.2.2 (i + 1))]
  | 2 => [.int (gR i), .int (gC i), .ref (G.2.2 (i + 1))]
  | 3 => [.ref (G.2.2 (i + 1)), .ref (G.2.2 (i + 4)), .ref (G.2.2 (i + 6)), .ref (G.2.2 (i + 8))]
  | 4 => [.ref (G.2.2 (i + 1)), .int (x.1 i 1)]
  | 5 => [.ref (G.2.2 (i + 1)), .ref (G.2.2 (i + 2))]
  | 6 => [.ref (G.2.2 (i + 1)), .ref (G.2.2 (i + 11)), .ref (G.2.2 (i + 34)), .ref (G.2.2 (i + 97)), .ref (G.2.2 (i + 99)), .int (x.1 i 5), .int (x.1 i 6)]
  | _ => []
def gE (G : gT) (x : xS) (i : Nat) : va_E := match kd i with
  | 8 => .inl (G.2.1.1 0, ln i, .inl (x.1 i))
  | 9 => .inl (G.2.1.1 1, ln i, .inl (x.1 i))
  | 10 => .inl (G.2.1.1 2, ln i, .inr (.inr (.inr (.inr (fun k => some (G.2.2 (i + 2 + 10 * k)))))))
  | 11 => .inl (G.2.1.1 3, ln i, .inr (.inl (x.2 i)))
  | K => .inr (K, gF G x i K)
theorem gE_obj {G : gT} {x : xS} {i K : Nat} (h : kd i = K) (hK : K < 8) : gE G x i = .inr (K, gF G x i K) := by
  unfold gE
  rw [h]
  match K, hK with
  | 0, _ => rfl
  | 1, _ => rfl
  | 2, _ => rfl
  | 3, _ => rfl
  | 4, _ => rfl
  | 5, _ => rfl
  | 6, _ => rfl
  | 7, _ => rfl
theorem gE_8 {G : gT} {x : xS} {i : Nat} (h : kd i = 8) : gE G x i = .inl (G.2.1.1 0, ln i, .inl (x.1 i)) := by
  unfold gE
  rw [h]
  rfl
theorem gE_9 {G : gT} {x : xS} {i : Nat} (h : kd i = 9) : gE G x i = .inl (G.2.1.1 1, ln i, .inl (x.1 i)) := by
  unfold gE
  rw [h]
  rfl
theorem gE_10 {G : gT} {x : xS} {i : Nat} (h : kd i = 10) : gE G x i = .inl (G.2.1.1 2, ln i, .inr (.inr (.inr (.inr (fun k => some (G.2.2 (i + 2 + 10 * k))))))) := by
  unfold gE
  rw [h]
  rfl
theorem gE_11 {G : gT} {x : xS} {i : Nat} (h : kd i = 11) : gE G x i = .inl (G.2.1.1 3, ln i, .inr (.inl (x.2 i))) := by
  unfold gE
  rw [h]
  rfl
theorem gF_congr {G : gT} {x y : xS} {i K : Nat} (h1 : x.1 i = y.1 i) (h2 : x.2 i = y.2 i) : gF G x i K = gF G y i K := by
  unfold gF
  rw [h1]
theorem gE_congr {G : gT} {x y : xS} {i : Nat} (h1 : x.1 i = y.1 i) (h2 : x.2 i = y.2 i) : gE G x i = gE G y i := by
  have hF : ∀ K, gF G x i K = gF G y i K := fun K => gF_congr h1 h2
  unfold gE
  rw [h1, h2]
  simp only [hF]
def wl (G : gT) (x : xS) : va_W := G.2.1.2.map (fun i => (G.2.2 i, gE G x i))
theorem wl_get (G : gT) (x : xS) {i : Nat} (h : i ∈ G.2.1.2) : ∃ k : Nat, G.2.1.2[k]? = some i ∧ (wl G x)[k]? = some (G.2.2 i, gE G x i) := by
  obtain ⟨k, hk⟩ := List.getElem?_of_mem h
  exact ⟨k, hk, by simp [wl, hk]⟩
theorem wl_inv {G : gT} {x : xS} {k : Nat} {q : Nat × va_E} (h : (wl G x)[k]? = some q) : ∃ i, G.2.1.2[k]? = some i ∧ i ∈ G.2.1.2 ∧ q = (G.2.2 i, gE G x i) := by
  simp only [wl, List.getElem?_map, Option.map_eq_some_iff] at h
  obtain ⟨i, h1, h2⟩ := h
  exact ⟨i, h1, List.mem_of_getElem? h1, h2.symm⟩
theorem nd_idx {l : List Nat} (h : l.Nodup) {a b i : Nat} (ha : l[a]? = some i) (hb : l[b]? = some i) : a = b := by
  obtain ⟨h1, e1⟩ := List.getElem?_eq_some_iff.mp ha
  obtain ⟨h2, e2⟩ := List.getElem?_eq_some_iff.mp hb
  have hp := List.pairwise_iff_getElem.mp h
  rcases Nat.lt_trichotomy a b with q | q | q
  · exact absurd (e1.trans e2.symm) (hp a b h1 h2 q)
  · exact q
  · exact absurd (e2.trans e1.symm) (hp b a h2 h1 q)
theorem wl_set {G : gT} {x y : xS} {i k : Nat} {e : va_E} (hn : G.2.1.2.Nodup) (hi : G.2.1.2[k]? = some i) (he : gE G y i = e) (h1 : ∀ j, j ≠ i → x.1 j = y.1 j) (h2 : ∀ j, j ≠ i → x.2 j = y.2 j) : (wl G x).set k (G.2.2 i, e) = wl G y := by
  apply List.ext_getElem?
  intro j
  rw [List.getElem?_set]
  by_cases hj : k = j
  · subst hj
    have hlt : k < (wl G x).length := by simp only [wl, List.length_map]; exact (List.getElem?_eq_some_iff.mp hi).1
    rw [if_pos rfl, if_pos hlt]
    simp [wl, hi, he]
  · rw [if_neg hj]
    simp only [wl, List.getElem?_map]
    cases hq : G.2.1.2[j]? with
    | none => rfl
    | some z =>
      have hz : z ≠ i := fun e => hj (nd_idx hn hi (e ▸ hq))
      simp only [Option.map_some]
      rw [gE_congr (h1 z hz) (h2 z hz)]
/-- a row of ints is changed whole; at one place; a long at one place -/
def upR (x : xS) (i : Nat) (f : Nat → Int32) : xS := (fun j => if j = i then f else x.1 j, x.2)
def up1 (x : xS) (i k : Nat) (v : Int32) : xS := upR x i (upd (x.1 i) k v)
def up2 (x : xS) (i k : Nat) (v : Int64) : xS := (x.1, fun j => if j = i then vp_updL (x.2 i) k v else x.2 j)
theorem upR_same (x : xS) (i : Nat) (f : Nat → Int32) : (upR x i f).1 i = f := if_pos rfl
theorem upR_other (x : xS) {i j : Nat} (f : Nat → Int32) (h : j ≠ i) : (upR x i f).1 j = x.1 j := if_neg h
theorem upR_2 (x : xS) (i : Nat) (f : Nat → Int32) : (upR x i f).2 = x.2 := rfl
theorem up2_same (x : xS) (i k : Nat) (v : Int64) : (up2 x i k v).2 i = vp_updL (x.2 i) k v := if_pos rfl
theorem up2_other (x : xS) {i j : Nat} (k : Nat) (v : Int64) (h : j ≠ i) : (up2 x i k v).2 j = x.2 j := if_neg h
theorem up2_1 (x : xS) (i k : Nat) (v : Int64) : (up2 x i k v).1 = x.1 := rfl
theorem wl_upR {G : gT} {x : xS} {i k : Nat} {e : va_E} {f : Nat → Int32} (hn : G.2.1.2.Nodup) (hi : G.2.1.2[k]? = some i) (he : gE G (upR x i f) i = e) : (wl G x).set k (G.2.2 i, e) = wl G (upR x i f) :=
  wl_set hn hi he (fun _ hj => (upR_other x f hj).symm) (fun _ _ => rfl)
theorem wl_up2 {G : gT} {x : xS} {i k q : Nat} {e : va_E} {v : Int64} (hn : G.2.1.2.Nodup) (hi : G.2.1.2[q]? = some i) (he : gE G (up2 x i k v) i = e) : (wl G x).set q (G.2.2 i, e) = wl G (up2 x i k v) :=
  wl_set hn hi he (fun _ _ => rfl) (fun _ hj => (up2_other x k v hj).symm)
def inj (G : gT) : Prop := (∀ i j : Nat, i ∈ G.2.1.2 → j ∈ G.2.1.2 → G.2.2 i = G.2.2 j → i = j) ∧ G.2.1.2.Nodup ∧ CL G
def DD (G : gT) (A : Nat → Prop) : Prop := inj G ∧ ∀ i : Nat, i ∈ G.2.1.2 → A (G.2.2 i)
theorem wl_D {G : gT} {A : Nat → Prop} (h : DD G A) (x : xS) : va_D A (wl G x) := by
  refine ⟨fun a b p q hp hq hpq => ?_, fun k q hk => ?_⟩
  · obtain ⟨i, h1, m1, rfl⟩ := wl_inv hp
    obtain ⟨j, h2, m2, rfl⟩ := wl_inv hq
    have e := h.1.1 i j m1 m2 hpq
    subst e
    exact nd_idx h.1.2.1 h1 h2
  · obtain ⟨i, h1, m1, rfl⟩ := wl_inv hk
    exact h.2 i m1
abbrev tyG (G : gT) : List (ClassId × FieldType) := [(G.2.1.1 0, .int), (G.2.1.1 1, .boolean), (G.2.1.1 2, .object "SevenAsks$House")]
/-- the two private members of a nest mate that a method uses -/
def NW (U : State) : Prop := va_Nw (.fieldLinkNest RX6 151 "SevenAsks$House" "night" "LSevenAsks$Night;" "SevenAsks") U ∧ va_Nw (.methodLinkNest RX4 67 yX6_isWithinNight "SevenAsks") U
theorem NW.warm {s U : State} (hW : s.WarmedH U.vm) (h : NW s) : NW U := ⟨va_Nw.warmF hW h.1, va_Nw.warmM hW h.2⟩
theorem NW.same {u U : State} (h : u.vm = U.vm) (hZ : NW u) : NW U := ⟨va_Nw.same rfl h hZ.1, va_Nw.same rfl h hZ.2⟩
/-- what a method finds and leaves: the pool with the numbers x -/
def PW (G : gT) (x : xS) (U : State) : Prop := va_P G.1 vwCl (wl G x) U.heap ∧ va_K G.1 vwCl (tyG G) U ∧ inj G ∧ NW U
def pA (G : gT) (sz : Nat) : Nat → Prop := fun q => (∃ i, i ∈ G.2.1.2 ∧ q = G.2.2 i) ∨ sz ≤ q
theorem PW.blind {G : gT} {x : xS} {U : State} (g : JFrame) (mk : MethodId) (a : Array Value) (h : PW G x U) : PW G x (U.calling g mk a) := ⟨h.1, va_K.moved (u := U) (U := U.calling g mk a) (Vm.Alike.refl U.vm) h.2.1, h.2.2.1, NW.same rfl h.2.2.2⟩
theorem oB {α β : Type} {a : Option α} {f : α → Option β} {y : β} (h : Option.bind a f = some y) : ∃ z, a = some z ∧ f z = some y := by
  cases a with
  | none => cases h
  | some z => exact ⟨z, rfl, h⟩
theorem iT {c : Prop} {d : Decidable c} {α : Type} {a b r : α} (h : c) (hf : (@ite α c d a b) = r) : a = r := by rw [if_pos h] at hf; exact hf
theorem iF {c : Prop} {d : Decidable c} {α : Type} {a b r : α} (h : ¬ c) (hf : (@ite α c d a b) = r) : b = r := by rw [if_neg h] at hf; exact hf
/-- a guard: 'if c then none else b' is some r -/
theorem iN {c : Prop} {d : Decidable c} {α : Type} {b : Option α} {r : α} (hf : (@ite (Option α) c d none b) = some r) : ¬ c ∧ b = some r := by
  by_cases h : c
  · rw [if_pos h] at hf; cases hf
  · rw [if_neg h] at hf; exact ⟨h, hf⟩
section WW
variable {p : Program} {l : Launch} {e : Env} {R : Room} {s : State} {m : MethodId} {args : Array Value} {below : List Frame} {meth : Method} {c : Code} {nL : Nat} {G : gT} {A : Nat → Prop} {Q : State → Prop} {k n pc : Nat} {lv : List (Nat × Value)} {st : List Value} {x : xS} {cc : ByteArray} {own : String} {ret : Option FieldType}
/-- from pc on, with these locals, this stack and these numbers in the pool, the machine comes to Q -/
def WB (p : Program) (l : Launch) (e : Env) (R : Room) (s : State) (m : MethodId) (args : Array Value) (below : List Frame) (meth : Method) (c : Code) (nL : Nat) (G : gT) (A : Nat → Prop) (Q : State → Prop) (k n pc : Nat) (lv : List (Nat × Value)) (st : List Value) (x : xS) : Prop :=
  ∀ (H : Heap) (locs : List Loc) (ls : Array Slot), lv_has ls nL lv → va_P G.1 vwCl (wl G x) H → va_S A s.heap H locs → W p l e R s m args below meth c H locs k n Q (F0 m pc ls st)
/-- what stays through a method's body -/
def CT (p : Program) (s : State) (m : MethodId) (args : Array Value) (meth : Method) (c : Code) (cc : ByteArray) (nL : Nat) (own : String) (ret : Option FieldType) (G : gT) (A : Nat → Prop) : Prop :=
  p.tables.exec = Jvm.exec ∧ c.code = cc ∧ c.maxLocals = nL ∧ s.vm.findClass own = some m.cls ∧ (∀ w ∈ AW, w.before args s = true) ∧ va_K G.1 vwCl (tyG G) s ∧ DD G A ∧ (∀ q, s.heap.size ≤ q → A q) ∧ meth.sig.returnType = ret ∧ meth.locks = false ∧ NW s
theorem CT.hx (C : CT p s m args meth c cc nL own ret G A) : p.tables.exec = Jvm.exec := by obtain ⟨h, -⟩ := C; exact h
theorem CT.b (C : CT p s m args meth c cc nL own ret G A) : c.code = cc := by obtain ⟨-, h, -⟩ := C; exact h
theorem CT.ml (C : CT p s m args meth c cc nL own ret G A) : c.maxLocals = nL := by obtain ⟨-, -, h, -⟩ := C; exact h
theorem CT.cl (C : CT p s m args meth c cc nL own ret G A) : CL G := by obtain ⟨-, -, -, -, -, -, h, -⟩ := C; exact h.1.2.2
theorem CT.nd (C : CT p s m args meth c cc nL own ret G A) : G.2.1.2.Nodup := by obtain ⟨-, -, -, -, -, -, h, -⟩ := C; exact h.1.2.1
theorem CT.ow (C : CT p s m args meth c cc nL own ret G A) : s.vm.findClass own = some m.cls := by obtain ⟨-, -, -, h, -⟩ := C; exact h
theorem CT.ts (C : CT p s m args meth c cc nL own ret G A) : ∀ w ∈ AW, w.before args s = true := by obtain ⟨-, -, -, -, h, -⟩ := C; exact h
theorem CT.K (C : CT p s m args meth c cc nL own ret G A) : va_K G.1 vwCl (tyG G) s := by obtain ⟨-, -, -, -, -, h, -⟩ := C; exact h
theorem CT.D (C : CT p s m args meth c cc nL own ret G A) : DD G A := by obtain ⟨-, -, -, -, -, -, h, -⟩ := C; exact h
theorem CT.hA (C : CT p s m args meth c cc nL own ret G A) : ∀ q, s.heap.size ≤ q → A q := by obtain ⟨-, -, -, -, -, -, -, h, -⟩ := C; exact h
theorem CT.r (C : CT p s m args meth c cc nL own ret G A) : meth.sig.returnType = ret := by obtain ⟨-, -, -, -, -, -, -, -, h, -⟩ := C; exact h
theorem CT.lk (C : CT p s m args meth c cc nL own ret G A) : meth.locks = false := by obtain ⟨-, -, -, -, -, -, -, -, -, h, -⟩ := C; exact h
theorem CT.nw (C : CT p s m args meth c cc nL own ret G A) : NW s := by obtain ⟨-, -, -, -, -, -, -, -, -, -, h⟩ := C; exact h
theorem CT.pA (C : CT p s m args meth c cc nL own ret G A) : ∀ {sz : Nat}, s.heap.size ≤ sz → ∀ q, pA G sz q → A q := by
  intro sz hz q hq
  rcases hq with ⟨i, h1, rfl⟩ | h
  · exact C.D.2 i h1
  · exact C.hA q (Nat.le_trans hz h)
/-- other locals, by their places -/
theorem b_pm (ks : List Nat) {lv' : List (Nat × Value)} (h : lv_pick lv ks = lv') (kk : WB p l e R s m args below meth c nL G A Q k n pc lv' st x) : WB p l e R s m args below meth c nL G A Q k n pc lv st x := fun H locs ls h1 h2 h3 => kk H locs ls (lv_sub h1 ks h) h2 h3

theorem b_iconst (C : CT p s m args meth c cc nL own ret G A) {i : Int} {v : Int32} (hd : decode cc pc = .ok (.iconst i, 1)) (hv : Int32.ofInt i = v) (kk : WB p l e R s m args below meth c nL G A Q k n (pc + 1) lv (.int v :: st) x) : WB p l e R s m args below meth c nL G A Q k n pc lv (st) x := fun H locs ls h1 h2 h3 => lv_iconst C.hx C.b hd hv (kk H locs ls h1 h2 h3)
theorem b_bipush (C : CT p s m args meth c cc nL own ret G A) {i : Int} {v : Int32} (hd : decode cc pc = .ok (.bipush i, 2)) (hv : (Int8.ofInt i).toInt32 = v) (kk : WB p l e R s m args below meth c nL G A Q k n (pc + 2) lv (.int v :: st) x) : WB p l e R s m args below meth c nL G A Q k n pc lv (st) x := fun H locs ls h1 h2 h3 => lv_bipush C.hx C.b hd hv (kk H locs ls h1 h2 h3)
theorem b_sipush (C : CT p s m args meth c cc nL own ret G A) {i : Int} {v : Int32} (hd : decode cc pc = .ok (.sipush i, 3)) (hv : (Int16.ofInt i).toInt32 = v) (kk : WB p l e R s m args below meth c nL G A Q k n (pc + 3) lv (.int v :: st) x) : WB p l e R s m args below meth c nL G A Q k n pc lv (st) x := fun H locs ls h1 h2 h3 => lv_sipush C.hx C.b hd hv (kk H locs ls h1 h2 h3)
theorem b_lconst (C : CT p s m args meth c cc nL own ret G A) {i : Fin 2} {v : Int64} (hd : decode cc pc = .ok (.lconst i, 1)) (hv : Int64.ofNat (i : Nat) = v) (kk : WB p l e R s m args below meth c nL G A Q k n (pc + 1) lv (.long v :: st) x) : WB p l e R s m args below meth c nL G A Q k n pc lv (st) x := fun H locs ls h1 h2 h3 => lv_lconst C.hx C.b hd hv (kk H locs ls h1 h2 h3)
theorem b_dconst0 (C : CT p s m args meth c cc nL own ret G A) (hd : decode cc pc = .ok (.dconst 0, 1)) (kk : WB p l e R s m args below meth c nL G A Q k n (pc + 1) lv (.double FP.dconst0 :: st) x) : WB p l e R s m args below meth c nL G A Q k n pc lv (st) x := fun H locs ls h1 h2 h3 => lv_dconst0 C.hx C.b hd (kk H locs ls h1 h2 h3)
theorem b_dconst1 (C : CT p s m args meth c cc nL own ret G A) (hd : decode cc pc = .ok (.dconst 1, 1)) (kk : WB p l e R s m args below meth c nL G A Q k n (pc + 1) lv (.double FP.dconst1 :: st) x) : WB p l e R s m args below meth c nL G A Q k n pc lv (st) x := fun H locs ls h1 h2 h3 => lv_dconst1 C.hx C.b hd (kk H locs ls h1 h2 h3)
theorem b_iload_n (C : CT p s m args meth c cc nL own ret G A) {j : Fin 4} {i : Nat} {v : Int32} (hd : decode cc pc = .ok (.iload_n j, 1)) (hj : (j : Nat) = i) (q : Nat) (hl : lv[q]? = some (i, .int v)) (kk : WB p l e R s m args below meth c nL G A Q k n (pc + 1) lv (.int v :: st) x) : WB p l e R s m args below meth c nL G A Q k n pc lv (st) x := fun H locs ls h1 h2 h3 => lv_iload_n C.hx C.b hd hj (lv_at h1 q hl) (kk H locs ls h1 h2 h3)
theorem b_iload (C : CT p s m args meth c cc nL own ret G A) {i : Nat} {v : Int32} (hd : decode cc pc = .ok (.iload i, 2)) (q : Nat) (hl : lv[q]? = some (i, .int v)) (kk : WB p l e R s m args below meth c nL G A Q k n (pc + 2) lv (.int v :: st) x) : WB p l e R s m args below meth c nL G A Q k n pc lv (st) x := fun H locs ls h1 h2 h3 => lv_iload C.hx C.b hd (lv_at h1 q hl) (kk H locs ls h1 h2 h3)
theorem b_istore_n (C : CT p s m args meth c cc nL own ret G A) {j : Fin 4} {i : Nat} {v : Int32} {lv' : List (Nat × Value)} (hd : decode cc pc = .ok (.istore_n j, 1)) (hj : (j : Nat) = i) (hn : i < nL) (hl : (i, Value.int v) :: lv.filter (fun q => !(q.1 == i) && !(q.1 + 1 == i && q.2.category == 2)) = lv') (kk : WB p l e R s m args below meth c nL G A Q k n (pc + 1) lv' (st) x) : WB p l e R s m args below meth c nL G A Q k n pc lv (.int v :: st) x := fun H locs ls h1 h2 h3 => lv_istore_n C.hx C.b hd hj h1 hn hl (fun ls' h1' => kk H locs ls' h1' h2 h3)
theorem b_istore (C : CT p s m args meth c cc nL own ret G A) {i : Nat} {v : Int32} {lv' : List (Nat × Value)} (hd : decode cc pc = .ok (.istore i, 2)) (hn : i < nL) (hl : (i, Value.int v) :: lv.filter (fun q => !(q.1 == i) && !(q.1 + 1 == i && q.2.category == 2)) = lv') (kk : WB p l e R s m args below meth c nL G A Q k n (pc + 2) lv' (st) x) : WB p l e R s m args below meth c nL G A Q k n pc lv (.int v :: st) x := fun H locs ls h1 h2 h3 => lv_istore C.hx C.b hd h1 hn hl (fun ls' h1' => kk H locs ls' h1' h2 h3)
theorem b_lload_n (C : CT p s m args meth c cc nL own ret G A) {j : Fin 4} {i : Nat} {v : Int64} (hd : decode cc pc = .ok (.lload_n j, 1)) (hj : (j : Nat) = i) (q : Nat) (hl : lv[q]? = some (i, .long v)) (kk : WB p l e R s m args below meth c nL G A Q k n (pc + 1) lv (.long v :: st) x) : WB p l e R s m args below meth c nL G A Q k n pc lv (st) x := fun H locs ls h1 h2 h3 => lv_lload_n C.hx C.b hd hj (lv_at h1 q hl) (kk H locs ls h1 h2 h3)
theorem b_lload (C : CT p s m args meth c cc nL own ret G A) {i : Nat} {v : Int64} (hd : decode cc pc = .ok (.lload i, 2)) (q : Nat) (hl : lv[q]? = some (i, .long v)) (kk : WB p l e R s m args below meth c nL G A Q k n (pc + 2) lv (.long v :: st) x) : WB p l e R s m args below meth c nL G A Q k n pc lv (st) x := fun H locs ls h1 h2 h3 => lv_lload C.hx C.b hd (lv_at h1 q hl) (kk H locs ls h1 h2 h3)
theorem b_lstore_n (C : CT p s m args meth c cc nL own ret G A) {j : Fin 4} {i : Nat} {v : Int64} {lv' : List (Nat × Value)} (hd : decode cc pc = .ok (.lstore_n j, 1)) (hj : (j : Nat) = i) (hn : i + 1 < nL) (hl : (i, Value.long v) :: lv.filter (fun q => !(q.1 == i) && (!(q.1 == i + 1) && !(q.1 + 1 == i && q.2.category == 2))) = lv') (kk : WB p l e R s m args below meth c nL G A Q k n (pc + 1) lv' (st) x) : WB p l e R s m args below meth c nL G A Q k n pc lv (.long v :: st) x := fun H locs ls h1 h2 h3 => lv_lstore_n C.hx C.b hd hj h1 hn hl (fun ls' h1' => kk H locs ls' h1' h2 h3)
theorem b_lstore (C : CT p s m args meth c cc nL own ret G A) {i : Nat} {v : Int64} {lv' : List (Nat × Value)} (hd : decode cc pc = .ok (.lstore i, 2)) (hn : i + 1 < nL) (hl : (i, Value.long v) :: lv.filter (fun q => !(q.1 == i) && (!(q.1 == i + 1) && !(q.1 + 1 == i && q.2.category == 2))) = lv') (kk : WB p l e R s m args below meth c nL G A Q k n (pc + 2) lv' (st) x) : WB p l e R s m args below meth c nL G A Q k n pc lv (.long v :: st) x := fun H locs ls h1 h2 h3 => lv_lstore C.hx C.b hd h1 hn hl (fun ls' h1' => kk H locs ls' h1' h2 h3)
theorem b_dload_n (C : CT p s m args meth c cc nL own ret G A) {j : Fin 4} {i : Nat} {v : UInt64} (hd : decode cc pc = .ok (.dload_n j, 1)) (hj : (j : Nat) = i) (q : Nat) (hl : lv[q]? = some (i, .double v)) (kk : WB p l e R s m args below meth c nL G A Q k n (pc + 1) lv (.double v :: st) x) : WB p l e R s m args below meth c nL G A Q k n pc lv (st) x := fun H locs ls h1 h2 h3 => lv_dload_n C.hx C.b hd hj (lv_at h1 q hl) (kk H locs ls h1 h2 h3)
theorem b_dload (C : CT p s m args meth c cc nL own ret G A) {i : Nat} {v : UInt64} (hd : decode cc pc = .ok (.dload i, 2)) (q : Nat) (hl : lv[q]? = some (i, .double v)) (kk : WB p l e R s m args below meth c nL G A Q k n (pc + 2) lv (.double v :: st) x) : WB p l e R s m args below meth c nL G A Q k n pc lv (st) x := fun H locs ls h1 h2 h3 => lv_dload C.hx C.b hd (lv_at h1 q hl) (kk H locs ls h1 h2 h3)
theorem b_dstore_n (C : CT p s m args meth c cc nL own ret G A) {j : Fin 4} {i : Nat} {v : UInt64} {lv' : List (Nat × Value)} (hd : decode cc pc = .ok (.dstore_n j, 1)) (hj : (j : Nat) = i) (hn : i + 1 < nL) (hl : (i, Value.double v) :: lv.filter (fun q => !(q.1 == i) && (!(q.1 == i + 1) && !(q.1 + 1 == i && q.2.category == 2))) = lv') (kk : WB p l e R s m args below meth c nL G A Q k n (pc + 1) lv' (st) x) : WB p l e R s m args below meth c nL G A Q k n pc lv (.double v :: st) x := fun H locs ls h1 h2 h3 => lv_dstore_n C.hx C.b hd hj h1 hn hl (fun ls' h1' => kk H locs ls' h1' h2 h3)
theorem b_dstore (C : CT p s m args meth c cc nL own ret G A) {i : Nat} {v : UInt64} {lv' : List (Nat × Value)} (hd : decode cc pc = .ok (.dstore i, 2)) (hn : i + 1 < nL) (hl : (i, Value.double v) :: lv.filter (fun q => !(q.1 == i) && (!(q.1 == i + 1) && !(q.1 + 1 == i && q.2.category == 2))) = lv') (kk : WB p l e R s m args below meth c nL G A Q k n (pc + 2) lv' (st) x) : WB p l e R s m args below meth c nL G A Q k n pc lv (.double v :: st) x := fun H locs ls h1 h2 h3 => lv_dstore C.hx C.b hd h1 hn hl (fun ls' h1' => kk H locs ls' h1' h2 h3)
theorem b_aload_n (C : CT p s m args meth c cc nL own ret G A) {j : Fin 4} {i : Nat} {v : Nat} (hd : decode cc pc = .ok (.aload_n j, 1)) (hj : (j : Nat) = i) (q : Nat) (hl : lv[q]? = some (i, .ref v)) (kk : WB p l e R s m args below meth c nL G A Q k n (pc + 1) lv (.ref v :: st) x) : WB p l e R s m args below meth c nL G A Q k n pc lv (st) x := fun H locs ls h1 h2 h3 => lv_aload_n C.hx C.b hd hj (lv_at h1 q hl) (kk H locs ls h1 h2 h3)
theorem b_aload (C : CT p s m args meth c cc nL own ret G A) {i : Nat} {v : Nat} (hd : decode cc pc = .ok (.aload i, 2)) (q : Nat) (hl : lv[q]? = some (i, .ref v)) (kk : WB p l e R s m args below meth c nL G A Q k n (pc + 2) lv (.ref v :: st) x) : WB p l e R s m args below meth c nL G A Q k n pc lv (st) x := fun H locs ls h1 h2 h3 => lv_aload C.hx C.b hd (lv_at h1 q hl) (kk H locs ls h1 h2 h3)
theorem b_astore_n (C : CT p s m args meth c cc nL own ret G A) {j : Fin 4} {i : Nat} {v : Nat} {lv' : List (Nat × Value)} (hd : decode cc pc = .ok (.astore_n j, 1)) (hj : (j : Nat) = i) (hn : i < nL) (hl : (i, Value.ref v) :: lv.filter (fun q => !(q.1 == i) && !(q.1 + 1 == i && q.2.category == 2)) = lv') (kk : WB p l e R s m args below meth c nL G A Q k n (pc + 1) lv' (st) x) : WB p l e R s m args below meth c nL G A Q k n pc lv (.ref v :: st) x := fun H locs ls h1 h2 h3 => lv_astore_n C.hx C.b hd hj h1 hn hl (fun ls' h1' => kk H locs ls' h1' h2 h3)
theorem b_astore (C : CT p s m args meth c cc nL own ret G A) {i : Nat} {v : Nat} {lv' : List (Nat × Value)} (hd : decode cc pc = .ok (.astore i, 2)) (hn : i < nL) (hl : (i, Value.ref v) :: lv.filter (fun q => !(q.1 == i) && !(q.1 + 1 == i && q.2.category == 2)) = lv') (kk : WB p l e R s m args below meth c nL G A Q k n (pc + 2) lv' (st) x) : WB p l e R s m args below meth c nL G A Q k n pc lv (.ref v :: st) x := fun H locs ls h1 h2 h3 => lv_astore C.hx C.b hd h1 hn hl (fun ls' h1' => kk H locs ls' h1' h2 h3)
theorem b_iinc (C : CT p s m args meth c cc nL own ret G A) {i q : Nat} {j : Int} {v v' : Int32} {lv' : List (Nat × Value)} (hd : decode cc pc = .ok (.iinc i j, 3)) (hk : lv[q]? = some (i, .int v)) (hv : v + Int32.ofInt j = v') (hn : i < nL) (hl : (i, Value.int v') :: lv.filter (fun q => !(q.1 == i) && !(q.1 + 1 == i && q.2.category == 2)) = lv') (kk : WB p l e R s m args below meth c nL G A Q k n (pc + 3) lv' (st) x) : WB p l e R s m args below meth c nL G A Q k n pc lv (st) x := fun H locs ls h1 h2 h3 => lv_iinc C.hx C.b hd h1 hk hv hn hl (fun ls' h1' => kk H locs ls' h1' h2 h3)
theorem b_iadd (C : CT p s m args meth c cc nL own ret G A) {x1 y1 : Int32} (hd : decode cc pc = .ok (.iadd, 1)) (kk : WB p l e R s m args below meth c nL G A Q k n (pc + 1) lv (.int (x1 + y1) :: st) x) : WB p l e R s m args below meth c nL G A Q k n pc lv (.int y1 :: .int x1 :: st) x := fun H locs ls h1 h2 h3 => lv_iadd C.hx C.b hd (kk H locs ls h1 h2 h3)
theorem b_isub (C : CT p s m args meth c cc nL own ret G A) {x1 y1 : Int32} (hd : decode cc pc = .ok (.isub, 1)) (kk : WB p l e R s m args below meth c nL G A Q k n (pc + 1) lv (.int (x1 - y1) :: st) x) : WB p l e R s m args below meth c nL G A Q k n pc lv (.int y1 :: .int x1 :: st) x := fun H locs ls h1 h2 h3 => lv_isub C.hx C.b hd (kk H locs ls h1 h2 h3)
theorem b_imul (C : CT p s m args meth c cc nL own ret G A) {x1 y1 : Int32} (hd : decode cc pc = .ok (.imul, 1)) (kk : WB p l e R s m args below meth c nL G A Q k n (pc + 1) lv (.int (x1 * y1) :: st) x) : WB p l e R s m args below meth c nL G A Q k n pc lv (.int y1 :: .int x1 :: st) x := fun H locs ls h1 h2 h3 => lv_imul C.hx C.b hd (kk H locs ls h1 h2 h3)
theorem b_iand (C : CT p s m args meth c cc nL own ret G A) {x1 y1 : Int32} (hd : decode cc pc = .ok (.iand, 1)) (kk : WB p l e R s m args below meth c nL G A Q k n (pc + 1) lv (.int (x1 &&& y1) :: st) x) : WB p l e R s m args below meth c nL G A Q k n pc lv (.int y1 :: .int x1 :: st) x := fun H locs ls h1 h2 h3 => lv_iand C.hx C.b hd (kk H locs ls h1 h2 h3)
theorem b_ior (C : CT p s m args meth c cc nL own ret G A) {x1 y1 : Int32} (hd : decode cc pc = .ok (.ior, 1)) (kk : WB p l e R s m args below meth c nL G A Q k n (pc + 1) lv (.int (x1 ||| y1) :: st) x) : WB p l e R s m args below meth c nL G A Q k n pc lv (.int y1 :: .int x1 :: st) x := fun H locs ls h1 h2 h3 => lv_ior C.hx C.b hd (kk H locs ls h1 h2 h3)
theorem b_ishl (C : CT p s m args meth c cc nL own ret G A) {x1 y1 : Int32} (hd : decode cc pc = .ok (.ishl, 1)) (kk : WB p l e R s m args below meth c nL G A Q k n (pc + 1) lv (.int (x1 <<< (y1 &&& 31)) :: st) x) : WB p l e R s m args below meth c nL G A Q k n pc lv (.int y1 :: .int x1 :: st) x := fun H locs ls h1 h2 h3 => lv_ishl C.hx C.b hd (kk H locs ls h1 h2 h3)
theorem b_ishr (C : CT p s m args meth c cc nL own ret G A) {x1 y1 : Int32} (hd : decode cc pc = .ok (.ishr, 1)) (kk : WB p l e R s m args below meth c nL G A Q k n (pc + 1) lv (.int (x1 >>> (y1 &&& 31)) :: st) x) : WB p l e R s m args below meth c nL G A Q k n pc lv (.int y1 :: .int x1 :: st) x := fun H locs ls h1 h2 h3 => lv_ishr C.hx C.b hd (kk H locs ls h1 h2 h3)
theorem b_idiv (C : CT p s m args meth c cc nL own ret G A) {x1 y1 : Int32} (hd : decode cc pc = .ok (.idiv, 1)) (hne : ¬ y1 = 0) (kk : WB p l e R s m args below meth c nL G A Q k n (pc + 1) lv (.int (x1 / y1) :: st) x) : WB p l e R s m args below meth c nL G A Q k n pc lv (.int y1 :: .int x1 :: st) x := fun H locs ls h1 h2 h3 => lv_idiv C.hx C.b hd hne (kk H locs ls h1 h2 h3)
theorem b_irem (C : CT p s m args meth c cc nL own ret G A) {x1 y1 : Int32} (hd : decode cc pc = .ok (.irem, 1)) (hne : ¬ y1 = 0) (kk : WB p l e R s m args below meth c nL G A Q k n (pc + 1) lv (.int (x1 - x1 / y1 * y1) :: st) x) : WB p l e R s m args below meth c nL G A Q k n pc lv (.int y1 :: .int x1 :: st) x := fun H locs ls h1 h2 h3 => lv_irem C.hx C.b hd hne (kk H locs ls h1 h2 h3)
theorem b_ladd (C : CT p s m args meth c cc nL own ret G A) {x1 y1 : Int64} (hd : decode cc pc = .ok (.ladd, 1)) (kk : WB p l e R s m args below meth c nL G A Q k n (pc + 1) lv (.long (x1 + y1) :: st) x) : WB p l e R s m args below meth c nL G A Q k n pc lv (.long y1 :: .long x1 :: st) x := fun H locs ls h1 h2 h3 => lv_ladd C.hx C.b hd (kk H locs ls h1 h2 h3)
theorem b_lsub (C : CT p s m args meth c cc nL own ret G A) {x1 y1 : Int64} (hd : decode cc pc = .ok (.lsub, 1)) (kk : WB p l e R s m args below meth c nL G A Q k n (pc + 1) lv (.long (x1 - y1) :: st) x) : WB p l e R s m args below meth c nL G A Q k n pc lv (.long y1 :: .long x1 :: st) x := fun H locs ls h1 h2 h3 => lv_lsub C.hx C.b hd (kk H locs ls h1 h2 h3)
theorem b_lmul (C : CT p s m args meth c cc nL own ret G A) {x1 y1 : Int64} (hd : decode cc pc = .ok (.lmul, 1)) (kk : WB p l e R s m args below meth c nL G A Q k n (pc + 1) lv (.long (x1 * y1) :: st) x) : WB p l e R s m args below meth c nL G A Q k n pc lv (.long y1 :: .long x1 :: st) x := fun H locs ls h1 h2 h3 => lv_lmul C.hx C.b hd (kk H locs ls h1 h2 h3)
theorem b_iushr (C : CT p s m args meth c cc nL own ret G A) {x1 y1 : Int32} (hd : decode cc pc = .ok (.iushr, 1)) (kk : WB p l e R s m args below meth c nL G A Q k n (pc + 1) lv (.int ((x1.toUInt32 >>> (y1.toUInt32 &&& Int32.toUInt32 31)).toInt32) :: st) x) : WB p l e R s m args below meth c nL G A Q k n pc lv (.int y1 :: .int x1 :: st) x := fun H locs ls h1 h2 h3 => lv_iushr C.hx C.b hd rfl (kk H locs ls h1 h2 h3)
theorem b_lshl (C : CT p s m args meth c cc nL own ret G A) {x1 : Int64} {y1 : Int32} (hd : decode cc pc = .ok (.lshl, 1)) (kk : WB p l e R s m args below meth c nL G A Q k n (pc + 1) lv (.long (x1 <<< (y1.toInt64 &&& 63)) :: st) x) : WB p l e R s m args below meth c nL G A Q k n pc lv (.int y1 :: .long x1 :: st) x := fun H locs ls h1 h2 h3 => lv_lshl C.hx C.b hd rfl (kk H locs ls h1 h2 h3)
theorem b_i2l (C : CT p s m args meth c cc nL own ret G A) {x1 : Int32} (hd : decode cc pc = .ok (.i2l, 1)) (kk : WB p l e R s m args below meth c nL G A Q k n (pc + 1) lv (.long x1.toInt64 :: st) x) : WB p l e R s m args below meth c nL G A Q k n pc lv (.int x1 :: st) x := fun H locs ls h1 h2 h3 => lv_i2l C.hx C.b hd rfl (kk H locs ls h1 h2 h3)
theorem b_i2d (C : CT p s m args meth c cc nL own ret G A) {x1 : Int32} (hd : decode cc pc = .ok (.i2d, 1)) (kk : WB p l e R s m args below meth c nL G A Q k n (pc + 1) lv (.double (FP.i2d x1) :: st) x) : WB p l e R s m args below meth c nL G A Q k n pc lv (.int x1 :: st) x := fun H locs ls h1 h2 h3 => lv_i2d C.hx C.b hd (kk H locs ls h1 h2 h3)
theorem b_l2d (C : CT p s m args meth c cc nL own ret G A) {x1 : Int64} (hd : decode cc pc = .ok (.l2d, 1)) (kk : WB p l e R s m args below meth c nL G A Q k n (pc + 1) lv (.double (FP.l2d x1) :: st) x) : WB p l e R s m args below meth c nL G A Q k n pc lv (.long x1 :: st) x := fun H locs ls h1 h2 h3 => lv_l2d C.hx C.b hd (kk H locs ls h1 h2 h3)
theorem b_d2l (C : CT p s m args meth c cc nL own ret G A) {x1 : UInt64} (hd : decode cc pc = .ok (.d2l, 1)) (kk : WB p l e R s m args below meth c nL G A Q k n (pc + 1) lv (.long (FP.d2l x1) :: st) x) : WB p l e R s m args below meth c nL G A Q k n pc lv (.double x1 :: st) x := fun H locs ls h1 h2 h3 => lv_d2l C.hx C.b hd (kk H locs ls h1 h2 h3)
theorem b_dcmp (C : CT p s m args meth c cc nL own ret G A) {x1 y1 : UInt64} {op : CmpOp} (hd : decode cc pc = .ok (.dcmp op, 1)) (kk : WB p l e R s m args below meth c nL G A Q k n (pc + 1) lv (.int (Op.cmpValue (FP.dcmp x1 y1) op) :: st) x) : WB p l e R s m args below meth c nL G A Q k n pc lv (.double y1 :: .double x1 :: st) x := fun H locs ls h1 h2 h3 => lv_dcmp C.hx C.b hd (kk H locs ls h1 h2 h3)
theorem b_ddiv (C : CT p s m args meth c cc nL own ret G A) {x1 y1 : UInt64} (hd : decode cc pc = .ok (.ddiv, 1)) (hne : vf_n64 (FP.ddiv x1 y1)) (kk : WB p l e R s m args below meth c nL G A Q k n (pc + 1) lv (.double (FP.ddiv x1 y1) :: st) x) : WB p l e R s m args below meth c nL G A Q k n pc lv (.double y1 :: .double x1 :: st) x := fun H locs ls h1 h2 h3 => lv_ddiv C.hx C.b hd hne (kk H locs ls h1 h2 h3)
theorem b_dmul (C : CT p s m args meth c cc nL own ret G A) {x1 y1 : UInt64} (hd : decode cc pc = .ok (.dmul, 1)) (hne : vf_n64 (FP.dmul x1 y1)) (kk : WB p l e R s m args below meth c nL G A Q k n (pc + 1) lv (.double (FP.dmul x1 y1) :: st) x) : WB p l e R s m args below meth c nL G A Q k n pc lv (.double y1 :: .double x1 :: st) x := fun H locs ls h1 h2 h3 => lv_dmul C.hx C.b hd hne (kk H locs ls h1 h2 h3)
theorem b_dsub (C : CT p s m args meth c cc nL own ret G A) {x1 y1 : UInt64} (hd : decode cc pc = .ok (.dsub, 1)) (hne : vf_n64 (FP.dsub x1 y1)) (kk : WB p l e R s m args below meth c nL G A Q k n (pc + 1) lv (.double (FP.dsub x1 y1) :: st) x) : WB p l e R s m args below meth c nL G A Q k n pc lv (.double y1 :: .double x1 :: st) x := fun H locs ls h1 h2 h3 => lv_dsub C.hx C.b hd hne (kk H locs ls h1 h2 h3)
theorem b_dup (C : CT p s m args meth c cc nL own ret G A) {v : Value} (hd : decode cc pc = .ok (.dup, 1)) (hv : v.category = 1) (kk : WB p l e R s m args below meth c nL G A Q k n (pc + 1) lv (v :: v :: st) x) : WB p l e R s m args below meth c nL G A Q k n pc lv (v :: st) x := fun H locs ls h1 h2 h3 => lv_dup C.hx C.b hd hv (kk H locs ls h1 h2 h3)
theorem b_pop (C : CT p s m args meth c cc nL own ret G A) {v : Value} (hd : decode cc pc = .ok (.pop, 1)) (hv : v.category = 1) (kk : WB p l e R s m args below meth c nL G A Q k n (pc + 1) lv (st) x) : WB p l e R s m args below meth c nL G A Q k n pc lv (v :: st) x := fun H locs ls h1 h2 h3 => lv_pop C.hx C.b hd hv (kk H locs ls h1 h2 h3)
theorem b_dup2 (C : CT p s m args meth c cc nL own ret G A) {v v2 : Value} (hd : decode cc pc = .ok (.dup2, 1)) (hv : v.category = 1) (hv2 : v2.category = 1) (kk : WB p l e R s m args below meth c nL G A Q k n (pc + 1) lv (v :: v2 :: v :: v2 :: st) x) : WB p l e R s m args below meth c nL G A Q k n pc lv (v :: v2 :: st) x := fun H locs ls h1 h2 h3 => lv_dup2_11 C.hx C.b hd hv hv2 (kk H locs ls h1 h2 h3)
theorem b_goto (C : CT p s m args meth c cc nL own ret G A) {off : Int} {tgt : Nat} (hd : decode cc pc = .ok (.goto off, 3)) (ht : (pc : Int) + off = (tgt : Int)) (kk : WB p l e R s m args below meth c nL G A Q k n tgt lv (st) x) : WB p l e R s m args below meth c nL G A Q k n pc lv (st) x := fun H locs ls h1 h2 h3 => lv_goto C.hx C.b hd ht (kk H locs ls h1 h2 h3)
theorem b_if_eq (C : CT p s m args meth c cc nL own ret G A) {a : Int32} {off : Int} {tgt : Nat} (hd : decode cc pc = .ok (.ifCond .eq off, 3)) (ht : (pc : Int) + off = (tgt : Int)) (kt : a = 0 → WB p l e R s m args below meth c nL G A Q k n tgt lv (st) x) (kf : ¬ a = 0 → WB p l e R s m args below meth c nL G A Q k n (pc + 3) lv (st) x) : WB p l e R s m args below meth c nL G A Q k n pc lv (.int a :: st) x := fun H locs ls h1 h2 h3 => lv_if_eq C.hx C.b hd ht (fun q => kt q H locs ls h1 h2 h3) (fun q => kf q H locs ls h1 h2 h3)
theorem b_icmp_eq (C : CT p s m args meth c cc nL own ret G A) {a b : Int32} {off : Int} {tgt : Nat} (hd : decode cc pc = .ok (.if_icmp .eq off, 3)) (ht : (pc : Int) + off = (tgt : Int)) (kt : a = b → WB p l e R s m args below meth c nL G A Q k n tgt lv (st) x) (kf : ¬ a = b → WB p l e R s m args below meth c nL G A Q k n (pc + 3) lv (st) x) : WB p l e R s m args below meth c nL G A Q k n pc lv (.int b :: .int a :: st) x := fun H locs ls h1 h2 h3 => lv_icmp_eq C.hx C.b hd ht (fun q => kt q H locs ls h1 h2 h3) (fun q => kf q H locs ls h1 h2 h3)
theorem b_if_ne (C : CT p s m args meth c cc nL own ret G A) {a : Int32} {off : Int} {tgt : Nat} (hd : decode cc pc = .ok (.ifCond .ne off, 3)) (ht : (pc : Int) + off = (tgt : Int)) (kt : ¬ a = 0 → WB p l e R s m args below meth c nL G A Q k n tgt lv (st) x) (kf : a = 0 → WB p l e R s m args below meth c nL G A Q k n (pc + 3) lv (st) x) : WB p l e R s m args below meth c nL G A Q k n pc lv (.int a :: st) x := fun H locs ls h1 h2 h3 => lv_if_ne C.hx C.b hd ht (fun q => kt q H locs ls h1 h2 h3) (fun q => kf q H locs ls h1 h2 h3)
theorem b_icmp_ne (C : CT p s m args meth c cc nL own ret G A) {a b : Int32} {off : Int} {tgt : Nat} (hd : decode cc pc = .ok (.if_icmp .ne off, 3)) (ht : (pc : Int) + off = (tgt : Int)) (kt : ¬ a = b → WB p l e R s m args below meth c nL G A Q k n tgt lv (st) x) (kf : a = b → WB p l e R s m args below meth c nL G A Q k n (pc + 3) lv (st) x) : WB p l e R s m args below meth c nL G A Q k n pc lv (.int b :: .int a :: st) x := fun H locs ls h1 h2 h3 => lv_icmp_ne C.hx C.b hd ht (fun q => kt q H locs ls h1 h2 h3) (fun q => kf q H locs ls h1 h2 h3)
theorem b_if_lt (C : CT p s m args meth c cc nL own ret G A) {a : Int32} {off : Int} {tgt : Nat} (hd : decode cc pc = .ok (.ifCond .lt off, 3)) (ht : (pc : Int) + off = (tgt : Int)) (kt : a < 0 → WB p l e R s m args below meth c nL G A Q k n tgt lv (st) x) (kf : ¬ a < 0 → WB p l e R s m args below meth c nL G A Q k n (pc + 3) lv (st) x) : WB p l e R s m args below meth c nL G A Q k n pc lv (.int a :: st) x := fun H locs ls h1 h2 h3 => lv_if_lt C.hx C.b hd ht (fun q => kt q H locs ls h1 h2 h3) (fun q => kf q H locs ls h1 h2 h3)
theorem b_icmp_lt (C : CT p s m args meth c cc nL own ret G A) {a b : Int32} {off : Int} {tgt : Nat} (hd : decode cc pc = .ok (.if_icmp .lt off, 3)) (ht : (pc : Int) + off = (tgt : Int)) (kt : a < b → WB p l e R s m args below meth c nL G A Q k n tgt lv (st) x) (kf : ¬ a < b → WB p l e R s m args below meth c nL G A Q k n (pc + 3) lv (st) x) : WB p l e R s m args below meth c nL G A Q k n pc lv (.int b :: .int a :: st) x := fun H locs ls h1 h2 h3 => lv_icmp_lt C.hx C.b hd ht (fun q => kt q H locs ls h1 h2 h3) (fun q => kf q H locs ls h1 h2 h3)
theorem b_if_ge (C : CT p s m args meth c cc nL own ret G A) {a : Int32} {off : Int} {tgt : Nat} (hd : decode cc pc = .ok (.ifCond .ge off, 3)) (ht : (pc : Int) + off = (tgt : Int)) (kt : 0 ≤ a → WB p l e R s m args below meth c nL G A Q k n tgt lv (st) x) (kf : ¬ 0 ≤ a → WB p l e R s m args below meth c nL G A Q k n (pc + 3) lv (st) x) : WB p l e R s m args below meth c nL G A Q k n pc lv (.int a :: st) x := fun H locs ls h1 h2 h3 => lv_if_ge C.hx C.b hd ht (fun q => kt q H locs ls h1 h2 h3) (fun q => kf q H locs ls h1 h2 h3)
theorem b_icmp_ge (C : CT p s m args meth c cc nL own ret G A) {a b : Int32} {off : Int} {tgt : Nat} (hd : decode cc pc = .ok (.if_icmp .ge off, 3)) (ht : (pc : Int) + off = (tgt : Int)) (kt : b ≤ a → WB p l e R s m args below meth c nL G A Q k n tgt lv (st) x) (kf : ¬ b ≤ a → WB p l e R s m args below meth c nL G A Q k n (pc + 3) lv (st) x) : WB p l e R s m args below meth c nL G A Q k n pc lv (.int b :: .int a :: st) x := fun H locs ls h1 h2 h3 => lv_icmp_ge C.hx C.b hd ht (fun q => kt q H locs ls h1 h2 h3) (fun q => kf q H locs ls h1 h2 h3)
theorem b_if_gt (C : CT p s m args meth c cc nL own ret G A) {a : Int32} {off : Int} {tgt : Nat} (hd : decode cc pc = .ok (.ifCond .gt off, 3)) (ht : (pc : Int) + off = (tgt : Int)) (kt : 0 < a → WB p l e R s m args below meth c nL G A Q k n tgt lv (st) x) (kf : ¬ 0 < a → WB p l e R s m args below meth c nL G A Q k n (pc + 3) lv (st) x) : WB p l e R s m args below meth c nL G A Q k n pc lv (.int a :: st) x := fun H locs ls h1 h2 h3 => lv_if_gt C.hx C.b hd ht (fun q => kt q H locs ls h1 h2 h3) (fun q => kf q H locs ls h1 h2 h3)
theorem b_icmp_gt (C : CT p s m args meth c cc nL own ret G A) {a b : Int32} {off : Int} {tgt : Nat} (hd : decode cc pc = .ok (.if_icmp .gt off, 3)) (ht : (pc : Int) + off = (tgt : Int)) (kt : b < a → WB p l e R s m args below meth c nL G A Q k n tgt lv (st) x) (kf : ¬ b < a → WB p l e R s m args below meth c nL G A Q k n (pc + 3) lv (st) x) : WB p l e R s m args below meth c nL G A Q k n pc lv (.int b :: .int a :: st) x := fun H locs ls h1 h2 h3 => lv_icmp_gt C.hx C.b hd ht (fun q => kt q H locs ls h1 h2 h3) (fun q => kf q H locs ls h1 h2 h3)
theorem b_if_le (C : CT p s m args meth c cc nL own ret G A) {a : Int32} {off : Int} {tgt : Nat} (hd : decode cc pc = .ok (.ifCond .le off, 3)) (ht : (pc : Int) + off = (tgt : Int)) (kt : a ≤ 0 → WB p l e R s m args below meth c nL G A Q k n tgt lv (st) x) (kf : ¬ a ≤ 0 → WB p l e R s m args below meth c nL G A Q k n (pc + 3) lv (st) x) : WB p l e R s m args below meth c nL G A Q k n pc lv (.int a :: st) x := fun H locs ls h1 h2 h3 => lv_if_le C.hx C.b hd ht (fun q => kt q H locs ls h1 h2 h3) (fun q => kf q H locs ls h1 h2 h3)
theorem b_icmp_le (C : CT p s m args meth c cc nL own ret G A) {a b : Int32} {off : Int} {tgt : Nat} (hd : decode cc pc = .ok (.if_icmp .le off, 3)) (ht : (pc : Int) + off = (tgt : Int)) (kt : a ≤ b → WB p l e R s m args below meth c nL G A Q k n tgt lv (st) x) (kf : ¬ a ≤ b → WB p l e R s m args below meth c nL G A Q k n (pc + 3) lv (st) x) : WB p l e R s m args below meth c nL G A Q k n pc lv (.int b :: .int a :: st) x := fun H locs ls h1 h2 h3 => lv_icmp_le C.hx C.b hd ht (fun q => kt q H locs ls h1 h2 h3) (fun q => kf q H locs ls h1 h2 h3)
/-! fields and arrays of the pool -/
theorem b_getf (C : CT p s m args meth c cc nL own ret G A) {i K q idx N : Nat} {Cn ref : String} {T : u_T} {v : Value} (hk : KD G i K) (hK : K < 8) (hc : vwCl[K]? = some (Cn, T, N)) (hin : ∀ w ∈ u_ws Cn T N, w ∈ AW) (hq : q < N) (hlink : Cond.fieldLink own idx ref (T q).2.1 (T q).2.2.1 ∈ AW) (href : ref = (T q).1) (hv : (gF G x i K)[q]? = some v) (hd : decode cc pc = .ok (.getfield idx, 3)) (kk : WB p l e R s m args below meth c nL G A Q k n (pc + 3) lv (v :: st) x) : WB p l e R s m args below meth c nL G A Q k n pc lv (.ref (G.2.2 i) :: st) x := by
  intro H locs ls h1 h2 h3
  obtain ⟨k0, hk0, hk1⟩ := wl_get G x hk.1
  subst href
  exact va_get C.hx C.b C.ts hin C.ow C.K h2 k0 (fs := gF G x i K) (by rw [hk1, gE_obj hk.2 hK]) hc q hq (C.ts _ hlink) (fun _ h => h) hv hd (kk H locs ls h1 h2 h3)

theorem b_put (C : CT p s m args meth c cc nL own ret G A) {i K q idx N : Nat} {Cn ref : String} {T : u_T} {ty : FieldType} {v : Value} {ty0 : Nat → FieldType} {y : xS} (hk : KD G i K) (hK : K < 8) (hc : vwCl[K]? = some (Cn, T, N)) (hin : ∀ w ∈ u_ws Cn T N, w ∈ AW) (hty : ∀ k, k < N → parseFieldDescriptor (T k).2.2.1 = some (ty0 k)) (hnm : ∀ a, a < N → ∀ b, b < N → a ≠ b → (T a).2.1 ≠ (T b).2.1) (hq : q < N) (hlink : Cond.fieldLink own idx ref (T q).2.1 (T q).2.2.1 ∈ AW) (href : ref = (T q).1) (hfin : (T q).2.2.2 = false) (hdf : parseFieldDescriptor (T q).2.2.1 = some ty) (hn : narrow ty v = v) (hfit : fits ty v = true) (hl : q < (gF G x i K).length) (hd : decode cc pc = .ok (.putfield idx, 3)) (hy : gF G y i K = (gF G x i K).set q v) (hy1 : ∀ j, j ≠ i → x.1 j = y.1 j) (hy2 : ∀ j, j ≠ i → x.2 j = y.2 j) (kk : WB p l e R s m args below meth c nL G A Q k n (pc + 3) lv (st) y) : WB p l e R s m args below meth c nL G A Q k n pc lv (v :: .ref (G.2.2 i) :: st) x := by
  intro H locs ls h1 h2 h3
  obtain ⟨k0, hk0, hk1⟩ := wl_get G x hk.1
  subst href
  refine va_put C.hx C.b C.ts hin ty0 hty hnm C.ow C.K h2 (wl_D C.D x) h3 k0 (fs := gF G x i K) (by rw [hk1, gE_obj hk.2 hK]) hc q hq (C.ts _ hlink) (fun _ h => h) hfin hdf hn hfit hl hd (fun H1 locs1 g1 _ g3 => ?_)
  rw [wl_set (y := y) C.nd hk0 (by rw [gE_obj hk.2 hK, hy]) hy1 hy2] at g1
  exact kk H1 locs1 ls h1 g1 g3

theorem b_iald (C : CT p s m args meth c cc nL own ret G A) {i : Nat} {j : Int32} (hk : KD G i 8) (hin : ¬ (j < 0 ∨ ln i ≤ j.toNatClampNeg)) (hd : decode cc pc = .ok (.iaload, 1)) (kk : WB p l e R s m args below meth c nL G A Q k n (pc + 1) lv (.int (x.1 i j.toNatClampNeg) :: st) x) : WB p l e R s m args below meth c nL G A Q k n pc lv (.int j :: .ref (G.2.2 i) :: st) x := by
  intro H locs ls h1 h2 h3
  obtain ⟨k0, hk0, hk1⟩ := wl_get G x hk.1
  exact va_iald C.hx C.b C.K h2 k0 0 (by rw [hk1, gE_8 hk.2]) rfl hin hd (kk H locs ls h1 h2 h3)

theorem b_zald (C : CT p s m args meth c cc nL own ret G A) {i : Nat} {j : Int32} (hk : KD G i 9) (hin : ¬ (j < 0 ∨ ln i ≤ j.toNatClampNeg)) (hd : decode cc pc = .ok (.baload, 1)) (kk : WB p l e R s m args below meth c nL G A Q k n (pc + 1) lv (.int (x.1 i j.toNatClampNeg) :: st) x) : WB p l e R s m args below meth c nL G A Q k n pc lv (.int j :: .ref (G.2.2 i) :: st) x := by
  intro H locs ls h1 h2 h3
  obtain ⟨k0, hk0, hk1⟩ := wl_get G x hk.1
  exact va_zald C.hx C.b C.K h2 k0 1 (by rw [hk1, gE_9 hk.2]) rfl hin hd (kk H locs ls h1 h2 h3)

theorem b_aald (C : CT p s m args meth c cc nL own ret G A) {i : Nat} {j : Int32} (hk : KD G i 10) (hin : ¬ (j < 0 ∨ ln i ≤ j.toNatClampNeg)) (hd : decode cc pc = .ok (.aaload, 1)) (kk : WB p l e R s m args below meth c nL G A Q k n (pc + 1) lv (.ref (G.2.2 (i + 2 + 10 * j.toNatClampNeg)) :: st) x) : WB p l e R s m args below meth c nL G A Q k n pc lv (.int j :: .ref (G.2.2 i) :: st) x := by
  intro H locs ls h1 h2 h3
  obtain ⟨k0, hk0, hk1⟩ := wl_get G x hk.1
  exact va_aldq (f := fun k => some (G.2.2 (i + 2 + 10 * k))) C.hx C.b C.K h2 k0 2 (by rw [hk1, gE_10 hk.2]) rfl hin hd (kk H locs ls h1 h2 h3)

theorem b_iast (C : CT p s m args meth c cc nL own ret G A) {i : Nat} {j v : Int32} (hk : KD G i 8) (hin : ¬ (j < 0 ∨ ln i ≤ j.toNatClampNeg)) (hd : decode cc pc = .ok (.iastore, 1)) (kk : WB p l e R s m args below meth c nL G A Q k n (pc + 1) lv (st) (up1 x i j.toNatClampNeg v)) : WB p l e R s m args below meth c nL G A Q k n pc lv (.int v :: .int j :: .ref (G.2.2 i) :: st) x := by
  intro H locs ls h1 h2 h3
  obtain ⟨k0, hk0, hk1⟩ := wl_get G x hk.1
  refine va_iast C.hx C.b C.K h2 (wl_D C.D x) h3 k0 0 (by rw [hk1, gE_8 hk.2]) rfl hin hd (fun H1 locs1 g1 _ g3 => ?_)
  rw [wl_upR (f := upd (x.1 i) j.toNatClampNeg v) C.nd hk0 (by rw [gE_8 hk.2, upR_same])] at g1
  exact kk H1 locs1 ls h1 g1 g3

theorem b_zast (C : CT p s m args meth c cc nL own ret G A) {i : Nat} {j v : Int32} (hk : KD G i 9) (hin : ¬ (j < 0 ∨ ln i ≤ j.toNatClampNeg)) (hd : decode cc pc = .ok (.bastore, 1)) (kk : WB p l e R s m args below meth c nL G A Q k n (pc + 1) lv (st) (up1 x i j.toNatClampNeg (vp_nar .boolean v))) : WB p l e R s m args below meth c nL G A Q k n pc lv (.int v :: .int j :: .ref (G.2.2 i) :: st) x := by
  intro H locs ls h1 h2 h3
  obtain ⟨k0, hk0, hk1⟩ := wl_get G x hk.1
  refine va_zast C.hx C.b C.K h2 (wl_D C.D x) h3 k0 1 (by rw [hk1, gE_9 hk.2]) rfl hin hd (fun H1 locs1 g1 _ g3 => ?_)
  rw [wl_upR (f := upd (x.1 i) j.toNatClampNeg (vp_nar .boolean v)) C.nd hk0 (by rw [gE_9 hk.2, upR_same])] at g1
  exact kk H1 locs1 ls h1 g1 g3

theorem b_alen8 (C : CT p s m args meth c cc nL own ret G A) {i : Nat} (hk : KD G i 8) (hd : decode cc pc = .ok (.arraylength, 1)) (kk : WB p l e R s m args below meth c nL G A Q k n (pc + 1) lv (.int (Int32.ofNat (ln i)) :: st) x) : WB p l e R s m args below meth c nL G A Q k n pc lv (.ref (G.2.2 i) :: st) x := by
  intro H locs ls h1 h2 h3
  obtain ⟨k0, hk0, hk1⟩ := wl_get G x hk.1
  exact va_alen C.hx C.b C.K h2 k0 0 (by rw [hk1, gE_8 hk.2]) rfl rfl hd (kk H locs ls h1 h2 h3)

theorem b_alen9 (C : CT p s m args meth c cc nL own ret G A) {i : Nat} (hk : KD G i 9) (hd : decode cc pc = .ok (.arraylength, 1)) (kk : WB p l e R s m args below meth c nL G A Q k n (pc + 1) lv (.int (Int32.ofNat (ln i)) :: st) x) : WB p l e R s m args below meth c nL G A Q k n pc lv (.ref (G.2.2 i) :: st) x := by
  intro H locs ls h1 h2 h3
  obtain ⟨k0, hk0, hk1⟩ := wl_get G x hk.1
  exact va_alen C.hx C.b C.K h2 k0 1 (by rw [hk1, gE_9 hk.2]) rfl rfl hd (kk H locs ls h1 h2 h3)

theorem b_alen10 (C : CT p s m args meth c cc nL own ret G A) {i : Nat} (hk : KD G i 10) (hd : decode cc pc = .ok (.arraylength, 1)) (kk : WB p l e R s m args below meth c nL G A Q k n (pc + 1) lv (.int (Int32.ofNat (ln i)) :: st) x) : WB p l e R s m args below meth c nL G A Q k n pc lv (.ref (G.2.2 i) :: st) x := by
  intro H locs ls h1 h2 h3
  obtain ⟨k0, hk0, hk1⟩ := wl_get G x hk.1
  exact va_alen C.hx C.b C.K h2 k0 2 (by rw [hk1, gE_10 hk.2]) rfl rfl hd (kk H locs ls h1 h2 h3)

theorem b_lcmp (C : CT p s m args meth c cc nL own ret G A) {x1 y1 : Int64} (hd : decode cc pc = .ok (.lcmp, 1)) (kk : WB p l e R s m args below meth c nL G A Q k n (pc + 1) lv (.int (lg_cmp x1 y1) :: st) x) : WB p l e R s m args below meth c nL G A Q k n pc lv (.long y1 :: .long x1 :: st) x := fun H locs ls h1 h2 h3 => W.lcmp C.hx C.b hd (kk H locs ls h1 h2 h3)
theorem b_aconst (C : CT p s m args meth c cc nL own ret G A) (hd : decode cc pc = .ok (.aconst_null, 1)) (kk : WB p l e R s m args below meth c nL G A Q k n (pc + 1) lv (.null :: st) x) : WB p l e R s m args below meth c nL G A Q k n pc lv (st) x := fun H locs ls h1 h2 h3 => lv_null C.hx C.b hd (kk H locs ls h1 h2 h3)
theorem b_ifnullR (C : CT p s m args meth c cc nL own ret G A) {i : Nat} {off : Int} (hd : decode cc pc = .ok (.ifnull off, 3)) (kk : WB p l e R s m args below meth c nL G A Q k n (pc + 3) lv (st) x) : WB p l e R s m args below meth c nL G A Q k n pc lv (.ref i :: st) x := fun H locs ls h1 h2 h3 => lv_ifnull C.hx C.b hd (kk H locs ls h1 h2 h3)
theorem b_ifnullN (C : CT p s m args meth c cc nL own ret G A) {off : Int} {tgt : Nat} (hd : decode cc pc = .ok (.ifnull off, 3)) (ht : (pc : Int) + off = (tgt : Int)) (kk : WB p l e R s m args below meth c nL G A Q k n tgt lv (st) x) : WB p l e R s m args below meth c nL G A Q k n pc lv (.null :: st) x := fun H locs ls h1 h2 h3 => lv_ifnullN C.hx C.b hd ht (kk H locs ls h1 h2 h3)
theorem b_astore_nN (C : CT p s m args meth c cc nL own ret G A) {j : Fin 4} {i : Nat} {lv' : List (Nat × Value)} (hd : decode cc pc = .ok (.astore_n j, 1)) (hj : (j : Nat) = i) (hn : i < nL) (hl : (i, Value.null) :: lv.filter (fun q => !(q.1 == i) && !(q.1 + 1 == i && q.2.category == 2)) = lv') (kk : WB p l e R s m args below meth c nL G A Q k n (pc + 1) lv' (st) x) : WB p l e R s m args below meth c nL G A Q k n pc lv (.null :: st) x := fun H locs ls h1 h2 h3 => lv_astore_nN C.hx C.b hd hj h1 hn hl (fun ls' h1' => kk H locs ls' h1' h2 h3)
theorem b_aload_nN (C : CT p s m args meth c cc nL own ret G A) {j : Fin 4} {i : Nat} (hd : decode cc pc = .ok (.aload_n j, 1)) (hj : (j : Nat) = i) (q : Nat) (hl : lv[q]? = some (i, .null)) (kk : WB p l e R s m args below meth c nL G A Q k n (pc + 1) lv (.null :: st) x) : WB p l e R s m args below meth c nL G A Q k n pc lv (st) x := fun H locs ls h1 h2 h3 => lv_aload_nN C.hx C.b hd hj (lv_at h1 q hl) (kk H locs ls h1 h2 h3)
theorem b_ldcw (C : CT p s m args meth c cc nL own ret G A) {idx : Nat} {v : Int32} (hq : Cond.constant own idx v ∈ AW) (hd : decode cc pc = .ok (.ldc_w idx, 3)) (kk : WB p l e R s m args below meth c nL G A Q k n (pc + 3) lv (.int v :: st) x) : WB p l e R s m args below meth c nL G A Q k n pc lv (st) x := fun H locs ls h1 h2 h3 => lv_ldcw C.hx C.b C.ow (C.ts _ hq) hd (kk H locs ls h1 h2 h3)
theorem b_ldc2 (C : CT p s m args meth c cc nL own ret G A) {idx : Nat} {v : Int64} (hq : Cond.constantLong own idx v ∈ AW) (hd : decode cc pc = .ok (.ldc2_w idx, 3)) (kk : WB p l e R s m args below meth c nL G A Q k n (pc + 3) lv (.long v :: st) x) : WB p l e R s m args below meth c nL G A Q k n pc lv (st) x := fun H locs ls h1 h2 h3 => lv_ldc2 C.hx C.b C.ow (C.ts _ hq) hd (kk H locs ls h1 h2 h3)
theorem b_ldc2d (C : CT p s m args meth c cc nL own ret G A) {idx : Nat} {v : UInt64} (hq : Cond.constantDouble own idx v ∈ AW) (hd : decode cc pc = .ok (.ldc2_w idx, 3)) (kk : WB p l e R s m args below meth c nL G A Q k n (pc + 3) lv (.double v :: st) x) : WB p l e R s m args below meth c nL G A Q k n pc lv (st) x := fun H locs ls h1 h2 h3 => lv_ldc2d C.hx C.b C.ow (C.ts _ hq) hd (kk H locs ls h1 h2 h3)
theorem b_getfN (C : CT p s m args meth c cc nL RX6 ret G A) {i : Nat} (hk : KD G i 3) (hin : ∀ w ∈ u_ws RX3 TX3 4, w ∈ AW) (hd : decode cc pc = .ok (.getfield 151, 3)) (kk : WB p l e R s m args below meth c nL G A Q k n (pc + 3) lv (.ref (G.2.2 (i + 1)) :: st) x) : WB p l e R s m args below meth c nL G A Q k n pc lv (.ref (G.2.2 i) :: st) x := by
  intro H locs ls h1 h2 h3
  obtain ⟨k0, hk0, hk1⟩ := wl_get G x hk.1
  exact va_getN (host := "SevenAsks") C.hx C.b C.ts hin C.ow C.K h2 k0 (fs := gF G x i 3) (by rw [hk1, gE_obj hk.2 (by omega)]) rfl 0 (by omega) (va_Nw.use rfl C.nw.1) (fun _ h => h) rfl hd (kk H locs ls h1 h2 h3)

theorem b_tabIn (C : CT p s m args meth c cc nL own ret G A) {dflt lo hi : Int} {offs : Array Int} {len : Nat} {v : Int32} {off kc : Int} {tgt : Nat} (hv : v.toInt = kc) (hd : decode cc pc = .ok (.tableswitch dflt lo hi offs, len)) (h1 : ¬ kc < lo) (h2 : ¬ hi < kc) (ho : offs[(kc - lo).toNat]? = some off) (ht : (pc : Int) + off = (tgt : Int)) (kk : WB p l e R s m args below meth c nL G A Q k n tgt lv (st) x) : WB p l e R s m args below meth c nL G A Q k n pc lv (.int v :: st) x := by
  intro H locs ls g1 g2 g3
  subst hv
  exact lv_tableIn C.hx C.b hd h1 h2 ho ht (kk H locs ls g1 g2 g3)
theorem b_tabOut (C : CT p s m args meth c cc nL own ret G A) {dflt lo hi : Int} {offs : Array Int} {len : Nat} {v : Int32} {tgt : Nat} (hv : v.toInt < lo ∨ hi < v.toInt) (hd : decode cc pc = .ok (.tableswitch dflt lo hi offs, len)) (ht : (pc : Int) + dflt = (tgt : Int)) (kk : WB p l e R s m args below meth c nL G A Q k n tgt lv (st) x) : WB p l e R s m args below meth c nL G A Q k n pc lv (.int v :: st) x := fun H locs ls g1 g2 g3 => lv_tableOut C.hx C.b hd hv ht (kk H locs ls g1 g2 g3)

theorem b_mmin (C : CT p s m args meth c cc nL own ret G A) {idx : Nat} {x1 y1 : Int32} (hq1 : Cond.methodLink own idx Lib.Math.min.name ∈ AW) (hq2 : Cond.static Lib.Math.min.name ∈ AW) (hq3 : Cond.initialized "java/lang/Math" ∈ AW) (hq4 : Cond.code Lib.Math.min.name Lib.Math.min.code 2 (some .int) ∈ AW) (hR : 1 ≤ R.frames ∧ 21 ≤ R.locals) (hst : (st.map fun v => v.category).sum ≤ 8) (hkn : k ≤ R.cells ∧ n ≤ R.slots) (hd : decode cc pc = .ok (.invokestatic idx, 3)) (kk : WB p l e R s m args below meth c nL G A Q k n (pc + 3) lv (.int (if y1 < x1 then y1 else x1) :: st) x) : WB p l e R s m args below meth c nL G A Q k n pc lv (.int y1 :: .int x1 :: st) x := by
  intro H locs ls h1 h2 h3
  exact va_mmin C.hx C.b (C.ml.trans h1.1.symm) C.ow (C.ts _ hq1) (C.ts _ hq2) (C.ts _ hq3) (C.ts _ hq4) hR.1 (by have := hR.2; omega) hkn.1 hkn.2 hd (kk H locs ls h1 h2 h3)

theorem b_mmax (C : CT p s m args meth c cc nL own ret G A) {idx : Nat} {x1 y1 : Int32} (hq1 : Cond.methodLink own idx Lib.Math.max.name ∈ AW) (hq2 : Cond.static Lib.Math.max.name ∈ AW) (hq3 : Cond.initialized "java/lang/Math" ∈ AW) (hq4 : Cond.code Lib.Math.max.name Lib.Math.max.code 2 (some .int) ∈ AW) (hR : 1 ≤ R.frames ∧ 21 ≤ R.locals) (hst : (st.map fun v => v.category).sum ≤ 8) (hkn : k ≤ R.cells ∧ n ≤ R.slots) (hd : decode cc pc = .ok (.invokestatic idx, 3)) (kk : WB p l e R s m args below meth c nL G A Q k n (pc + 3) lv (.int (if x1 < y1 then y1 else x1) :: st) x) : WB p l e R s m args below meth c nL G A Q k n pc lv (.int y1 :: .int x1 :: st) x := by
  intro H locs ls h1 h2 h3
  exact va_mmax C.hx C.b (C.ml.trans h1.1.symm) C.ow (C.ts _ hq1) (C.ts _ hq2) (C.ts _ hq3) (C.ts _ hq4) hR.1 (by have := hR.2; omega) hkn.1 hkn.2 hd (kk H locs ls h1 h2 h3)

theorem b_copy (C : CT p s m args meth c cc nL own ret G A) {idx i j : Nat} {sp dp z : Int32} (hq1 : Cond.methodLink own idx arraycopyName ∈ AW) (hq2 : Cond.native arraycopyName ∈ AW) (hq3 : Cond.static arraycopyName ∈ AW) (hq4 : Cond.initialized "java/lang/System" ∈ AW) (hi : KD G i 8) (hj : KD G j 8) (hg : ¬ (sp < 0 ∨ dp < 0 ∨ z < 0 ∨ ln i < sp.toNatClampNeg + z.toNatClampNeg ∨ ln j < dp.toNatClampNeg + z.toNatClampNeg)) (hR : 1 ≤ R.frames ∧ 40 ≤ R.locals) (hst : (st.map fun v => v.category).sum ≤ 8) (hd : decode cc pc = .ok (.invokestatic idx, 3)) (kk : WB p l e R s m args below meth c nL G A Q k n (pc + 3) lv (st) (upR x j (va_cpy (x.1 i) (x.1 j) sp.toNatClampNeg dp.toNatClampNeg z.toNatClampNeg))) : WB p l e R s m args below meth c nL G A Q k n pc lv (.int z :: .int dp :: .ref (G.2.2 j) :: .int sp :: .ref (G.2.2 i) :: st) x := by
  intro H locs ls h1 h2 h3
  simp only [not_or, Nat.not_lt] at hg
  obtain ⟨g1, g2, g3, g4, g5⟩ := hg
  obtain ⟨ki, ki0, ki1⟩ := wl_get G x hi.1
  obtain ⟨kj, kj0, kj1⟩ := wl_get G x hj.1
  have h9 : (st.map fun v => v.category).sum + (nativeFrameWords "java/lang/System" "arraycopy" 5 + 11) ≤ R.locals := by
    have h8 : nativeFrameWords "java/lang/System" "arraycopy" 5 + 11 ≤ 32 := by decide
    have h7 := hR.2
    omega
  refine va_copyi C.hx C.b (C.ml.trans h1.1.symm) C.ow (C.ts _ hq1) (C.ts _ hq2) (C.ts _ hq3) (C.ts _ hq4) C.K h2 (wl_D C.D x) h3 ki kj 0 0 (by rw [ki1, gE_8 hi.2]) (by rw [kj1, gE_8 hj.2]) rfl rfl rfl g1 g2 g3 g4 g5 (fun _ _ => rfl) hR.1 h9 hd (fun H1 locs1 q1 _ q3 => ?_)
  rw [wl_upR (f := va_cpy (x.1 i) (x.1 j) sp.toNatClampNeg dp.toNatClampNeg z.toNatClampNeg) C.nd kj0 (by rw [gE_8 hj.2, upR_same])] at q1
  exact kk H1 locs1 ls h1 q1 q3

/-! contracts: by the kind of the answer; res is the answer and the numbers behind -/
def cI (l : Launch) (y : MethodName) (b : ByteArray) (nl : Nat) (r : FieldType) (rm : Room) (as : List Value) (G : gT) (x : xS) (res : Int32 × xS) : Prop := ∀ sz, Met l y (ws_ y b nl (some r)) rm (va_Pc as (fun U => U.heap.size = sz ∧ PW G x U)) (va_Qi (fun v u => res = (v, u)) (fun u t => PW G u t) (pA G sz)) 0 0 (pA G sz)
def cV (l : Launch) (y : MethodName) (b : ByteArray) (nl : Nat) (rm : Room) (as : List Value) (G : gT) (x : xS) (res : xS) : Prop := ∀ sz, Met l y (ws_ y b nl none) rm (va_Pc as (fun U => U.heap.size = sz ∧ PW G x U)) (va_Qv (fun u => res = u) (fun u t => PW G u t) (pA G sz)) 0 0 (pA G sz)
def cJ (l : Launch) (y : MethodName) (b : ByteArray) (nl : Nat) (rm : Room) (as : List Value) (G : gT) (x : xS) (res : Int64 × xS) : Prop := ∀ sz, Met l y (ws_ y b nl (some .long)) rm (va_Pc as (fun U => U.heap.size = sz ∧ PW G x U)) (va_Ql (fun v u => res = (v, u)) (fun u t => PW G u t) (pA G sz)) 0 0 (pA G sz)
def cD (l : Launch) (y : MethodName) (b : ByteArray) (nl : Nat) (rm : Room) (as : List Value) (G : gT) (x : xS) (res : UInt64 × xS) : Prop := ∀ sz, Met l y (ws_ y b nl (some .double)) rm (va_Pc as (fun U => U.heap.size = sz ∧ PW G x U)) (va_Qd (fun v u => res = (v, u)) (fun u t => PW G u t) (pA G sz)) 0 0 (pA G sz)
def cQ (l : Launch) (y : MethodName) (b : ByteArray) (nl : Nat) (r : FieldType) (rm : Room) (as : List Value) (G : gT) (x : xS) (res : Option Nat × xS) : Prop := ∀ sz, Met l y (ws_ y b nl (some r)) rm (va_Pc as (fun U => U.heap.size = sz ∧ PW G x U)) (va_Qq (fun v u => (res.1.map G.2.2, res.2) = (v, u)) (fun u t => PW G u t) (pA G sz)) 0 0 (pA G sz)
/-- the end that a body owes -/
def qI (below : List Frame) (G : gT) (res : Int32 × xS) (args : Array Value) (s : State) (k n : Nat) : State → Prop := MQ below (va_Qi (fun v u => res = (v, u)) (fun u t => PW G u t) (pA G s.heap.size)) args s k n (pA G s.heap.size)
def qV (below : List Frame) (G : gT) (res : xS) (args : Array Value) (s : State) (k n : Nat) : State → Prop := MQ below (va_Qv (fun u => res = u) (fun u t => PW G u t) (pA G s.heap.size)) args s k n (pA G s.heap.size)
def qJ (below : List Frame) (G : gT) (res : Int64 × xS) (args : Array Value) (s : State) (k n : Nat) : State → Prop := MQ below (va_Ql (fun v u => res = (v, u)) (fun u t => PW G u t) (pA G s.heap.size)) args s k n (pA G s.heap.size)
def qD (below : List Frame) (G : gT) (res : UInt64 × xS) (args : Array Value) (s : State) (k n : Nat) : State → Prop := MQ below (va_Qd (fun v u => res = (v, u)) (fun u t => PW G u t) (pA G s.heap.size)) args s k n (pA G s.heap.size)
def qQ (below : List Frame) (G : gT) (res : Option Nat × xS) (args : Array Value) (s : State) (k n : Nat) : State → Prop := MQ below (va_Qq (fun v u => (res.1.map G.2.2, res.2) = (v, u)) (fun u t => PW G u t) (pA G s.heap.size)) args s k n (pA G s.heap.size)
theorem PW_end {H : Heap} {t : State} (C : CT p s m args meth c cc nL own ret G (pA G s.heap.size)) (h2 : va_P G.1 vwCl (wl G x) H) (ht : t.heap = H) (hW : s.WarmedH t.vm) : PW G x t := ⟨by rw [ht]; exact h2, va_K.moved hW.alike C.K, C.D.1, C.nw.warm hW⟩

theorem b_ireti (C : CT p s m args meth c cc nL own (some .int) G (pA G s.heap.size)) {v : Int32} {res : Int32 × xS} (hd : decode cc pc = .ok (.ireturn, 1)) (hf : some (v, x) = some res) : WB p l e R s m args below meth c nL G (pA G s.heap.size) (qI below G res args s k n) k n pc lv [.int v] x := fun H locs ls h1 h2 h3 =>
  W.iret C.hx C.b C.r (fun t ht hW => ⟨⟨v, x, rfl, (Option.some.inj hf).symm, PW_end C h2 ht hW⟩, h3.F ht⟩) h3.2.2 hd C.lk
theorem b_iretz (C : CT p s m args meth c cc nL own (some .boolean) G (pA G s.heap.size)) {v : Int32} {res : Int32 × xS} (hv : v &&& 1 = v) (hd : decode cc pc = .ok (.ireturn, 1)) (hf : some (v, x) = some res) : WB p l e R s m args below meth c nL G (pA G s.heap.size) (qI below G res args s k n) k n pc lv [.int v] x := fun H locs ls h1 h2 h3 =>
  W.zret C.hx C.b C.r (by show Value.int (v &&& 1) = .int v; rw [hv]) (fun t ht hW => ⟨⟨v, x, rfl, (Option.some.inj hf).symm, PW_end C h2 ht hW⟩, h3.F ht⟩) h3.2.2 hd C.lk
theorem b_vret (C : CT p s m args meth c cc nL own none G (pA G s.heap.size)) {res : xS} (hd : decode cc pc = .ok (.return_, 1)) (hf : some x = some res) : WB p l e R s m args below meth c nL G (pA G s.heap.size) (qV below G res args s k n) k n pc lv [] x := fun H locs ls h1 h2 h3 =>
  W.vret C.hx C.b C.r (fun t ht hW => ⟨⟨x, rfl, (Option.some.inj hf).symm, PW_end C h2 ht hW⟩, h3.F ht⟩) h3.2.2 hd C.lk
theorem b_lret (C : CT p s m args meth c cc nL own (some .long) G (pA G s.heap.size)) {v : Int64} {res : Int64 × xS} (hd : decode cc pc = .ok (.lreturn, 1)) (hf : some (v, x) = some res) : WB p l e R s m args below meth c nL G (pA G s.heap.size) (qJ below G res args s k n) k n pc lv [.long v] x := fun H locs ls h1 h2 h3 =>
  W.lret C.hx C.b C.r (fun t ht hW => ⟨⟨v, x, rfl, (Option.some.inj hf).symm, PW_end C h2 ht hW⟩, h3.F ht⟩) h3.2.2 hd C.lk
theorem b_dret (C : CT p s m args meth c cc nL own (some .double) G (pA G s.heap.size)) {v : UInt64} {res : UInt64 × xS} (hd : decode cc pc = .ok (.dreturn, 1)) (hf : some (v, x) = some res) : WB p l e R s m args below meth c nL G (pA G s.heap.size) (qD below G res args s k n) k n pc lv [.double v] x := fun H locs ls h1 h2 h3 =>
  W.dret C.hx C.b C.r (fun t ht hW => ⟨⟨v, x, rfl, (Option.some.inj hf).symm, PW_end C h2 ht hW⟩, h3.F ht⟩) h3.2.2 hd C.lk
/-- a method's contract out of its body -/
theorem b_body {y : MethodName} {b : ByteArray} {nl : Nat} {r : Option FieldType} {rm : Room} {as : List Value} {lv0 : List (Nat × Value)} {Qc : Nat → Array Value → State → Outcome → State → Prop} (hy : plainName y.cls = true) (hsl : (lg_sl as).length ≤ nl) (hlv : lv_args 0 as = lv0)
    (body : ∀ (p : Program) (e : Env) (s : State) (m : MethodId) (args : Array Value) (below : List Frame) (meth : Method) (c : Code), CT p s m args meth c b nl y.cls r G (pA G s.heap.size) → WB p l e rm s m args below meth c nl G (pA G s.heap.size) (MQ below (Qc s.heap.size) args s 0 0 (pA G s.heap.size)) 0 0 0 lv0 [] x) :
    ∀ sz, Met l y (ws_ y b nl r) rm (va_Pc as (fun U => U.heap.size = sz ∧ PW G x U)) (Qc sz) 0 0 (pA G sz) := by
  intro sz
  refine Met.ofW (cc := b) (maxL := nl) (ret := r) hy rfl ?_
  intro p e s m args below meth c s₁ B hml hv
  obtain ⟨rfl, hsz, hP, hK, hJ, hN⟩ := hv
  subst hsz
  have hts := atoms_spec (ws := ws_ y b nl r) B.pre
  have C : CT p s m as.toArray meth c b nl y.cls r G (pA G s.heap.size) := ⟨B.exec, B.bytes, hml, findClass_of_methodNamed B.named, fun w hw => hts w (List.mem_cons_of_mem _ hw), hK, ⟨hJ, fun i hi => Or.inl ⟨i, hi, rfl⟩⟩, fun q hq => Or.inr hq, B.returns, B.notSynchronized, hN⟩
  have hl := lv_entry as (n := nl) hsl
  rw [lg_entry_eq]
  rw [hlv] at hl
  exact body p e s m as.toArray below meth c C s.heap [] _ hl hP va_S.rf
/-! calls of methods of the pool -/
theorem fb_pc {as : List Value} {sz : Nat} : FrameBlind (va_Pc as (fun U => U.heap.size = sz ∧ PW G x U)) := fun a U g mk q => ⟨q.1, q.2.1, q.2.2.blind g mk a⟩
theorem b_preS {H : Heap} (C : CT p s m args meth c cc nL own ret G A) (h2 : va_P G.1 vwCl (wl G x) H) (as : List Value) : PreS s H (va_Pc as (fun U => U.heap.size = H.size ∧ PW G x U)) as := ⟨fb_pc, fun U hU hW => ⟨rfl, by rw [hU], ⟨by rw [hU]; exact h2, va_K.moved hW.alike C.K, C.D.1, C.nw.warm hW⟩⟩⟩
theorem b_preV {H : Heap} (C : CT p s m args meth c cc nL own ret G A) (h2 : va_P G.1 vwCl (wl G x) H) {i K N : Nat} {Cn : String} {T : u_T} (hk : KD G i K) (hK : K < 8) (hc : vwCl[K]? = some (Cn, T, N)) (as : List Value) : PreV s H Cn (G.2.2 i) (va_Pc (.ref (G.2.2 i) :: as) (fun U => U.heap.size = H.size ∧ PW G x U)) as :=
  ⟨fb_pc, (by obtain ⟨k0, hk0, hk1⟩ := wl_get G x hk.1; exact va_recv C.K h2 hc (q0 := k0) (by rw [hk1, gE_obj hk.2 hK])), fun U hU hW => ⟨rfl, by rw [hU], ⟨by rw [hU]; exact h2, va_K.moved hW.alike C.K, C.D.1, C.nw.warm hW⟩⟩⟩
theorem CT.fix (C : CT p s m args meth c cc nL own ret G A) : CallFix p m c cc nL s args AW own := ⟨C.hx, C.b, C.ml, C.ow, C.ts⟩

theorem b_callVi (C : CT p s m args meth c cc nL own ret G A) {i K N idx nl na : Nat} {Cn : String} {T : u_T} {y : MethodName} {b : ByteArray} {r : FieldType} {rm : Room} {As stk : List Value} {res : Int32 × xS} (h : cI l y b nl r rm (.ref (G.2.2 i) :: As) G x res) (hk : KD G i K) (hK : K < 8) (hc : vwCl[K]? = some (Cn, T, N)) (hg : GoodIn AW (wsV own idx Cn y (ws_ y b nl (some r)))) (hd1 : y.cls = Cn ∧ y.cls ≠ "java/lang/invoke/MethodHandle" ∧ y.cls ≠ "java/lang/invoke/VarHandle" ∧ (parseMethodDescriptor y.desc).map (fun d => d.parameters.length) = some na) (hna : As.length = na) (hrm : rm.cells = 0 ∧ rm.slots = 0) (hR : rm.frames + 1 ≤ R.frames ∧ 8 + (nl + 11) + rm.locals ≤ R.locals) (hst : (st.map fun v => v.category).sum ≤ 8) (hkn : k ≤ R.cells ∧ n ≤ R.slots) (hstk : stk = As.reverse ++ .ref (G.2.2 i) :: st) (hd : decode cc pc = .ok (.invokevirtual idx, 3)) (kk : WB p l e R s m args below meth c nL G A Q k n (pc + 3) lv (.int res.1 :: st) res.2) : WB p l e R s m args below meth c nL G A Q k n pc lv stk x := by
  intro H locs ls h1 h2 h3
  subst hstk
  refine va_calli (va_runV (As := As) (rest := st) C.fix (h H.size) (cwV na C.ts hg rfl hrm.1 hrm.2 hd1 hR) (b_preV C h2 hk hK hc As) rfl hna h1.1 rfl (by simpa using hst) hd hkn) h3 (fun q _ hq => C.pA h3.1 q hq) (fun q hq => C.pA h3.1 q hq) ?_
  intro v u t H1 locs1 ht hvm hp hB hz hk1 hS
  subst hp
  exact kk H1 locs1 ls h1 (by rw [← ht]; exact hB.1) hS

theorem b_callSi (C : CT p s m args meth c cc nL own ret G A) {idx nl na : Nat} {y : MethodName} {b : ByteArray} {r : FieldType} {rm : Room} {As stk : List Value} {res : Int32 × xS} (h : cI l y b nl r rm As G x res) (hg : GoodIn AW (va_wsS own idx y (ws_ y b nl (some r)))) (hd1 : y.cls ≠ "java/lang/invoke/MethodHandle" ∧ y.cls ≠ "java/lang/invoke/VarHandle" ∧ (parseMethodDescriptor y.desc).map (fun d => d.parameters.length) = some na) (hna : As.length = na) (hrm : rm.cells = 0 ∧ rm.slots = 0) (hR : rm.frames + 1 ≤ R.frames ∧ 8 + (nl + 11) + rm.locals ≤ R.locals) (hst : (st.map fun v => v.category).sum ≤ 8) (hkn : k ≤ R.cells ∧ n ≤ R.slots) (hstk : stk = As.reverse ++ st) (hd : decode cc pc = .ok (.invokestatic idx, 3)) (kk : WB p l e R s m args below meth c nL G A Q k n (pc + 3) lv (.int res.1 :: st) res.2) : WB p l e R s m args below meth c nL G A Q k n pc lv stk x := by
  intro H locs ls h1 h2 h3
  subst hstk
  refine va_calli (va_runS (As := As) (rest := st) C.fix (h H.size) (va_cwS na C.ts hg rfl hrm.1 hrm.2 hd1 hR) (b_preS C h2 As) rfl hna h1.1 rfl (by simpa using hst) hd hkn) h3 (fun q _ hq => C.pA h3.1 q hq) (fun q hq => C.pA h3.1 q hq) ?_
  intro v u t H1 locs1 ht hvm hp hB hz hk1 hS
  subst hp
  exact kk H1 locs1 ls h1 (by rw [← ht]; exact hB.1) hS

theorem b_callVv (C : CT p s m args meth c cc nL own ret G A) {i K N idx nl na : Nat} {Cn : String} {T : u_T} {y : MethodName} {b : ByteArray} {rm : Room} {As stk : List Value} {res : xS} (h : cV l y b nl rm (.ref (G.2.2 i) :: As) G x res) (hk : KD G i K) (hK : K < 8) (hc : vwCl[K]? = some (Cn, T, N)) (hg : GoodIn AW (wsV own idx Cn y (ws_ y b nl none))) (hd1 : y.cls = Cn ∧ y.cls ≠ "java/lang/invoke/MethodHandle" ∧ y.cls ≠ "java/lang/invoke/VarHandle" ∧ (parseMethodDescriptor y.desc).map (fun d => d.parameters.length) = some na) (hna : As.length = na) (hrm : rm.cells = 0 ∧ rm.slots = 0) (hR : rm.frames + 1 ≤ R.frames ∧ 8 + (nl + 11) + rm.locals ≤ R.locals) (hst : (st.map fun v => v.category).sum ≤ 8) (hkn : k ≤ R.cells ∧ n ≤ R.slots) (hstk : stk = As.reverse ++ .ref (G.2.2 i) :: st) (hd : decode cc pc = .ok (.invokevirtual idx, 3)) (kk : WB p l e R s m args below meth c nL G A Q k n (pc + 3) lv (st) res) : WB p l e R s m args below meth c nL G A Q k n pc lv stk x := by
  intro H locs ls h1 h2 h3
  subst hstk
  refine va_callv (va_runV (As := As) (rest := st) C.fix (h H.size) (cwV na C.ts hg rfl hrm.1 hrm.2 hd1 hR) (b_preV C h2 hk hK hc As) rfl hna h1.1 rfl (by simpa using hst) hd hkn) h3 (fun q _ hq => C.pA h3.1 q hq) (fun q hq => C.pA h3.1 q hq) ?_
  intro u t H1 locs1 ht hvm hp hB hz hk1 hS
  subst hp
  exact kk H1 locs1 ls h1 (by rw [← ht]; exact hB.1) hS

theorem b_callSv (C : CT p s m args meth c cc nL own ret G A) {idx nl na : Nat} {y : MethodName} {b : ByteArray} {rm : Room} {As stk : List Value} {res : xS} (h : cV l y b nl rm As G x res) (hg : GoodIn AW (va_wsS own idx y (ws_ y b nl none))) (hd1 : y.cls ≠ "java/lang/invoke/MethodHandle" ∧ y.cls ≠ "java/lang/invoke/VarHandle" ∧ (parseMethodDescriptor y.desc).map (fun d => d.parameters.length) = some na) (hna : As.length = na) (hrm : rm.cells = 0 ∧ rm.slots = 0) (hR : rm.frames + 1 ≤ R.frames ∧ 8 + (nl + 11) + rm.locals ≤ R.locals) (hst : (st.map fun v => v.category).sum ≤ 8) (hkn : k ≤ R.cells ∧ n ≤ R.slots) (hstk : stk = As.reverse ++ st) (hd : decode cc pc = .ok (.invokestatic idx, 3)) (kk : WB p l e R s m args below meth c nL G A Q k n (pc + 3) lv (st) res) : WB p l e R s m args below meth c nL G A Q k n pc lv stk x := by
  intro H locs ls h1 h2 h3
  subst hstk
  refine va_callv (va_runS (As := As) (rest := st) C.fix (h H.size) (va_cwS na C.ts hg rfl hrm.1 hrm.2 hd1 hR) (b_preS C h2 As) rfl hna h1.1 rfl (by simpa using hst) hd hkn) h3 (fun q _ hq => C.pA h3.1 q hq) (fun q hq => C.pA h3.1 q hq) ?_
  intro u t H1 locs1 ht hvm hp hB hz hk1 hS
  subst hp
  exact kk H1 locs1 ls h1 (by rw [← ht]; exact hB.1) hS

theorem b_callVl (C : CT p s m args meth c cc nL own ret G A) {i K N idx nl na : Nat} {Cn : String} {T : u_T} {y : MethodName} {b : ByteArray} {rm : Room} {As stk : List Value} {res : Int64 × xS} (h : cJ l y b nl rm (.ref (G.2.2 i) :: As) G x res) (hk : KD G i K) (hK : K < 8) (hc : vwCl[K]? = some (Cn, T, N)) (hg : GoodIn AW (wsV own idx Cn y (ws_ y b nl (some .long)))) (hd1 : y.cls = Cn ∧ y.cls ≠ "java/lang/invoke/MethodHandle" ∧ y.cls ≠ "java/lang/invoke/VarHandle" ∧ (parseMethodDescriptor y.desc).map (fun d => d.parameters.length) = some na) (hna : As.length = na) (hrm : rm.cells = 0 ∧ rm.slots = 0) (hR : rm.frames + 1 ≤ R.frames ∧ 8 + (nl + 11) + rm.locals ≤ R.locals) (hst : (st.map fun v => v.category).sum ≤ 8) (hkn : k ≤ R.cells ∧ n ≤ R.slots) (hstk : stk = As.reverse ++ .ref (G.2.2 i) :: st) (hd : decode cc pc = .ok (.invokevirtual idx, 3)) (kk : WB p l e R s m args below meth c nL G A Q k n (pc + 3) lv (.long res.1 :: st) res.2) : WB p l e R s m args below meth c nL G A Q k n pc lv stk x := by
  intro H locs ls h1 h2 h3
  subst hstk
  refine va_calll (va_runV (As := As) (rest := st) C.fix (h H.size) (cwV na C.ts hg rfl hrm.1 hrm.2 hd1 hR) (b_preV C h2 hk hK hc As) rfl hna h1.1 rfl (by simpa using hst) hd hkn) h3 (fun q _ hq => C.pA h3.1 q hq) (fun q hq => C.pA h3.1 q hq) ?_
  intro v u t H1 locs1 ht hvm hp hB hz hk1 hS
  subst hp
  exact kk H1 locs1 ls h1 (by rw [← ht]; exact hB.1) hS

theorem b_callSl (C : CT p s m args meth c cc nL own ret G A) {idx nl na : Nat} {y : MethodName} {b : ByteArray} {rm : Room} {As stk : List Value} {res : Int64 × xS} (h : cJ l y b nl rm As G x res) (hg : GoodIn AW (va_wsS own idx y (ws_ y b nl (some .long)))) (hd1 : y.cls ≠ "java/lang/invoke/MethodHandle" ∧ y.cls ≠ "java/lang/invoke/VarHandle" ∧ (parseMethodDescriptor y.desc).map (fun d => d.parameters.length) = some na) (hna : As.length = na) (hrm : rm.cells = 0 ∧ rm.slots = 0) (hR : rm.frames + 1 ≤ R.frames ∧ 8 + (nl + 11) + rm.locals ≤ R.locals) (hst : (st.map fun v => v.category).sum ≤ 8) (hkn : k ≤ R.cells ∧ n ≤ R.slots) (hstk : stk = As.reverse ++ st) (hd : decode cc pc = .ok (.invokestatic idx, 3)) (kk : WB p l e R s m args below meth c nL G A Q k n (pc + 3) lv (.long res.1 :: st) res.2) : WB p l e R s m args below meth c nL G A Q k n pc lv stk x := by
  intro H locs ls h1 h2 h3
  subst hstk
  refine va_calll (va_runS (As := As) (rest := st) C.fix (h H.size) (va_cwS na C.ts hg rfl hrm.1 hrm.2 hd1 hR) (b_preS C h2 As) rfl hna h1.1 rfl (by simpa using hst) hd hkn) h3 (fun q _ hq => C.pA h3.1 q hq) (fun q hq => C.pA h3.1 q hq) ?_
  intro v u t H1 locs1 ht hvm hp hB hz hk1 hS
  subst hp
  exact kk H1 locs1 ls h1 (by rw [← ht]; exact hB.1) hS

theorem b_callVd (C : CT p s m args meth c cc nL own ret G A) {i K N idx nl na : Nat} {Cn : String} {T : u_T} {y : MethodName} {b : ByteArray} {rm : Room} {As stk : List Value} {res : UInt64 × xS} (h : cD l y b nl rm (.ref (G.2.2 i) :: As) G x res) (hk : KD G i K) (hK : K < 8) (hc : vwCl[K]? = some (Cn, T, N)) (hg : GoodIn AW (wsV own idx Cn y (ws_ y b nl (some .double)))) (hd1 : y.cls = Cn ∧ y.cls ≠ "java/lang/invoke/MethodHandle" ∧ y.cls ≠ "java/lang/invoke/VarHandle" ∧ (parseMethodDescriptor y.desc).map (fun d => d.parameters.length) = some na) (hna : As.length = na) (hrm : rm.cells = 0 ∧ rm.slots = 0) (hR : rm.frames + 1 ≤ R.frames ∧ 8 + (nl + 11) + rm.locals ≤ R.locals) (hst : (st.map fun v => v.category).sum ≤ 8) (hkn : k ≤ R.cells ∧ n ≤ R.slots) (hstk : stk = As.reverse ++ .ref (G.2.2 i) :: st) (hd : decode cc pc = .ok (.invokevirtual idx, 3)) (kk : WB p l e R s m args below meth c nL G A Q k n (pc + 3) lv (.double res.1 :: st) res.2) : WB p l e R s m args below meth c nL G A Q k n pc lv stk x := by
  intro H locs ls h1 h2 h3
  subst hstk
  refine va_calld (va_runV (As := As) (rest := st) C.fix (h H.size) (cwV na C.ts hg rfl hrm.1 hrm.2 hd1 hR) (b_preV C h2 hk hK hc As) rfl hna h1.1 rfl (by simpa using hst) hd hkn) h3 (fun q _ hq => C.pA h3.1 q hq) (fun q hq => C.pA h3.1 q hq) ?_
  intro v u t H1 locs1 ht hvm hp hB hz hk1 hS
  subst hp
  exact kk H1 locs1 ls h1 (by rw [← ht]; exact hB.1) hS

theorem b_callSd (C : CT p s m args meth c cc nL own ret G A) {idx nl na : Nat} {y : MethodName} {b : ByteArray} {rm : Room} {As stk : List Value} {res : UInt64 × xS} (h : cD l y b nl rm As G x res) (hg : GoodIn AW (va_wsS own idx y (ws_ y b nl (some .double)))) (hd1 : y.cls ≠ "java/lang/invoke/MethodHandle" ∧ y.cls ≠ "java/lang/invoke/VarHandle" ∧ (parseMethodDescriptor y.desc).map (fun d => d.parameters.length) = some na) (hna : As.length = na) (hrm : rm.cells = 0 ∧ rm.slots = 0) (hR : rm.frames + 1 ≤ R.frames ∧ 8 + (nl + 11) + rm.locals ≤ R.locals) (hst : (st.map fun v => v.category).sum ≤ 8) (hkn : k ≤ R.cells ∧ n ≤ R.slots) (hstk : stk = As.reverse ++ st) (hd : decode cc pc = .ok (.invokestatic idx, 3)) (kk : WB p l e R s m args below meth c nL G A Q k n (pc + 3) lv (.double res.1 :: st) res.2) : WB p l e R s m args below meth c nL G A Q k n pc lv stk x := by
  intro H locs ls h1 h2 h3
  subst hstk
  refine va_calld (va_runS (As := As) (rest := st) C.fix (h H.size) (va_cwS na C.ts hg rfl hrm.1 hrm.2 hd1 hR) (b_preS C h2 As) rfl hna h1.1 rfl (by simpa using hst) hd hkn) h3 (fun q _ hq => C.pA h3.1 q hq) (fun q hq => C.pA h3.1 q hq) ?_
  intro v u t H1 locs1 ht hvm hp hB hz hk1 hS
  subst hp
  exact kk H1 locs1 ls h1 (by rw [← ht]; exact hB.1) hS

theorem b_callVq (C : CT p s m args meth c cc nL own ret G A) {i K N idx nl na : Nat} {Cn : String} {T : u_T} {y : MethodName} {b : ByteArray} {r : FieldType} {rm : Room} {As stk : List Value} {res : Option Nat × xS} (h : cQ l y b nl r rm (.ref (G.2.2 i) :: As) G x res) (hk : KD G i K) (hK : K < 8) (hc : vwCl[K]? = some (Cn, T, N)) (hg : GoodIn AW (wsV own idx Cn y (ws_ y b nl (some r)))) (hd1 : y.cls = Cn ∧ y.cls ≠ "java/lang/invoke/MethodHandle" ∧ y.cls ≠ "java/lang/invoke/VarHandle" ∧ (parseMethodDescriptor y.desc).map (fun d => d.parameters.length) = some na) (hna : As.length = na) (hrm : rm.cells = 0 ∧ rm.slots = 0) (hR : rm.frames + 1 ≤ R.frames ∧ 8 + (nl + 11) + rm.locals ≤ R.locals) (hst : (st.map fun v => v.category).sum ≤ 8) (hkn : k ≤ R.cells ∧ n ≤ R.slots) (hstk : stk = As.reverse ++ .ref (G.2.2 i) :: st) (hd : decode cc pc = .ok (.invokevirtual idx, 3)) (kk : WB p l e R s m args below meth c nL G A Q k n (pc + 3) lv (va_rf (res.1.map G.2.2) :: st) res.2) : WB p l e R s m args below meth c nL G A Q k n pc lv stk x := by
  intro H locs ls h1 h2 h3
  subst hstk
  refine va_callq (va_runV (As := As) (rest := st) C.fix (h H.size) (cwV na C.ts hg rfl hrm.1 hrm.2 hd1 hR) (b_preV C h2 hk hK hc As) rfl hna h1.1 rfl (by simpa using hst) hd hkn) h3 (fun q _ hq => C.pA h3.1 q hq) (fun q hq => C.pA h3.1 q hq) ?_
  intro v u t H1 locs1 ht hvm hp hB hz hk1 hS
  cases hp
  exact kk H1 locs1 ls h1 (by rw [← ht]; exact hB.1) hS

theorem b_callSiN (C : CT p s m args meth c cc nL RX4 ret G A) {nl na : Nat} {b : ByteArray} {r : FieldType} {rm : Room} {As stk : List Value} {res : Int32 × xS} (h : cI l yX6_isWithinNight b nl r rm As G x res) (hg : GoodIn AW (ws_ yX6_isWithinNight b nl (some r))) (hq1 : Cond.static yX6_isWithinNight ∈ AW) (hq2 : Cond.initialized yX6_isWithinNight.cls ∈ AW) (hd1 : (parseMethodDescriptor yX6_isWithinNight.desc).map (fun d => d.parameters.length) = some na) (hna : As.length = na) (hrm : rm.cells = 0 ∧ rm.slots = 0) (hR : rm.frames + 1 ≤ R.frames ∧ 8 + (nl + 11) + rm.locals ≤ R.locals) (hst : (st.map fun v => v.category).sum ≤ 8) (hkn : k ≤ R.cells ∧ n ≤ R.slots) (hstk : stk = As.reverse ++ st) (hd : decode cc pc = .ok (.invokestatic 67, 3)) (kk : WB p l e R s m args below meth c nL G A Q k n (pc + 3) lv (.int res.1 :: st) res.2) : WB p l e R s m args below meth c nL G A Q k n pc lv stk x := by
  intro H locs ls h1 h2 h3
  subst hstk
  refine va_calli (va_runSN (host := "SevenAsks") (As := As) (rest := st) C.fix (h H.size) ⟨va_cnB na C.ts hg rfl hrm.1 hrm.2 C.nw.2 (C.ts _ hq2) ⟨by decide, by decide, hd1⟩ hR, C.ts _ hq1, trivial⟩ (b_preS C h2 As) rfl hna h1.1 rfl (by simpa using hst) hd hkn) h3 (fun q _ hq => C.pA h3.1 q hq) (fun q hq => C.pA h3.1 q hq) ?_
  intro v u t H1 locs1 ht hvm hp hB hz hk1 hS
  subst hp
  exact kk H1 locs1 ls h1 (by rw [← ht]; exact hB.1) hS

theorem b_qret {on : String} (C : CT p s m args meth c cc nL own (some (.object on)) G (pA G s.heap.size)) {v : Value} {w : Option Nat} {res : Option Nat × xS} (hw : v = va_rf (w.map G.2.2)) (hd : decode cc pc = .ok (.areturn, 1)) (hf : some (w, x) = some res) : WB p l e R s m args below meth c nL G (pA G s.heap.size) (qQ below G res args s k n) k n pc lv [v] x := fun H locs ls h1 h2 h3 => by
  cases Option.some.inj hf
  exact W.aret C.hx C.b C.r (Or.inl ⟨_, rfl⟩) (by rw [hw]; cases w <;> simp [va_rf]) (fun t ht hW => ⟨⟨w.map G.2.2, x, by rw [hw], rfl, PW_end C h2 ht hW⟩, h3.F ht⟩) h3.2.2 hd C.lk

end WW
/-- a number that is its own lowest bit -/
theorem z01 {v : Int32} (h : v &&& 1 = v) : v = 0 ∨ v = 1 := by
  have h1 : v &&& 1 = nI (v.toBitVec.toNat % 2 ^ 1) := pk_and v 1 (by decide)
  rw [h1] at h
  have h2 : v.toBitVec.toNat % 2 ^ 1 = 0 ∨ v.toBitVec.toNat % 2 ^ 1 = 1 := by omega
  rcases h2 with h2 | h2
  · left; rw [← h, h2]; rfl
  · right; rw [← h, h2]; rfl
theorem fitz {v : Int32} (h : v &&& 1 = v) : fits .boolean (.int v) = true := by
  rcases z01 h with rfl | rfl <;> decide
theorem iP {c : Prop} {d : Decidable c} {α : Type} {b : Option α} {r : α} (hf : (@ite (Option α) c d b none) = some r) : c ∧ b = some r := by
  by_cases h : c
  · rw [if_pos h] at hf; exact ⟨h, hf⟩
  · rw [if_neg h] at hf; cases hf
/-- a name for a value -/
def lt1 {α β : Type} (a : α) (f : α → Option β) : Option β := f a
theorem lN1 {α β : Type} {a : α} {f : α → Option β} {y : β} (h : lt1 a f = some y) : ∃ z, a = z ∧ f z = some y := ⟨a, rfl, h⟩
def FU : Nat := 2000

