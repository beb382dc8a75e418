theorem y_kd12 : ∀ i, i < 203 → kd i = 0 ∨ kd i = 1 ∨ kd i = 2 ∨ kd i = 3 ∨ kd i = 4 ∨ kd i = 5 ∨ kd i = 6 ∨ kd i = 8 ∨ kd i = 9 ∨ kd i = 10 := by decide +kernel
theorem y_gE {D : va_G} {cy : Nat → ClassId} {L L' : List Nat} {ad ad' : Nat → Nat} {x x' : xS} {i i' : Nat} (hc : CL (D, (cy, L), ad)) (hi : i ∈ L) (h10 : kd i ≠ 10) (hk : kd i' = kd i) (hl : ln i' = ln i) (hr : gR i' = gR i) (hg : gC i' = gC i) (ha : ∀ d, i + d ∈ L → ad' (i' + d) = ad (i + d)) (h1 : x'.1 i' = x.1 i) (h2 : x'.2 i' = x.2 i) : gE (D, (cy, L'), ad') x' i' = gE (D, (cy, L), ad) x i := by
  obtain ⟨hlt, c0, c1, c2, c3, c4, c5, c6, -⟩ := hc i hi
  have c0 : kd i = 0 → i + 1 ∈ L := c0
  have c1 : kd i = 1 → i + 1 ∈ L := c1
  have c2 : kd i = 2 → i + 1 ∈ L := c2
  have c3 : kd i = 3 → i + 1 ∈ L ∧ i + 4 ∈ L ∧ i + 6 ∈ L ∧ i + 8 ∈ L := c3
  have c4 : kd i = 4 → i + 1 ∈ L := c4
  have c5 : kd i = 5 → i + 1 ∈ L ∧ i + 2 ∈ L := c5
  have c6 : kd i = 6 → i + 1 ∈ L ∧ i + 11 ∈ L ∧ i + 34 ∈ L ∧ i + 97 ∈ L ∧ i + 99 ∈ L := c6
  rcases y_kd12 i hlt with h | h | h | h | h | h | h | h | h | h
  · rw [gE_obj (K := 0) (hk.trans h) (by decide), gE_obj (K := 0) h (by decide)]
    simp only [gF, h1, ha 1 (c0 h)]
  · rw [gE_obj (K := 1) (hk.trans h) (by decide), gE_obj (K := 1) h (by decide)]
    simp only [gF, ha 1 (c1 h)]
  · rw [gE_obj (K := 2) (hk.trans h) (by decide), gE_obj (K := 2) h (by decide)]
    simp only [gF, hr, hg, ha 1 (c2 h)]
  · rw [gE_obj (K := 3) (hk.trans h) (by decide), gE_obj (K := 3) h (by decide)]
    simp only [gF, ha 1 (c3 h).1, ha 4 (c3 h).2.1, ha 6 (c3 h).2.2.1, ha 8 (c3 h).2.2.2]
  · rw [gE_obj (K := 4) (hk.trans h) (by decide), gE_obj (K := 4) h (by decide)]
    simp only [gF, h1, ha 1 (c4 h)]
  · rw [gE_obj (K := 5) (hk.trans h) (by decide), gE_obj (K := 5) h (by decide)]
    simp only [gF, ha 1 (c5 h).1, ha 2 (c5 h).2]
  · rw [gE_obj (K := 6) (hk.trans h) (by decide), gE_obj (K := 6) h (by decide)]
    simp only [gF, h1, ha 1 (c6 h).1, ha 11 (c6 h).2.1, ha 34 (c6 h).2.2.1, ha 97 (c6 h).2.2.2.1, ha 99 (c6 h).2.2.2.2]
  · unfold gE
    rw [hk, h]
    show (.inl (cy 0, ln i', .inl (x'.1 i')) : va_E) = .inl (cy 0, ln i, .inl (x.1 i))
    rw [hl, h1]
  · unfold gE
    rw [hk, h]
    show (.inl (cy 1, ln i', .inl (x'.1 i')) : va_E) = .inl (cy 1, ln i, .inl (x.1 i))
    rw [hl, h1]
  · exact absurd h h10
theorem y_m10 {j : Nat} : j ∈ y_L10 ↔ 1 ≤ j ∧ j < 11 := by
  unfold y_L10
  simp only [List.mem_cons, List.not_mem_nil, or_false]
  omega
theorem y_sf1 : ∀ j, j < 11 → 1 ≤ j → kd j ≠ 10 := by decide +kernel
def y_ad1 (h0 : Nat) (u : y_U) : Nat → Nat := fun i =>
  if i = 0 then h0 else if i < 11 then u.1 i else if i = 11 then u.2.1.1 else if i = 12 then u.2.1.2.1.1 else if i = 13 then u.2.1.2.1.2
  else if i < 34 then u.2.1.2.2 ((i - 14) / 10) ((i - 14) % 10 + 1) else if i = 34 then u.2.2.1.1 else if i = 35 then u.2.2.1.2.1.1 else if i = 36 then u.2.2.1.2.1.2
  else if i < 97 then u.2.2.1.2.2 ((i - 37) / 10) ((i - 37) % 10 + 1) else if i = 97 then u.2.2.2.1.1 else if i = 98 then u.2.2.2.1.2 else if i = 99 then u.2.2.2.2.1 else u.2.2.2.2.2
def y_ad (h0 : Nat) (u : y_U) (h1 : Nat) (v : y_U) (o : Nat) : Nat → Nat := fun i => if i < 101 then y_ad1 h0 u i else if i < 202 then y_ad1 h1 v (i - 101) else o
def y_b0 : Nat → Nat → Int32 := fun i => if 1 ≤ i ∧ i < 11 then z_xH.1 i else if 14 ≤ i ∧ i < 34 then z_xH.1 ((i - 14) % 10 + 1) else if 37 ≤ i ∧ i < 97 then z_xH.1 ((i - 37) % 10 + 1) else fun _ => 0
def y_x0 : xS := (fun i => if i < 101 then y_b0 i else if i < 202 then y_b0 (i - 101) else fun _ => 0, fun _ _ => 0)
def y_G (D : va_G) (cy : Nat → ClassId) (ad : Nat → Nat) : gT := (D, (cy, List.range 203), ad)
theorem y_adA {h0 : Nat} {u : y_U} {h1 : Nat} {v : y_U} {o i : Nat} (h : i < 101) : y_ad h0 u h1 v o i = y_ad1 h0 u i := if_pos h
theorem y_adB {h0 : Nat} {u : y_U} {h1 : Nat} {v : y_U} {o i : Nat} (h : i < 101) : y_ad h0 u h1 v o (101 + i) = y_ad1 h1 v i := by
  unfold y_ad
  rw [if_neg (by omega), if_pos (by omega), Nat.add_sub_cancel_left]
theorem y_xA {i : Nat} (h : i < 101) : y_x0.1 i = y_b0 i := if_pos h
theorem y_xB {i : Nat} (h : i < 101) : y_x0.1 (101 + i) = y_b0 i := by
  show (if _ then _ else _) = _
  rw [if_neg (by omega), if_pos (by omega), Nat.add_sub_cancel_left]
theorem y_ad11 {h0 : Nat} {u : y_U} {j : Nat} (h1 : 1 ≤ j) (h2 : j < 11) : y_ad1 h0 u j = u.1 j := by
  unfold y_ad1
  rw [if_neg (by omega), if_pos h2]
theorem y_ad12 {h0 : Nat} {u : y_U} {k j : Nat} (hk : k < 2) (h1 : 1 ≤ j) (h2 : j < 11) : y_ad1 h0 u (13 + 10 * k + j) = u.2.1.2.2 k j := by
  unfold y_ad1
  rw [if_neg (by omega), if_neg (by omega), if_neg (by omega), if_neg (by omega), if_neg (by omega), if_pos (by omega), show (13 + 10 * k + j - 14) / 10 = k by omega, show (13 + 10 * k + j - 14) % 10 + 1 = j by omega]
theorem y_ad16 {h0 : Nat} {u : y_U} {k j : Nat} (hk : k < 6) (h1 : 1 ≤ j) (h2 : j < 11) : y_ad1 h0 u (36 + 10 * k + j) = u.2.2.1.2.2 k j := by
  unfold y_ad1
  rw [if_neg (by omega), if_neg (by omega), if_neg (by omega), if_neg (by omega), if_neg (by omega), if_neg (by omega), if_neg (by omega), if_neg (by omega), if_neg (by omega), if_pos (by omega), show (36 + 10 * k + j - 37) / 10 = k by omega, show (36 + 10 * k + j - 37) % 10 + 1 = j by omega]
theorem y_b1 {j : Nat} (h1 : 1 ≤ j) (h2 : j < 11) : y_b0 j = z_xH.1 j := by
  unfold y_b0
  exact if_pos ⟨h1, h2⟩
theorem y_b2 {k j : Nat} (hk : k < 2) (h1 : 1 ≤ j) (h2 : j < 11) : y_b0 (13 + 10 * k + j) = z_xH.1 j := by
  unfold y_b0
  rw [if_neg (by omega), if_pos (by omega), show (13 + 10 * k + j - 14) % 10 + 1 = j by omega]
theorem y_b6 {k j : Nat} (hk : k < 6) (h1 : 1 ≤ j) (h2 : j < 11) : y_b0 (36 + 10 * k + j) = z_xH.1 j := by
  unfold y_b0
  rw [if_neg (by omega), if_neg (by omega), if_pos (by omega), show (36 + 10 * k + j - 37) % 10 + 1 = j by omega]
theorem y_eH {D : va_G} {cy : Nat → ClassId} {ad adk : Nat → Nat} {i j : Nat} (h1 : 1 ≤ j) (h2 : j < 11) (hf : kd i = kd j ∧ ln i = ln j ∧ gR i = gR j ∧ gC i = gC j ∧ kd j ≠ 10) (hx : y_x0.1 i = z_xH.1 j) (ha : ∀ d, j + d < 11 → ad (i + d) = adk (j + d)) : (ad i, gE (y_G D cy ad) y_x0 i) = (adk j, gE (z_GH D cy adk) z_xH j) := by
  refine Prod.ext (ha 0 (by omega)) ?_
  exact y_gE (z_clH D cy adk) (y_m10.mpr ⟨h1, h2⟩) hf.2.2.2.2 hf.1 hf.2.1 hf.2.2.1 hf.2.2.2.1 (fun d hd => ha d (y_m10.mp hd).2) hx rfl
theorem y_Pm {D : va_G} {cl : List vw_C} {ws : va_W} {H : Heap} (hP : va_P D cl ws H) {q : Nat × va_E} (hq : q ∈ ws) : va_at D cl q H := by
  obtain ⟨k, hk⟩ := List.getElem?_of_mem hq
  exact hP k q hk
theorem y_arr {D : va_G} {cl : List vw_C} {a N : Nat} {c : ClassId} {f g : Nat → Option Nat} {H : Heap} (hfg : ∀ k, k < N → f k = g k) (h : va_at D cl (a, .inl (c, N, .inr (.inr (.inr (.inr f))))) H) : va_at D cl (a, .inl (c, N, .inr (.inr (.inr (.inr g))))) H := by
  have h : H[a]? = some (arrV c N (fun j => va_rf (f j))) := h
  show H[a]? = some (arrV c N (fun j => va_rf (g j)))
  rw [h]
  unfold arrV
  congr 3
  funext j
  show va_rf (f j.val) = va_rf (g j.val)
  rw [hfg j.val j.isLt]
theorem y_wlm {D : va_G} {cy : Nat → ClassId} {L : List Nat} {ad : Nat → Nat} {x : xS} {j : Nat} (h : j ∈ L) : (ad j, gE (D, (cy, L), ad) x j) ∈ wl (D, (cy, L), ad) x := by
  unfold wl
  exact List.mem_map.mpr ⟨j, h, rfl⟩
def y_all (D : va_G) (cy : Nat → ClassId) (h0 : Nat) (u : y_U) (h1 : Nat) (v : y_U) (o : Nat) : va_W := (y_w7 D cy h1 v ++ y_w7 D cy h0 u) ++ [(o, .inl (cy 0, 1, .inl (fun _ => 0)))]
theorem y_sf0A : ∀ j, j < 11 → 1 ≤ j → kd (j) = kd j ∧ ln (j) = ln j ∧ gR (j) = gR j ∧ gC (j) = gC j ∧ kd j ≠ 10 := by decide +kernel
theorem y_sf2A : ∀ k, k < 2 → ∀ j, j < 11 → 1 ≤ j → kd ((13 + 10 * k + j)) = kd j ∧ ln ((13 + 10 * k + j)) = ln j ∧ gR ((13 + 10 * k + j)) = gR j ∧ gC ((13 + 10 * k + j)) = gC j ∧ kd j ≠ 10 := by decide +kernel
theorem y_sf6A : ∀ k, k < 6 → ∀ j, j < 11 → 1 ≤ j → kd ((36 + 10 * k + j)) = kd j ∧ ln ((36 + 10 * k + j)) = ln j ∧ gR ((36 + 10 * k + j)) = gR j ∧ gC ((36 + 10 * k + j)) = gC j ∧ kd j ≠ 10 := by decide +kernel
set_option maxRecDepth 100000 in
theorem y_mergeA {D : va_G} {cy : Nat → ClassId} {H : Heap} {h0 h1 o : Nat} {u v : y_U} (m7 : ∀ q : Nat × va_E, q ∈ y_w7 D cy h0 u → va_at D vwCl q H) : ∀ i, i < 101 → va_at D vwCl (y_ad h0 u h1 v o (i), gE (y_G D cy (y_ad h0 u h1 v o)) y_x0 (i)) H := by
  have mh : ∀ q : Nat × va_E, q ∈ ([(h0, .inr (6, [.ref (u.1 1), .ref u.2.1.1, .ref u.2.2.1.1, .ref u.2.2.2.1.1, .ref u.2.2.2.2.1, .int 0, .int 0]))] : va_W) → va_at D vwCl q H := fun q hq => m7 q (List.mem_append_left _ hq)
  have m1 : ∀ q : Nat × va_E, q ∈ wl (z_GH D cy u.1) z_xH → va_at D vwCl q H := fun q hq => m7 q (List.mem_append_right _ (List.mem_append_left _ (List.mem_append_left _ (List.mem_append_left _ (List.mem_append_left _ hq)))))
  have m2 : ∀ q : Nat × va_E, q ∈ y_sh D cy 2 u.2.1 → va_at D vwCl q H := fun q hq => m7 q (List.mem_append_right _ (List.mem_append_left _ (List.mem_append_left _ (List.mem_append_left _ (List.mem_append_right _ hq)))))
  have m6 : ∀ q : Nat × va_E, q ∈ y_sh D cy 6 u.2.2.1 → va_at D vwCl q H := fun q hq => m7 q (List.mem_append_right _ (List.mem_append_left _ (List.mem_append_left _ (List.mem_append_right _ hq))))
  have mb : ∀ q : Nat × va_E, q ∈ y_bd cy u.2.2.2.1 → va_at D vwCl q H := fun q hq => m7 q (List.mem_append_right _ (List.mem_append_left _ (List.mem_append_right _ hq)))
  have mt : ∀ q : Nat × va_E, q ∈ y_tx cy u.2.2.2.2 → va_at D vwCl q H := fun q hq => m7 q (List.mem_append_right _ (List.mem_append_right _ hq))
  have n2 : ∀ q : Nat × va_E, q ∈ y_sx cy 2 u.2.1.1 u.2.1.2.1.1 u.2.1.2.1.2 (y_fq u.2.1.2.2 2) → va_at D vwCl q H := fun q hq => m2 q (List.mem_append_left _ hq)
  have n6 : ∀ q : Nat × va_E, q ∈ y_sx cy 6 u.2.2.1.1 u.2.2.1.2.1.1 u.2.2.1.2.1.2 (y_fq u.2.2.1.2.2 6) → va_at D vwCl q H := fun q hq => m6 q (List.mem_append_left _ hq)
  intro i hi
  by_cases c0 : i = 0
  · subst c0
    exact mh _ (List.mem_singleton.mpr rfl)
  by_cases c1 : i < 11
  · have e := y_eH (D := D) (cy := cy) (ad := y_ad h0 u h1 v o) (adk := u.1) (i := i) (j := i) (by omega) c1 (y_sf0A i c1 (by omega)) (by rw [y_xA hi]; exact y_b1 (by omega) c1) (fun d hd => by rw [show i + d = (i + d) by omega, y_adA (by omega)]; exact y_ad11 (by omega) hd)
    rw [e]
    exact m1 _ (y_wlm (y_m10.mpr ⟨by omega, c1⟩))
  by_cases c2 : i = 11
  · subst c2
    exact n2 _ (List.mem_cons_self)
  by_cases c3 : i = 12
  · subst c3
    refine y_arr (fun k hk => ?_) (n2 _ (List.mem_cons_of_mem _ List.mem_cons_self))
    have hk : k < 2 := hk
    unfold y_fq
    rw [if_pos hk]
    refine congrArg some ?_
    show u.2.1.2.2 k 1 = y_ad h0 u h1 v o (12 + 2 + 10 * k)
    rw [show 12 + 2 + 10 * k = (13 + 10 * k + 1) by omega, y_adA (by omega), y_ad12 hk (by omega) (by omega)]
  by_cases c4 : i = 13
  · subst c4
    exact n2 _ (List.mem_cons_of_mem _ (List.mem_cons_of_mem _ List.mem_cons_self))
  by_cases c5 : i < 34
  · obtain ⟨k, j, hk, h1', h2', rfl⟩ : ∃ k j, k < 2 ∧ 1 ≤ j ∧ j < 11 ∧ i = 13 + 10 * k + j := ⟨(i - 14) / 10, (i - 14) % 10 + 1, by omega, by omega, by omega, by omega⟩
    have e := y_eH (D := D) (cy := cy) (ad := y_ad h0 u h1 v o) (adk := u.2.1.2.2 k) (i := (13 + 10 * k + j)) (j := j) h1' h2' (y_sf2A k hk j h2' h1') (by rw [y_xA (by omega)]; exact y_b2 hk h1' h2') (fun d hd => by rw [show (13 + 10 * k + j) + d = (13 + 10 * k + (j + d)) by omega, y_adA (by omega)]; exact y_ad12 hk (by omega) hd)
    rw [e]
    exact m2 _ (List.mem_append_right _ (List.mem_flatMap.mpr ⟨k, List.mem_range.mpr hk, y_wlm (y_m10.mpr ⟨h1', h2'⟩)⟩))
  by_cases c6 : i = 34
  · subst c6
    exact n6 _ (List.mem_cons_self)
  by_cases c7 : i = 35
  · subst c7
    refine y_arr (fun k hk => ?_) (n6 _ (List.mem_cons_of_mem _ List.mem_cons_self))
    have hk : k < 6 := hk
    unfold y_fq
    rw [if_pos hk]
    refine congrArg some ?_
    show u.2.2.1.2.2 k 1 = y_ad h0 u h1 v o (35 + 2 + 10 * k)
    rw [show 35 + 2 + 10 * k = (36 + 10 * k + 1) by omega, y_adA (by omega), y_ad16 hk (by omega) (by omega)]
  by_cases c8 : i = 36
  · subst c8
    exact n6 _ (List.mem_cons_of_mem _ (List.mem_cons_of_mem _ List.mem_cons_self))
  by_cases c9 : i < 97
  · obtain ⟨k, j, hk, h1', h2', rfl⟩ : ∃ k j, k < 6 ∧ 1 ≤ j ∧ j < 11 ∧ i = 36 + 10 * k + j := ⟨(i - 37) / 10, (i - 37) % 10 + 1, by omega, by omega, by omega, by omega⟩
    have e := y_eH (D := D) (cy := cy) (ad := y_ad h0 u h1 v o) (adk := u.2.2.1.2.2 k) (i := (36 + 10 * k + j)) (j := j) h1' h2' (y_sf6A k hk j h2' h1') (by rw [y_xA (by omega)]; exact y_b6 hk h1' h2') (fun d hd => by rw [show (36 + 10 * k + j) + d = (36 + 10 * k + (j + d)) by omega, y_adA (by omega)]; exact y_ad16 hk (by omega) hd)
    rw [e]
    exact m6 _ (List.mem_append_right _ (List.mem_flatMap.mpr ⟨k, List.mem_range.mpr hk, y_wlm (y_m10.mpr ⟨h1', h2'⟩)⟩))
  by_cases d0 : i = 97
  · subst d0
    exact mb _ (List.mem_cons_self)
  by_cases d1 : i = 98
  · subst d1
    exact mb _ (List.mem_cons_of_mem _ List.mem_cons_self)
  by_cases d2 : i = 99
  · subst d2
    exact mt _ (List.mem_cons_self)
  have d3 : i = 100 := by omega
  subst d3
  exact mt _ (List.mem_cons_of_mem _ List.mem_cons_self)
theorem y_sf0B : ∀ j, j < 11 → 1 ≤ j → kd (101 + j) = kd j ∧ ln (101 + j) = ln j ∧ gR (101 + j) = gR j ∧ gC (101 + j) = gC j ∧ kd j ≠ 10 := by decide +kernel
theorem y_sf2B : ∀ k, k < 2 → ∀ j, j < 11 → 1 ≤ j → kd (101 + (13 + 10 * k + j)) = kd j ∧ ln (101 + (13 + 10 * k + j)) = ln j ∧ gR (101 + (13 + 10 * k + j)) = gR j ∧ gC (101 + (13 + 10 * k + j)) = gC j ∧ kd j ≠ 10 := by decide +kernel
theorem y_sf6B : ∀ k, k < 6 → ∀ j, j < 11 → 1 ≤ j → kd (101 + (36 + 10 * k + j)) = kd j ∧ ln (101 + (36 + 10 * k + j)) = ln j ∧ gR (101 + (36 + 10 * k + j)) = gR j ∧ gC (101 + (36 + 10 * k + j)) = gC j ∧ kd j ≠ 10 := by decide +kernel
set_option maxRecDepth 100000 in
theorem y_mergeB {D : va_G} {cy : Nat → ClassId} {H : Heap} {h0 h1 o : Nat} {u v : y_U} (m7 : ∀ q : Nat × va_E, q ∈ y_w7 D cy h1 v → va_at D vwCl q H) : ∀ i, i < 101 → va_at D vwCl (y_ad h0 u h1 v o (101 + i), gE (y_G D cy (y_ad h0 u h1 v o)) y_x0 (101 + i)) H := by
  have mh : ∀ q : Nat × va_E, q ∈ ([(h1, .inr (6, [.ref (v.1 1), .ref v.2.1.1, .ref v.2.2.1.1, .ref v.2.2.2.1.1, .ref v.2.2.2.2.1, .int 0, .int 0]))] : va_W) → va_at D vwCl q H := fun q hq => m7 q (List.mem_append_left _ hq)
  have m1 : ∀ q : Nat × va_E, q ∈ wl (z_GH D cy v.1) z_xH → va_at D vwCl q H := fun q hq => m7 q (List.mem_append_right _ (List.mem_append_left _ (List.mem_append_left _ (List.mem_append_left _ (List.mem_append_left _ hq)))))
  have m2 : ∀ q : Nat × va_E, q ∈ y_sh D cy 2 v.2.1 → va_at D vwCl q H := fun q hq => m7 q (List.mem_append_right _ (List.mem_append_left _ (List.mem_append_left _ (List.mem_append_left _ (List.mem_append_right _ hq)))))
  have m6 : ∀ q : Nat × va_E, q ∈ y_sh D cy 6 v.2.2.1 → va_at D vwCl q H := fun q hq => m7 q (List.mem_append_right _ (List.mem_append_left _ (List.mem_append_left _ (List.mem_append_right _ hq))))
  have mb : ∀ q : Nat × va_E, q ∈ y_bd cy v.2.2.2.1 → va_at D vwCl q H := fun q hq => m7 q (List.mem_append_right _ (List.mem_append_left _ (List.mem_append_right _ hq)))
  have mt : ∀ q : Nat × va_E, q ∈ y_tx cy v.2.2.2.2 → va_at D vwCl q H := fun q hq => m7 q (List.mem_append_right _ (List.mem_append_right _ hq))
  have n2 : ∀ q : Nat × va_E, q ∈ y_sx cy 2 v.2.1.1 v.2.1.2.1.1 v.2.1.2.1.2 (y_fq v.2.1.2.2 2) → va_at D vwCl q H := fun q hq => m2 q (List.mem_append_left _ hq)
  have n6 : ∀ q : Nat × va_E, q ∈ y_sx cy 6 v.2.2.1.1 v.2.2.1.2.1.1 v.2.2.1.2.1.2 (y_fq v.2.2.1.2.2 6) → va_at D vwCl q H := fun q hq => m6 q (List.mem_append_left _ hq)
  intro i hi
  by_cases c0 : i = 0
  · subst c0
    exact mh _ (List.mem_singleton.mpr rfl)
  by_cases c1 : i < 11
  · have e := y_eH (D := D) (cy := cy) (ad := y_ad h0 u h1 v o) (adk := v.1) (i := 101 + i) (j := i) (by omega) c1 (y_sf0B i c1 (by omega)) (by rw [y_xB hi]; exact y_b1 (by omega) c1) (fun d hd => by rw [show 101 + i + d = 101 + (i + d) by omega, y_adB (by omega)]; exact y_ad11 (by omega) hd)
    rw [e]
    exact m1 _ (y_wlm (y_m10.mpr ⟨by omega, c1⟩))
  by_cases c2 : i = 11
  · subst c2
    exact n2 _ (List.mem_cons_self)
  by_cases c3 : i = 12
  · subst c3
    refine y_arr (fun k hk => ?_) (n2 _ (List.mem_cons_of_mem _ List.mem_cons_self))
    have hk : k < 2 := hk
    unfold y_fq
    rw [if_pos hk]
    refine congrArg some ?_
    show v.2.1.2.2 k 1 = y_ad h0 u h1 v o (101 + 12 + 2 + 10 * k)
    rw [show 101 + 12 + 2 + 10 * k = 101 + (13 + 10 * k + 1) by omega, y_adB (by omega), y_ad12 hk (by omega) (by omega)]
  by_cases c4 : i = 13
  · subst c4
    exact n2 _ (List.mem_cons_of_mem _ (List.mem_cons_of_mem _ List.mem_cons_self))
  by_cases c5 : i < 34
  · obtain ⟨k, j, hk, h1', h2', rfl⟩ : ∃ k j, k < 2 ∧ 1 ≤ j ∧ j < 11 ∧ i = 13 + 10 * k + j := ⟨(i - 14) / 10, (i - 14) % 10 + 1, by omega, by omega, by omega, by omega⟩
    have e := y_eH (D := D) (cy := cy) (ad := y_ad h0 u h1 v o) (adk := v.2.1.2.2 k) (i := 101 + (13 + 10 * k + j)) (j := j) h1' h2' (y_sf2B k hk j h2' h1') (by rw [y_xB (by omega)]; exact y_b2 hk h1' h2') (fun d hd => by rw [show 101 + (13 + 10 * k + j) + d = 101 + (13 + 10 * k + (j + d)) by omega, y_adB (by omega)]; exact y_ad12 hk (by omega) hd)
    rw [e]
    exact m2 _ (List.mem_append_right _ (List.mem_flatMap.mpr ⟨k, List.mem_range.mpr hk, y_wlm (y_m10.mpr ⟨h1', h2'⟩)⟩))
  by_cases c6 : i = 34
  · subst c6
    exact n6 _ (List.mem_cons_self)
  by_cases c7 : i = 35
  · subst c7
    refine y_arr (fun k hk => ?_) (n6 _ (List.mem_cons_of_mem _ List.mem_cons_self))
    have hk : k < 6 := hk
    unfold y_fq
    rw [if_pos hk]
    refine congrArg some ?_
    show v.2.2.1.2.2 k 1 = y_ad h0 u h1 v o (101 + 35 + 2 + 10 * k)
    rw [show 101 + 35 + 2 + 10 * k = 101 + (36 + 10 * k + 1) by omega, y_adB (by omega), y_ad16 hk (by omega) (by omega)]
  by_cases c8 : i = 36
  · subst c8
    exact n6 _ (List.mem_cons_of_mem _ (List.mem_cons_of_mem _ List.mem_cons_self))
  by_cases c9 : i < 97
  · obtain ⟨k, j, hk, h1', h2', rfl⟩ : ∃ k j, k < 6 ∧ 1 ≤ j ∧ j < 11 ∧ i = 36 + 10 * k + j := ⟨(i - 37) / 10, (i - 37) % 10 + 1, by omega, by omega, by omega, by omega⟩
    have e := y_eH (D := D) (cy := cy) (ad := y_ad h0 u h1 v o) (adk := v.2.2.1.2.2 k) (i := 101 + (36 + 10 * k + j)) (j := j) h1' h2' (y_sf6B k hk j h2' h1') (by rw [y_xB (by omega)]; exact y_b6 hk h1' h2') (fun d hd => by rw [show 101 + (36 + 10 * k + j) + d = 101 + (36 + 10 * k + (j + d)) by omega, y_adB (by omega)]; exact y_ad16 hk (by omega) hd)
    rw [e]
    exact m6 _ (List.mem_append_right _ (List.mem_flatMap.mpr ⟨k, List.mem_range.mpr hk, y_wlm (y_m10.mpr ⟨h1', h2'⟩)⟩))
  by_cases d0 : i = 97
  · subst d0
    exact mb _ (List.mem_cons_self)
  by_cases d1 : i = 98
  · subst d1
    exact mb _ (List.mem_cons_of_mem _ List.mem_cons_self)
  by_cases d2 : i = 99
  · subst d2
    exact mt _ (List.mem_cons_self)
  have d3 : i = 100 := by omega
  subst d3
  exact mt _ (List.mem_cons_of_mem _ List.mem_cons_self)
theorem y_mergeP {D : va_G} {cy : Nat → ClassId} {H : Heap} {h0 h1 o : Nat} {u v : y_U} (hP : va_P D vwCl (y_all D cy h0 u h1 v o) H) : va_P D vwCl (wl (y_G D cy (y_ad h0 u h1 v o)) y_x0) H := by
  have mO : ∀ q : Nat × va_E, q ∈ ([(o, .inl (cy 0, 1, .inl (fun _ => 0)))] : va_W) → va_at D vwCl q H := fun q hq => y_Pm hP (List.mem_append_right _ hq)
  have mA := y_mergeA (D := D) (cy := cy) (H := H) (h0 := h0) (h1 := h1) (o := o) (u := u) (v := v) (fun q hq => y_Pm hP (List.mem_append_left _ (List.mem_append_right _ hq)))
  have mB := y_mergeB (D := D) (cy := cy) (H := H) (h0 := h0) (h1 := h1) (o := o) (u := u) (v := v) (fun q hq => y_Pm hP (List.mem_append_left _ (List.mem_append_left _ hq)))
  intro p q hp
  have hm := List.mem_of_getElem? hp
  unfold wl at hm
  obtain ⟨i, hi, rfl⟩ := List.mem_map.mp hm
  have hi : i < 203 := List.mem_range.mp hi
  show va_at D vwCl (y_ad h0 u h1 v o i, gE (y_G D cy (y_ad h0 u h1 v o)) y_x0 i) H
  by_cases c0 : i < 101
  · exact mA i c0
  by_cases c1 : i < 202
  · obtain ⟨j, rfl⟩ : ∃ j, i = 101 + j := ⟨i - 101, by omega⟩
    exact mB j (by omega)
  have c2 : i = 202 := by omega
  subst c2
  exact mO _ (List.mem_singleton.mpr rfl)
set_option maxRecDepth 100000 in
theorem y_adl {D : va_G} {cy : Nat → ClassId} {h0 h1 o : Nat} {u v : y_U} : ((y_w7 D cy h0 u ++ y_w7 D cy h1 v) ++ ([(o, .inl (cy 0, 1, .inl (fun _ => 0)))] : va_W)).map Prod.fst = (wl (y_G D cy (y_ad h0 u h1 v o)) y_x0).map Prod.fst := by rfl
theorem y_mergeD {D : va_G} {cy : Nat → ClassId} {A : Nat → Prop} {h0 h1 o : Nat} {u v : y_U} (hD : va_D A (y_all D cy h0 u h1 v o)) : va_D A (wl (y_G D cy (y_ad h0 u h1 v o)) y_x0) := by
  have hD := y_Dperm (List.Perm.append_right _ List.perm_append_comm) hD
  rw [y_D_iff, y_adl] at hD
  rw [y_D_iff]
  refine ⟨hD.1, fun q hq => ?_⟩
  have h : q.1 ∈ ((y_w7 D cy h0 u ++ y_w7 D cy h1 v) ++ ([(o, .inl (cy 0, 1, .inl (fun _ => 0)))] : va_W)).map Prod.fst := by
    rw [y_adl]
    exact List.mem_map.mpr ⟨q, hq, rfl⟩
  obtain ⟨r, hr, e⟩ := List.mem_map.mp h
  rw [← e]
  exact hD.2 r hr
theorem y_hH : ∀ k, k < 120 → y_x0.1 (z_pr k) (z_pq k) = z_s00 k := by decide +kernel
theorem y_hH2 : ∀ k, k < 120 → (sw y_x0).1 (z_pr k) (z_pq k) = z_s00 k := by decide +kernel
theorem y_R1 : zw_R y_x0 z_s00 := zw_init1 (by decide +kernel) (by decide +kernel) (by decide +kernel) (by decide +kernel) y_hH (by decide +kernel) (by decide +kernel)
theorem y_R2 : zw_R (sw y_x0) z_s00 := zw_init1 (by decide +kernel) (by decide +kernel) (by decide +kernel) (by decide +kernel) y_hH2 (by decide +kernel) (by decide +kernel)
