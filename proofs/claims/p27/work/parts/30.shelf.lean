theorem y_S1 : Cond.arrayOver (.object "SevenAsks$House") ∈ lw_tbl := by decide +kernel
theorem y_S3 : Cond.methodLink RX5 1 objectInit ∈ AW := AW_of (by decide +kernel) (by decide +kernel)
theorem y_S4 : Cond.methodLink RX5 7 Lib.Math.max.name ∈ AW := AW_of (by decide +kernel) (by decide +kernel)
theorem y_S5 : Cond.classLink RX5 13 RX3 ∈ AW := AW_of (by decide +kernel) (by decide +kernel)
theorem y_S6 : Cond.arrayClass .boolean ∈ AW := AW_of (by decide +kernel) (by decide +kernel)
theorem y_S7 : Cond.instantiable RX3 4 ∈ AW := AW_of (by decide +kernel) (by decide +kernel)
theorem y_S8 : Cond.initialized RX3 ∈ AW := AW_of (by decide +kernel) (by decide +kernel)
theorem y_S9 : Cond.methodLink RX5 25 yX3_init ∈ AW := AW_of (by decide +kernel) (by decide +kernel)
theorem y_S10 : Cond.instanceMethod yX3_init ∈ AW := AW_of (by decide +kernel) (by decide +kernel)
theorem y_S11 : Cond.code yX3_init cX3_init 2 none ∈ AW := AW_of (by decide +kernel) (by decide +kernel)
theorem y_D_iff {A : Nat → Prop} {ws : va_W} : va_D A ws ↔ (ws.map Prod.fst).Nodup ∧ ∀ q : Nat × va_E, q ∈ ws → A q.1 := by
  constructor
  · intro hD
    refine ⟨?_, fun q hq => ?_⟩
    · unfold List.Nodup
      rw [List.pairwise_map, List.pairwise_iff_getElem]
      intro i j hi hj hij e
      have := hD.1 i j _ _ (List.getElem?_eq_getElem hi) (List.getElem?_eq_getElem hj) e
      omega
    · obtain ⟨k, hk⟩ := List.getElem?_of_mem hq
      exact hD.2 k q hk
  · rintro ⟨hn, hA⟩
    refine ⟨fun i j p q hp hq e => ?_, fun k q hk => hA q (List.mem_of_getElem? hk)⟩
    unfold List.Nodup at hn
    rw [List.pairwise_map, List.pairwise_iff_getElem] at hn
    obtain ⟨hi, rfl⟩ := List.getElem?_eq_some_iff.mp hp
    obtain ⟨hj, rfl⟩ := List.getElem?_eq_some_iff.mp hq
    rcases Nat.lt_trichotomy i j with h | h | h
    · exact absurd e (hn i j hi hj h)
    · exact h
    · exact absurd e.symm (hn j i hj hi h)
theorem y_Dperm {A : Nat → Prop} {ws ws' : va_W} (h : ws.Perm ws') (hD : va_D A ws) : va_D A ws' := by
  rw [y_D_iff] at hD ⊢
  exact ⟨(h.map Prod.fst).nodup_iff.mp hD.1, fun q hq => hD.2 q (h.mem_iff.mpr hq)⟩
theorem y_Pperm {D : va_G} {cl : List vw_C} {ws ws' : va_W} {H : Heap} (h : ws.Perm ws') (hP : va_P D cl ws H) : va_P D cl ws' H := by
  intro k q hk
  obtain ⟨j, hj⟩ := List.getElem?_of_mem (h.mem_iff.mpr (List.mem_of_getElem? hk))
  exact hP j q hj
def y_hs (D : va_G) (cy : Nat → ClassId) (ads : Nat → Nat → Nat) (j : Nat) : va_W := (List.range j).flatMap (fun k => wl (z_GH D cy (ads k)) z_xH)
def y_fq (ads : Nat → Nat → Nat) (j : Nat) : Nat → Option Nat := fun k => if k < j then some (ads k 1) else none
abbrev y_sx (cy : Nat → ClassId) (N h0 a b : Nat) (f : Nat → Option Nat) : va_W := [(h0, .inr (5, [.ref a, .ref b])), (a, .inl (cy 2, N, .inr (.inr (.inr (.inr f))))), (b, .inl (cy 1, N, .inl (fun _ => 0)))]
theorem y_hs_s (D : va_G) (cy : Nat → ClassId) (ads : Nat → Nat → Nat) (ad : Nat → Nat) (j : Nat) : y_hs D cy (fun k => if k = j then ad else ads k) (j + 1) = y_hs D cy ads j ++ wl (z_GH D cy ad) z_xH := by
  unfold y_hs
  rw [List.range_succ, List.flatMap_append]
  congr 1
  · rw [List.flatMap_def, List.flatMap_def]
    congr 1
    refine List.map_congr_left (fun k hk => ?_)
    have hlt := List.mem_range.mp hk
    have hne : ¬ k = j := by omega
    simp only [hne, if_false]
  · simp
theorem y_fq_s (ads : Nat → Nat → Nat) (ad : Nat → Nat) {j : Nat} (hj : j < 10) : va_up (y_fq ads j) (z_I j).toNatClampNeg (some (ad 1)) = y_fq (fun k => if k = j then ad else ads k) (j + 1) := by
  rw [z_I_nat (by omega)]
  funext k
  unfold va_up y_fq
  by_cases h : k = j
  · simp [h]
  · by_cases h2 : k < j
    · have h3 : k < j + 1 := by omega
      simp [h, h2, h3]
    · have h3 : ¬ k < j + 1 := by omega
      simp [h, h2, h3]
