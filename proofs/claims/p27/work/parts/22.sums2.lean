section
variable {x : xS} {s : z_row} {m : Nat} {sv : Nat → z_row} {kp : Nat → Bool} {sl : Nat → z_row} {len : Nat} {tx : Nat → Int32}
theorem zs_best (R : z_RelC x s m sv kp sl len tx) (O : z_OKs s) (K : Int32 → Int32 → Int32 → Int32 → Int32 → Int32 → Int32 → Int32 → Int32 → xS → Option (Int32 × xS)) {k a : Nat} (hk : k < 10) (ha : a < 10) (v1 v2 v3 v4 v5 v7 : Int32) :
    fL_areSums_b292 K 0 v1 v2 v3 v4 v5 v7 (z_I a) (z_I k) 1 x = K v1 v2 v3 v4 v5 1 v7 (z_I (if z_poo s k a = true then k else a)) (z_I (k + 1)) x := by
  obtain ⟨⟨u, hu, eu⟩, ⟨p, hp, ep⟩, -⟩ := O.2.2.1 k hk
  obtain ⟨⟨w, hw, ew⟩, ⟨q, hq, eq⟩, -⟩ := O.2.2.1 a ha
  obtain ⟨g1, g2⟩ := z_su1 p hp q hq
  have g3 := zs_su2 u hu w hw
  simp only [decide_eq_decide] at g1 g2 g3
  have f1 : fpX6_lodgerOf 0 (z_I k) 1 x = some (s (6 * k + 1)) := zp_lodgerOf R (k := 1) hk (by omega)
  have f2 : fpX6_lodgerOf 0 (z_I a) 1 x = some (s (6 * a + 1)) := zp_lodgerOf R (k := 1) ha (by omega)
  have f3 : fpX6_lodgerOf 0 (z_I k) 0 x = some (s (6 * k)) := zp_lodgerOf R (k := 0) hk (by omega)
  have f4 : fpX6_lodgerOf 0 (z_I a) 0 x = some (s (6 * a)) := zp_lodgerOf R (k := 0) ha (by omega)
  unfold fL_areSums_b292
  rw [f1, z_ob, f2, z_ob, z_lt_]
  have fin : ∀ (y : Int32), (0 < y ↔ z_poo s k a = true) → fL_areSums_b336 K 0 v1 v2 v3 v4 v5 1 v7 (z_I a) (z_I k) y x = K v1 v2 v3 v4 v5 1 v7 (z_I (if z_poo s k a = true then k else a)) (z_I (k + 1)) x := by
    intro y hy
    unfold fL_areSums_b336 fL_areSums_b350
    by_cases c : z_poo s k a = true
    · rw [if_neg (Int32.not_le.mpr (hy.mpr c)), if_pos c, z_I_s]
    · rw [if_pos (Int32.not_lt.mp (fun z => c (hy.mp z))), if_neg c, z_I_s]
  have hpoo : z_poo s k a = true ↔ (q < p ∨ (p = q ∧ w < u)) := by
    unfold z_poo
    rw [ep, eq, eu, ew]
    simp only [Bool.or_eq_true, Bool.and_eq_true, decide_eq_true_eq]
    rw [z_I_lt (by omega) (by omega), z_I_eq (by omega) (by omega), z_I_lt (by omega) (by omega)]
  rw [ep, eq]
  by_cases c : p = q
  · rw [if_pos (g2.mpr c), f3, z_ob, f4, z_ob, eu, ew]
    refine fin _ ?_
    rw [g3, hpoo]
    omega
  · rw [if_neg (fun z => c (g2.mp z))]
    refine fin _ ?_
    rw [g1, hpoo]
    omega
def zs_b (s : z_row) (k : Nat) : Nat := z_fo (fun a l => if z_poo s l a = true then l else a) 0 0 k
theorem zs_b_lt (s : z_row) : ∀ k, k ≤ 10 → zs_b s k < 10 := by
  intro k
  induction k with
  | zero => intro _; exact (show (0 : Nat) < 10 by decide)
  | succ k ih =>
    intro hk
    have := ih (by omega)
    unfold zs_b at this ⊢
    rw [z_fo_r]
    split <;> omega
theorem zs_b_10 (s : z_row) : zs_b s 10 = z_RM s := by
  have e : ∀ g : Nat → Nat → Nat, z_fo g 0 0 10 = z_fo g (g 0 0) 1 9 := fun g => rfl
  have e0 : (if z_poo s 0 0 = true then 0 else 0) = 0 := by split <;> rfl
  unfold zs_b z_RM
  rw [e, e0]
theorem zs_step (R : z_RelC x s m sv kp sl len tx) (O : z_OKs s) {c d : Nat → Nat} (hc : ∀ l, l < 10 → s (6 * l + 4) = z_I (c l) ∧ s (6 * l + 5) = z_I (d l)) {k N : Nat} (hk : k < 10) :
    fL_areSums_b165 0 (N + 1) (z_I (z_LT s)) (zs_S s k) (z_I (z_sm c k)) (z_I (z_sm d k)) (z_I (z_ML s)) 1 (z_I (z_LT s - z_sm (fun l => z_HB s (z_I l) 0 12) k)) (z_I (zs_b s k)) (z_I k) x =
    fL_areSums_b165 0 N (z_I (z_LT s)) (zs_S s (k + 1)) (z_I (z_sm c (k + 1))) (z_I (z_sm d (k + 1))) (z_I (z_ML s)) 1 (z_I (z_LT s - z_sm (fun l => z_HB s (z_I l) 0 12) (k + 1))) (z_I (zs_b s (k + 1))) (z_I (k + 1)) x := by
  obtain ⟨⟨u, hu, eu⟩, ⟨p, hp, ep⟩, ⟨q, hq, eq⟩⟩ := O.2.2.1 k hk
  have f0 : fpX6_lodgerOf 0 (z_I k) 0 x = some (s (6 * k)) := zp_lodgerOf R (k := 0) hk (by omega)
  have f1 : fpX6_lodgerOf 0 (z_I k) 1 x = some (s (6 * k + 1)) := zp_lodgerOf R (k := 1) hk (by omega)
  have f2 : fpX6_lodgerOf 0 (z_I k) 2 x = some (s (6 * k + 2)) := zp_lodgerOf R (k := 2) hk (by omega)
  have f3 : fpX6_lodgerOf 0 (z_I k) 3 x = some (z_I (z_HB s (z_I k) 0 12)) := zp_lodgerOf R (k := 3) hk (by omega)
  have f4 : fpX6_lodgerOf 0 (z_I k) 4 x = some (s (6 * k + 3)) := zp_lodgerOf R (k := 4) hk (by omega)
  have f5 : fpX6_lodgerOf 0 (z_I k) 5 x = some (s (6 * k + 4)) := zp_lodgerOf R (k := 5) hk (by omega)
  have f6 : fpX6_lodgerOf 0 (z_I k) 6 x = some (s (6 * k + 5)) := zp_lodgerOf R (k := 6) hk (by omega)
  have e1 : z_sm (fun l => z_HB s (z_I l) 0 12) (k + 1) = z_sm (fun l => z_HB s (z_I l) 0 12) k + z_HB s (z_I k) 0 12 := rfl
  have hs := zs_sm_mono (fun l => z_HB s (z_I l) 0 12) 10 (k + 1) (by omega)
  rw [zs_hours O, e1] at hs
  have e2 : zs_S s (k + 1) = zs_S s k + s (6 * k + 3) := rfl
  have e3 : z_sm c (k + 1) = z_sm c k + c k := rfl
  have e4 : z_sm d (k + 1) = z_sm d k + d k := rfl
  have e5 : zs_b s (k + 1) = if z_poo s k (zs_b s k) = true then k else zs_b s k := by
    unfold zs_b
    rw [z_fo_r, Nat.zero_add]
  rw [fL_areSums_b165, if_neg (by rw [z_L10, z_I_le (by omega) (by omega)]; omega), f3, z_ob, z_lt_, f4, z_ob, z_lt_, f5, z_ob, z_lt_, f6, z_ob, z_lt_, if_neg (by decide), f0, z_ob, eu, if_neg (by rw [z_I_nn (by omega)]; exact id), z_ob, if_neg (by rw [z_L10, z_I_le (by omega) (by omega)]; omega), f1, z_ob, ep, if_neg (by rw [z_I_nn (by omega)]; exact id), z_ob, if_neg (by rw [show (8 : Int32) = z_I 8 from rfl, z_I_le (by omega) (by omega)]; omega), f2, z_ob, eq, if_neg (by rw [z_I_nn (by omega)]; exact id), z_ob, if_neg (by rw [z_L4, z_I_le (by omega) (by omega)]; omega)]
  rw [zs_best R O _ hk (zs_b_lt s k (by omega)), (hc k hk).1, (hc k hk).2, z_I_add, z_I_add, z_I_sub (by omega), e1, e2, e3, e4, e5, Nat.sub_sub]
theorem zs_loop (R : z_RelC x s m sv kp sl len tx) (O : z_OKs s) {c d : Nat → Nat} (hc : ∀ l, l < 10 → s (6 * l + 4) = z_I (c l) ∧ s (6 * l + 5) = z_I (d l)) : ∀ e N k, k + e = 10 →
    fL_areSums_b165 0 (N + e) (z_I (z_LT s)) (zs_S s k) (z_I (z_sm c k)) (z_I (z_sm d k)) (z_I (z_ML s)) 1 (z_I (z_LT s - z_sm (fun l => z_HB s (z_I l) 0 12) k)) (z_I (zs_b s k)) (z_I k) x =
    fL_areSums_b165 0 N (z_I (z_LT s)) (z_S3 s) (z_I (z_sm c 10)) (z_I (z_sm d 10)) (z_I (z_ML s)) 1 0 (z_I (z_RM s)) 10 x := by
  intro e
  induction e with
  | zero =>
    intro N k hk
    have ek : k = 10 := by omega
    subst ek
    rw [zs_S10, zs_hours O, zs_b_10, Nat.sub_self]
    rfl
  | succ e ih =>
    intro N k hk
    rw [show N + (e + 1) = N + e + 1 from rfl, zs_step R O hc (by omega)]
    exact ih N (k + 1) (by omega)
theorem zs_sums (R : z_RelC x s m sv kp sl len tx) (O : z_OKs s) {T : Nat} (hT : T ≤ 100000) (J : zi_J T s) : ∃ x', fL_areSums 0 x = some (1, x') ∧ z_RelC x' s m sv kp sl len tx ∧ z_FrC x x' := by
  obtain ⟨c, d, a, q, j1, j2, j3, j4, j5, j6, j7, j8⟩ := J
  have hLT := z_LT_le s
  obtain ⟨x1, e1, R1, F1⟩ := zp_fewest R (v := 0) (by omega)
  obtain ⟨x2, e2, R2, F2⟩ := zp_fewest R1 (v := 1) (by omega)
  obtain ⟨g1, g2⟩ := z_gn_ok O
  refine ⟨x2, ?_, R2, z_FrC_trans F1 F2⟩
  unfold fL_areSums fL_areSums_b0
  have h1 := zs_b18 R O 12 FU 0 rfl (by decide)
  rw [show fL_areSums_b18 0 FU 0 0 0 0 0 1 0 x = _ from h1]
  have h2 := zs_loop R O j1 10 1990 0 rfl
  rw [show fL_areSums_b165 0 FU (z_I (z_LT s)) 0 0 0 (z_I (z_ML s)) 1 (z_I (z_LT s)) 0 0 x = _ from h2]
  have c2 : fpX6_count 0 2 x = some (z_I (z_LT s)) := zp_count R (k := 2) (by omega)
  have c3 : fpX6_count 0 3 x = some (z_S3 s) := zp_count R (k := 3) (by omega)
  have c6 : fpX6_count 0 6 x = some (s 115) := zp_count R (k := 6) (by omega)
  have c4 : fpX6_count 0 4 x = some (s 110) := zp_count R (k := 4) (by omega)
  have c7 : fpX6_count 0 7 x = some (s 116) := zp_count R (k := 7) (by omega)
  have c5 : fpX6_count 0 5 x = some (z_S5 s) := zp_count R (k := 5) (by omega)
  have r1 : fpX6_refused 0 1 x = some (s 111) := zp_refused R (r := 1) (by omega) (by omega)
  have r2 : fpX6_refused 0 2 x = some (s 112) := zp_refused R (r := 2) (by omega) (by omega)
  have r3 : fpX6_refused 0 3 x = some (s 113) := zp_refused R (r := 3) (by omega) (by omega)
  have r4 : fpX6_refused 0 4 x = some (s 114) := zp_refused R (r := 4) (by omega) (by omega)
  have c0 : fpX6_count 0 0 x2 = some (s 108) := zp_count R2 (k := 0) (by omega)
  have hsh : FP.ddiv (FP.i2d (z_I (z_LT s))) (4631952216750555136 : UInt64) &&& 0x7fffffffffffffff ≤ (0x7ff0000000000000 : UInt64) := z_shr_ok (z_LT s) (by omega)
  have hcmp : Op.cmpValue (FP.dcmp (z_shr (z_LT s)) (FP.ddiv (FP.i2d (z_I (z_LT s))) (4631952216750555136 : UInt64))) CmpOp.l = 0 := z_cmp_self (z_LT s) (by omega)
  have e1 : fpX6_fewestBeds 0 0 x = some (z_I (z_ML s), x1) := e1
  have e2 : fpX6_fewestBeds 0 1 x1 = some (z_I (z_ML s), x2) := e2
  rw [fL_areSums_b165, if_pos (by decide), if_pos hsh, if_neg (by decide), if_pos rfl, c2, z_ob, if_pos rfl, c3, z_ob, if_pos rfl, c6, z_ob, if_pos j2.symm, c4, z_ob, if_neg (by rw [j6, z_I_lt (by omega) (by omega)]; omega), c7, z_ob, z_ob, if_neg (by rw [j2, j3, z_I_lt (by omega) (by omega)]; omega), c5, z_ob, r1, z_ob, r2, z_ob, r3, z_ob, r4, z_ob, if_pos (show z_S5 s = s 111 + s 112 + s 113 + s 114 from rfl), e1, z_ob, if_pos rfl]
  dsimp only
  rw [e2, z_ob, if_pos rfl]
  dsimp only
  rw [z_C_poorest R2 O, z_ob, if_pos rfl, z_C_fullness R2, z_ob, if_pos hcmp, c0, z_ob, g2, if_neg (by rw [z_L12, z_I_le (by omega) (by omega)]; omega)]
end
