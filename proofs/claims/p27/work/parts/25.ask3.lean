section
variable {x : xS} {s t : z_row} {m : Nat} {sv : Nat → z_row} {kp : Nat → Bool} {sl : Nat → z_row} {len : Nat} {tx : Nat → Int32}
theorem zt_mi : ∀ p, p < 8 → z_mi (z_I p) = if z_I p = 7 then z_I p else z_I p + 1 := by decide
theorem zt_mi_pos : ∀ p, p < 8 → ¬ z_mi (z_I p) ≤ 0 := by decide
/-- an asking that is refused, and undone -/
theorem zt_refused (O : z_OKs s) {l f n : Nat} (hl : l < 10) (h1 : 1 ≤ n) (hh : f + n ≤ 12) (h : ¬ 10 ≤ z_AN s l f n) (hm : m ≤ 6) (R : z_RelC x (z_TA s l f n (z_gn s)) (z_nM m) (z_nV m sv s) kp sl len tx) (v5 v6 v8 v9 v12 v13 : Int32) :
    ∃ x' m1, fL_isAskingSo_b289 0 (z_I l) (z_I f) (z_I n) v5 v6 (z_I (z_AN s l f n)) v8 v9 (s (6 * l + 1)) (s (6 * l + 2)) v12 v13 (z_I (z_LT s)) 1 x = some (1, x') ∧ z_RelC x' s m1 (z_nV m sv s) kp sl len tx ∧ z_FrC x x' := by
  have hA2 := z_AN_13 s l f n
  obtain ⟨m1, em, esv, -⟩ := zt_top m sv s hm
  rw [em] at R
  obtain ⟨x', eu, R', F⟩ := zp_undo R
  rw [esv] at R'
  refine ⟨x', m1, ?_, R', F⟩
  have hm1 : m1 < 1000 := by
    have : z_nM m ≤ 6 := by unfold z_nM; split <;> omega
    omega
  obtain ⟨-, ⟨p, hp, ep⟩, -⟩ := O.2.2.1 l hl
  have eT : z_TA s l f n (z_gn s) = z_RF s l (z_AN s l f n) := by unfold z_TA; rw [if_neg h]
  have hE : z_EqH (z_TA s l f n (z_gn s)) s := by
    intro k k1 k2
    rw [eT]
    unfold z_RF
    by_cases c : 3 ≤ z_AN s l f n
    · rw [if_pos c, z_updN _ (by omega), z_updN _ (by omega)]
    · rw [if_neg c, z_updN _ (by omega)]
  have eLT : z_LT (z_TA s l f n (z_gn s)) = z_LT s := z_sm_congr (fun j hj => z_LB_c hE hj)
  have e2 : z_TA s l f n (z_gn s) (6 * l + 2) = s (6 * l + 2) := by
    rw [eT]
    unfold z_RF
    by_cases c : 3 ≤ z_AN s l f n
    · rw [if_pos c, z_updN _ (by omega), z_updN _ (by omega)]
    · rw [if_neg c, z_updN _ (by omega)]
  have e1 : z_TA s l f n (z_gn s) (6 * l + 1) = if z_AN s l f n < 3 then s (6 * l + 1) else z_mi (s (6 * l + 1)) := by
    rw [eT]
    unfold z_RF
    by_cases c : 3 ≤ z_AN s l f n
    · rw [if_pos c, z_updP _ rfl, if_neg (by omega)]
    · rw [if_neg c, z_updN _ (by omega), if_pos (by omega)]
  have f1 : fpX6_lodgerOf 0 (z_I l) 1 x = some (z_TA s l f n (z_gn s) (6 * l + 1)) := zp_lodgerOf R (k := 1) hl (by omega)
  have f2 : fpX6_lodgerOf 0 (z_I l) 2 x = some (z_TA s l f n (z_gn s) (6 * l + 2)) := zp_lodgerOf R (k := 2) hl (by omega)
  have c2 : fpX6_count 0 2 x = some (z_I (z_LT (z_TA s l f n (z_gn s)))) := zp_count R (k := 2) (by omega)
  have t329 : ∀ a b : Int32, a = b → fL_isAskingSo_b329 0 (z_I l) (s (6 * l + 2)) (z_I (z_LT s)) a b x = some (1, x') := by
    intro a b hab
    unfold fL_isAskingSo_b329
    rw [if_pos hab, f2, z_ob, if_pos e2, c2, z_ob, if_pos (by rw [eLT]), eu, z_ob]
    exact if_neg (by show ¬ z_I m1 < 0; rw [z_I_nn (by omega)]; exact id)
  unfold fL_isAskingSo_b289
  rw [if_neg (by rw [z_L0, z_I_le (by omega) (by omega)]; omega), if_neg (by decide), f1, z_ob, e1]
  by_cases c3 : z_AN s l f n < 3
  · rw [if_pos (by rw [z_L3, z_I_lt (by omega) (by omega)]; exact c3), if_pos c3]
    unfold fL_isAskingSo_b320
    exact t329 _ _ rfl
  · rw [if_neg (by rw [z_L3, z_I_lt (by omega) (by omega)]; exact c3), if_neg c3, ep, zt_mi p hp]
    by_cases c7 : z_I p = 7
    · rw [if_pos c7, if_pos c7]
      unfold fL_isAskingSo_b320
      exact (by rw [← ep]; exact t329 _ _ rfl)
    · rw [if_neg c7, if_neg c7]
      exact (by rw [← ep]; exact t329 _ _ rfl)
/-- the hours of an asking that is granted are the lodger's -/
theorem zt_b369 (R : z_RelC x t m sv kp sl len tx) {l f n e : Nat} (he : e < 4) (hh : f + n ≤ 12) (ha : ∀ j, f ≤ j → j < f + n → z_hv t e j = z_I l) (v5 v6 v9 v10 v11 v12 v13 v14 : Int32) : ∀ d N k, k + d = f + n → f ≤ k → d < N →
    fL_isAskingSo_b369 0 (z_I l) (z_I f) (z_I n) N v5 v6 (z_I (10 + e)) v9 v10 v11 v12 v13 v14 1 (z_I k) x = fL_isAskingSo_b413 0 (z_I l) (z_I n) FU v5 v6 v9 v10 v11 v12 v13 v14 1 0 x := by
  intro d
  induction d with
  | zero =>
    intro N k hk hf hN
    obtain ⟨N, rfl⟩ : ∃ j, N = j + 1 := ⟨N - 1, by omega⟩
    rw [fL_isAskingSo_b369, if_pos (by rw [z_I_add, z_I_le (by omega) (by omega)]; omega)]
  | succ d ih =>
    intro N k hk hf hN
    obtain ⟨N, rfl⟩ : ∃ j, N = j + 1 := ⟨N - 1, by omega⟩
    rw [fL_isAskingSo_b369, if_neg (by rw [z_I_add, z_I_le (by omega) (by omega)]; omega), if_neg (by decide), z_L10, z_I_sub (by omega), show 10 + e - 10 = e by omega, zp_at R he (by omega), z_ob, if_pos (ha k hf (by omega))]
    unfold fL_isAskingSo_b402
    rw [z_I_s]
    exact ih N (k + 1) (by omega) (by omega) (by omega)
/-- those who are put out -/
theorem zt_b413 (R : z_RelC x t m sv kp sl len tx) {M : Nat} (hM : M < 1024) (hp : ∀ k, k < 10 → z_bt M k = 1 → ¬ t (6 * k + 1) ≤ 0 ∧ ¬ t (6 * k + 4) ≤ 0) (v1 v3 v5 v6 v10 v11 v12 v13 v14 : Int32) : ∀ d N k, k + d = 10 →
    fL_isAskingSo_b413 0 v1 v3 (N + d) v5 v6 (z_I M) v10 v11 v12 v13 v14 1 (z_I k) x = fL_isAskingSo_b413 0 v1 v3 N v5 v6 (z_I M) v10 v11 v12 v13 v14 1 10 x := by
  intro d
  induction d with
  | zero =>
    intro N k hk
    rw [show k = 10 by omega]
    rfl
  | succ d ih =>
    intro N k hk
    rw [show N + (d + 1) = N + d + 1 from rfl, fL_isAskingSo_b413, if_neg (by rw [z_L10, z_I_le (by omega) (by omega)]; omega), z_sb k (by omega) M hM]
    rcases z_bt_2 M k with q | q
    · rw [q, if_neg (by decide)]
      unfold fL_isAskingSo_b436
      rw [if_neg (by decide), if_pos rfl]
      unfold fL_isAskingSo_b468 fL_isAskingSo_b473
      rw [z_I_s]
      exact ih N (k + 1) (by omega)
    · obtain ⟨p1, p2⟩ := hp k (by omega) q
      have f1 : fpX6_lodgerOf 0 (z_I k) 1 x = some (t (6 * k + 1)) := zp_lodgerOf R (k := 1) (by omega) (by omega)
      have f5 : fpX6_lodgerOf 0 (z_I k) 5 x = some (t (6 * k + 4)) := zp_lodgerOf R (k := 5) (by omega) (by omega)
      rw [q, if_pos (by decide)]
      unfold fL_isAskingSo_b436
      rw [if_neg (by decide), if_neg (by decide), f1, z_ob, if_neg p1, f5, z_ob, if_neg p2]
      unfold fL_isAskingSo_b468 fL_isAskingSo_b473
      rw [z_I_s]
      exact ih N (k + 1) (by omega)
theorem zt_sub1 (a : Int32) : a + (-1) = a - 1 := by rw [Int32.sub_eq_add_neg]
/-- an asking that is granted, and undone -/
theorem zt_granted (O : z_OKs s) {T : Nat} (hT : T ≤ 100000) (J : zi_J T s) {l f n : Nat} (hl : l < 10) (hf : f < 12) (h1 : 1 ≤ n) (hh : f + n ≤ 12) (h : 10 ≤ z_AN s l f n) (hm : m ≤ 6) (R : z_RelC x (z_TA s l f n (z_gn s)) (z_nM m) (z_nV m sv s) kp sl len tx) :
    ∃ x' m1, fL_isAskingSo_b289 0 (z_I l) (z_I f) (z_I n) (if s (6 * l + 1) = z_I 7 then 1 else 0) (if s (6 * l) < s 119 then 0 else 1) (z_I 0) (z_I (z_AN s l f n)) (z_I (z_WO s l f n)) (s (6 * l + 1)) (s (6 * l + 2)) (s 116) (z_S3 s) (z_I (z_LT s)) 1 x = some (1, x') ∧ z_RelC x' s m1 (z_nV m sv s) kp sl len tx ∧ z_FrC x x' := by
  obtain ⟨m1, em, esv, -⟩ := zt_top m sv s hm
  have hm1 : m1 < 1000 := by
    have : z_nM m ≤ 6 := by unfold z_nM; split <;> omega
    omega
  obtain ⟨e, he, eA, ee, hHB, hl0, ha, hb1, hb2, ⟨w, hw1, hw2, hw3, hw4⟩, hput⟩ := zt_TA O hl hf h1 hh h
  obtain ⟨hW, hWl⟩ := zt_WO_bt O hl hf h1 hh
  have eW : z_WO s l f n = z_MK s e f n := by unfold z_WO; rw [if_pos h, eA, show 10 + e - 10 = e by omega]
  have eS3 : z_S3 (z_TA s l f n (z_gn s)) = z_S3 s := by rw [(z_S_TA s hl h1 hh).1, Int32.add_zero]
  rw [em] at R
  obtain ⟨x', eu, R', F⟩ := zp_undo R
  rw [esv] at R'
  refine ⟨x', m1, ?_, R', F⟩
  obtain ⟨c, d, a, q, j1, j2, j3, j4, j5, j6, j7, j8⟩ := J
  have hLT := z_LT_le s
  have hLT' := z_LT_le (z_TA s l f n (z_gn s))
  have f1' : fpX6_lodgerOf 0 (z_I l) 1 x' = some (s (6 * l + 1)) := zp_lodgerOf R' (k := 1) hl (by omega)
  have c2' : fpX6_count 0 2 x' = some (z_I (z_LT s)) := zp_count R' (k := 2) (by omega)
  generalize z_TA s l f n (z_gn s) = t at *
  have f1 : fpX6_lodgerOf 0 (z_I l) 1 x = some (t (6 * l + 1)) := zp_lodgerOf R (k := 1) hl (by omega)
  have f2 : fpX6_lodgerOf 0 (z_I l) 2 x = some (t (6 * l + 2)) := zp_lodgerOf R (k := 2) hl (by omega)
  have c2 : fpX6_count 0 2 x = some (z_I (z_LT t)) := zp_count R (k := 2) (by omega)
  have c3 : fpX6_count 0 3 x = some (z_S3 t) := zp_count R (k := 3) (by omega)
  have c7 : fpX6_count 0 7 x = some (t 116) := zp_count R (k := 7) (by omega)
  have e116 : t 116 = z_I (q + w) := by rw [hw1, j3, z_I_add]
  -- the end
  have t581 : fL_isAskingSo_b581 0 (z_I l) (s (6 * l + 1)) (z_I (z_LT s)) (if z_WO s l f n = 0 then 0 else 1) (if z_WO s l f n = 0 then 0 else 1) x = some (1, x') := by
    unfold fL_isAskingSo_b581
    rw [if_pos rfl, eu, z_ob, if_neg (by show ¬ z_I m1 < 0; rw [z_I_nn (by omega)]; exact id)]
    dsimp only
    rw [c2', z_ob, if_pos rfl, f1', z_ob, if_pos rfl]
  have t565 : fL_isAskingSo_b565 0 (z_I l) (s (6 * l + 1)) (s 116) (z_I (z_LT s)) (if z_WO s l f n = 0 then 0 else 1) x = some (1, x') := by
    unfold fL_isAskingSo_b565
    rw [c7, z_ob, e116, j3]
    by_cases c0 : z_WO s l f n = 0
    · have w0 : w = 0 := hw4.mpr (by rw [← eW]; exact c0)
      rw [if_pos (by rw [z_I_le (by omega) (by omega)]; omega)]
      rw [if_pos c0] at t581 ⊢
      exact t581
    · have w0 : ¬ w = 0 := fun z => c0 (by rw [eW]; exact hw4.mp z)
      rw [if_neg (by rw [z_I_le (by omega) (by omega)]; omega)]
      rw [if_neg c0] at t581 ⊢
      exact t581
  have t520 : ∀ a b : Int32, a = b → fL_isAskingSo_b520 0 (z_I l) (z_I n) (z_I (z_WO s l f n)) (s (6 * l + 1)) (s 116) (z_S3 s) (z_I (z_LT s)) a b x = some (1, x') := by
    intro a b hab
    unfold fL_isAskingSo_b520
    rw [if_pos hab, c2, z_ob, c7, z_ob, if_pos (by rw [e116, j3, z_I_sub (by omega), z_I_add, z_I_sub (by omega)]; congr 1; omega), c3, z_ob, if_pos eS3]
    by_cases c0 : z_WO s l f n = 0
    · rw [if_pos (by rw [c0]; decide)]
      rw [if_pos c0] at t565
      exact t565
    · rw [if_neg (by rw [z_L0, z_I_le (by omega) (by omega)]; omega)]
      rw [if_neg c0] at t565
      exact t565
  unfold fL_isAskingSo_b289
  rw [if_pos (by decide), eA]
  rw [zt_b369 R he hh ha _ _ _ _ _ _ _ _ n FU f rfl (Nat.le_refl _) (by show n < 2000; omega)]
  have hp : ∀ k, k < 10 → z_bt (z_WO s l f n) k = 1 → ¬ t (6 * k + 1) ≤ 0 ∧ ¬ t (6 * k + 4) ≤ 0 := by
    intro k hk hb
    have hkl : k ≠ l := by intro z; rw [z, hWl] at hb; omega
    obtain ⟨p1, p2⟩ := hput k hk (by rw [← eW]; exact hb) hkl
    obtain ⟨-, ⟨p, hp, ep⟩, -⟩ := O.2.2.1 k hk
    have hc := zi_sm_get c 10 k hk
    rw [p1, p2, ep, (j1 k hk).1, z_I_s]
    exact ⟨zt_mi_pos p hp, by rw [z_L0, z_I_le (by omega) (by omega)]; omega⟩
  have e10 := zt_b413 R hW hp (z_I l) (z_I n) (if s (6 * l + 1) = z_I 7 then 1 else 0) (if s (6 * l) < s 119 then 0 else 1) (s (6 * l + 1)) (s (6 * l + 2)) (s 116) (z_S3 s) (z_I (z_LT s)) 10 1990 0 rfl
  rw [show FU = 1990 + 10 from rfl, show (0 : Int32) = z_I 0 from rfl] at *
  rw [e10, show (1990 : Nat) = 1989 + 1 from rfl, fL_isAskingSo_b413, if_pos (by decide), if_neg (by decide), f1, z_ob, if_pos (by rw [hb1]; rfl), f2, z_ob]
  by_cases c8 : s (6 * l + 1) = z_I 7
  · rw [if_pos c8] at hb2
    rw [if_pos c8, if_neg (by decide)]
    unfold fL_isAskingSo_b511
    exact t520 _ _ hb2
  · rw [if_neg c8] at hb2
    rw [if_neg c8, if_pos (show z_I 0 = 0 from rfl)]
    by_cases c6 : s (6 * l) < s 119
    · rw [if_pos c6] at hb2
      rw [if_pos c6, if_pos (show z_I 0 = 0 from rfl)]
      exact t520 _ _ (by rw [hb2, zt_sub1])
    · rw [if_neg c6] at hb2
      rw [if_neg c6, if_neg (by decide)]
      unfold fL_isAskingSo_b511
      exact t520 _ _ hb2
theorem zt_asking (R : z_RelC x s m sv kp sl len tx) (hm : m ≤ 6) (O : z_OKs s) {T : Nat} (hT : T ≤ 100000) (J : zi_J T s) {l f n : Nat} (hl : l < 10) (hf : f < 12) (h1 : 1 ≤ n) (h9 : n ≤ 9) (hh : f + n ≤ 12) :
    ∃ x' m1 sv', fL_isAskingSo 0 (z_I l) (z_I f) (z_I n) x = some (1, x') ∧ z_RelC x' s m1 sv' kp sl len tx ∧ z_FrC x x' := by
  obtain ⟨x1, e1, R1, F1⟩ := zt_b141 R O hl hf h1 h9 hh (if s (6 * l + 1) = z_I 7 then 1 else 0) (if s (6 * l) < s 119 then 0 else 1)
  rw [zt_b6 R hl hh, zt_b53 R O hl hf h1 hh, e1]
  by_cases h : 10 ≤ z_AN s l f n
  · obtain ⟨x', m1, e2, R2, F2⟩ := zt_granted O hT J hl hf h1 hh h hm R1
    refine ⟨x', m1, z_nV m sv s, ?_, R2, z_FrC_trans F1 F2⟩
    rw [if_pos h]
    exact e2
  · obtain ⟨x', m1, e2, R2, F2⟩ := zt_refused O hl h1 hh h hm R1 (if s (6 * l + 1) = z_I 7 then 1 else 0) (if s (6 * l) < s 119 then 0 else 1) (z_I (z_AN s l f n)) (z_I (z_WO s l f n)) (s 116) (z_S3 s)
    refine ⟨x', m1, z_nV m sv s, ?_, R2, z_FrC_trans F1 F2⟩
    rw [if_neg h]
    exact e2
end
